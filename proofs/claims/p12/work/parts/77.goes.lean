/-! Which row's member goes. -/
def rt (T : Nat → Rat) (C9 x : Nat) : Rat := T (35 * x + 34) * (T (35 * x + C9))⁻¹
def Best (T : Nat → Rat) (b : Nat → Nat) (C9 j B : Nat) : Prop := B < j ∧ 0 < T (35 * B + C9) ∧ ∀ x, x < j → 0 < T (35 * x + C9) → rt T C9 B ≤ rt T C9 x ∧ (rt T C9 B = rt T C9 x → b B ≤ b x)
section BEST
variable {T : Nat → Rat} {b : Nat → Nat} {C9 j B : Nat}
theorem best_skip (h : Best T b C9 j B) (hp : ¬ 0 < T (35 * j + C9)) : Best T b C9 (j + 1) B := ⟨by have := h.1; omega, h.2.1, fun x hx hq => by
  by_cases z : x = j
  · rw [z] at hq; exact absurd hq hp
  · exact h.2.2 x (by omega) hq⟩
theorem best_first (h : ∀ x, x < j → ¬ 0 < T (35 * x + C9)) (hp : 0 < T (35 * j + C9)) : Best T b C9 (j + 1) j := ⟨by omega, hp, fun x hx hq => by
  by_cases z : x = j
  · rw [z]; exact ⟨Rat.le_refl, fun _ => Nat.le_refl _⟩
  · exact absurd hq (h x (by omega))⟩
theorem best_less (h : Best T b C9 j B) (hp : 0 < T (35 * j + C9)) (hl : rt T C9 j < rt T C9 B) : Best T b C9 (j + 1) j := ⟨by omega, hp, fun x hx hq => by
  by_cases z : x = j
  · rw [z]; exact ⟨Rat.le_refl, fun _ => Nat.le_refl _⟩
  · have := (h.2.2 x (by omega) hq).1
    exact ⟨by grind, fun e => by grind⟩⟩
theorem best_eq (h : Best T b C9 j B) (hp : 0 < T (35 * j + C9)) (he : rt T C9 j = rt T C9 B) (hb : b j < b B) : Best T b C9 (j + 1) j := ⟨by omega, hp, fun x hx hq => by
  by_cases z : x = j
  · rw [z]; exact ⟨Rat.le_refl, fun _ => Nat.le_refl _⟩
  · have := h.2.2 x (by omega) hq
    rw [he]
    exact ⟨this.1, fun e => by have := this.2 e; omega⟩⟩
theorem best_keep (h : Best T b C9 j B) (hl : ¬ rt T C9 j < rt T C9 B) (hb : rt T C9 B = rt T C9 j → b B ≤ b j) : Best T b C9 (j + 1) B := ⟨by have := h.1; omega, h.2.1, fun x hx hq => by
  by_cases z : x = j
  · rw [z]; exact ⟨by grind, hb⟩
  · exact h.2.2 x (by omega) hq⟩
end BEST
theorem FR.inj {t w t2 w2 : Int64} {q q2 : Rat} (h : FR t w q) (h2 : FR t2 w2 q2) : (t.toInt = t2.toInt ∧ w.toInt = w2.toInt) ↔ q = q2 := by
  constructor
  · rintro ⟨e1, e2⟩
    refine Rat.ext ?_ ?_
    · rw [← h.1, ← h2.1, e1]
    · have := h.2; have := h2.2; omega
  · rintro rfl
    exact ⟨h.1.trans h2.1.symm, h.2.trans h2.2.symm⟩
def W0 (k j : Nat) : Prop := k = 124 ∧ (j = 7 ∨ j = 8)
theorem W0_rw : ∀ q ∈ RWT, ¬ W0 124 q.1 := fun q hq z => W1_rw q hq (Or.inr (Or.inr z))
def BasR (hs : List CE) (b : Nat → Nat) (N9 : Nat) : Prop := ∀ x, x < N9 → ∃ bi : Int32, rd hs 141 x = .int bi ∧ bi.toInt = (b x : Int)
def SmG (T : Nat → Rat) (C9 N9 : Nat) : Prop := (∀ x, x < N9 → 0 < T (35 * x + C9) → ((T (35 * x + 34)).num.natAbs : Int) * ((T (35 * x + C9)).den : Int) < 9223372036854775808 ∧ ((T (35 * x + 34)).den : Int) * ((T (35 * x + C9)).num.natAbs : Int) < 9223372036854775808) ∧
  ∀ x y, x < N9 → y < N9 → 0 < T (35 * x + C9) → 0 < T (35 * y + C9) → ((rt T C9 x).num.natAbs : Int) * ((rt T C9 y).den : Int) + ((rt T C9 y).num.natAbs : Int) * ((rt T C9 x).den : Int) < 9223372036854775808
theorem FR.gt {t w : Int64} {q : Rat} (h : FR t w q) : 0 < t.toInt ↔ 0 < q := by
  have h1 := h.ge
  have h2 := h.z
  constructor
  · intro p
    have := h1.mp (by omega)
    have : q ≠ 0 := fun e => by have := h2.mpr e; omega
    grind
  · intro p
    have := h1.mpr (Rat.le_of_lt p)
    have : t.toInt ≠ 0 := fun e => by have := h2.mp e; grind
    omega
set_option maxHeartbeats 1000000 in
theorem goes_loop {g0 : GG} {bl : Nat} {xs : Nat → Int32} {l : Launch} {wp : va_W} {p : Program} {e : Env} {R : Room} {s : State} {m : MethodId} {args : Array Value} {below : List Frame} {meth : Method} {c : Code} {Q : State → Prop} {kc0 ks0 kc ks f lam KC KS : Nat} {hs : List CE} {T : Nat → Rat} {b9 : Nat → Nat} {c9 ni : Int32} {C9 N9 : Nat} (hc9 : c9.toInt = (C9 : Int)) (hni : ni.toInt = (N9 : Int)) (hnr : rd hs 124 28 = .int ni) (hN : N9 ≤ 30) (hC : C9 < 35) (hB9 : BasR hs b9 N9) (hSm : SmG T C9 N9) (hf : 3 ≤ R.frames) (hl : 87 ≤ R.locals) (hc : kc ≤ R.cells + kc0) (hsl : ks ≤ R.slots + ks0) (act : Act SSX TBL (gp g0 wp) CLS bl xs D_214 p l s m args meth c) (hEnd : EndN SSX TBL (gp g0 wp) CLS D_214 p l e R s m args below meth c Q kc0 ks0 f lam KC KS (fun kd r h2 => kd = 0 ∧ FrS W0 hs h2 ∧ ((∃ (bi : Int32) (B : Nat), r = some (.int bi) ∧ bi.toInt = (B : Int) ∧ Best T b9 C9 N9 B) ∨ (∀ x, x < N9 → ¬ 0 < T (35 * x + C9))))) (hk1 : kc ≤ KC) (hk2 : ks ≤ KS) : ∀ (n j : Nat) (ri bi : Int32) (nn dd : Int64) (hj : List CE), j + n = N9 → ri.toInt = (j : Int) → RW hj → TabR hj T → FrS W0 hs hj → ((bi.toInt = -1 ∧ ∀ x, x < j → ¬ 0 < T (35 * x + C9)) ∨ ∃ B : Nat, bi.toInt = (B : Int) ∧ FR nn dd (rt T C9 B) ∧ Best T b9 C9 j B) → WpN (gp g0 wp) CLS p l e R s m args below meth c Q D_214.2.2.1 kc0 ks0 10 [some (.ref 124), some (.int c9), some (.int bi), some (.long nn), none, some (.long dd), none, some (.int ri), none, none] (hj, kc, ks) [] := by
  intro n
  induction n with
  | zero =>
    intro j ri bi nn dd hj hjn hrj rwj hTj hfr hinv
    obtain rfl : j = N9 := by omega
    rcases hinv with ⟨hbi, hno⟩ | ⟨B, hbi, hFB, hBB⟩
    · refine g_loadI act (gx gp_214 (w := 0x7000c02) rfl (by decide) rfl) (a := 7) (n := 12) rfl rfl rfl ?_
      refine g_loadA act (gx gp_214 (w := 0xd03) rfl (by decide) rfl) (a := 0) (n := 13) rfl rfl rfl ?_
      refine r_getf act (gx gp_214 (w := 0x709001004) rfl (by decide) rfl) (n := 16) (ci := 9) (j := 28) (N := 39) rfl rfl rfl rwj.1 (by decide) (v := .int ni) ((hfr.2.2 124 28 (by unfold W0; omega)).trans hnr) ?_
      refine g_icmpGe act (gx gp_214 (w := 0xb5001308) rfl (by decide) rfl) (tgt := 181) (n := 19) rfl rfl (fun h3 => ?_) (fun h3 => ?_)
      · simp only [i_le] at h3
        refine g_loadI act (gx gp_214 (w := 0x200b602) rfl (by decide) rfl) (a := 2) (n := 182) rfl rfl rfl ?_
        exact g_retI hEnd (gx gp_214 (w := 0x2f) rfl (by decide) rfl) ⟨rfl, hfr, Or.inr hno⟩ hk1 hk2
      · simp only [i_le] at h3
        omega
    · refine g_loadI act (gx gp_214 (w := 0x7000c02) rfl (by decide) rfl) (a := 7) (n := 12) rfl rfl rfl ?_
      refine g_loadA act (gx gp_214 (w := 0xd03) rfl (by decide) rfl) (a := 0) (n := 13) rfl rfl rfl ?_
      refine r_getf act (gx gp_214 (w := 0x709001004) rfl (by decide) rfl) (n := 16) (ci := 9) (j := 28) (N := 39) rfl rfl rfl rwj.1 (by decide) (v := .int ni) ((hfr.2.2 124 28 (by unfold W0; omega)).trans hnr) ?_
      refine g_icmpGe act (gx gp_214 (w := 0xb5001308) rfl (by decide) rfl) (tgt := 181) (n := 19) rfl rfl (fun h3 => ?_) (fun h3 => ?_)
      · simp only [i_le] at h3
        refine g_loadI act (gx gp_214 (w := 0x200b602) rfl (by decide) rfl) (a := 2) (n := 182) rfl rfl rfl ?_
        exact g_retI hEnd (gx gp_214 (w := 0x2f) rfl (by decide) rfl) ⟨rfl, hfr, Or.inl ⟨bi, B, rfl, hbi, hBB⟩⟩ hk1 hk2
      · simp only [i_le] at h3
        omega
  | succ n ih =>
    intro j ri bi nn dd hj hjn hrj rwj hTj hfr hinv
    have hix := idx35 hrj hc9 (show 35 * j + C9 < 1295 by omega)
    have hix2 := idx35 hrj (show (34 : Int32).toInt = ((34 : Nat) : Int) by decide) (show 35 * j + 34 < 1295 by omega)
    rcases hinv with ⟨hbi, hno⟩ | ⟨B, hbi, hFB, hBB⟩
    · refine g_loadI act (gx gp_214 (w := 0x7000c02) rfl (by decide) rfl) (a := 7) (n := 12) rfl rfl rfl ?_
      refine g_loadA act (gx gp_214 (w := 0xd03) rfl (by decide) rfl) (a := 0) (n := 13) rfl rfl rfl ?_
      refine r_getf act (gx gp_214 (w := 0x709001004) rfl (by decide) rfl) (n := 16) (ci := 9) (j := 28) (N := 39) rfl rfl rfl rwj.1 (by decide) (v := .int ni) ((hfr.2.2 124 28 (by unfold W0; omega)).trans hnr) ?_
      refine g_icmpGe act (gx gp_214 (w := 0xb5001308) rfl (by decide) rfl) (tgt := 181) (n := 19) rfl rfl (fun h3 => ?_) (fun h3 => ?_)
      · simp only [i_le] at h3
        omega
      · simp only [i_le] at h3
        refine g_constI act (gx gp_214 (w := 0x40000011c00000119000000001501) rfl (by decide) rfl) (n := 21) (x := (35 : Int32)) (by decide) rfl ?_
        refine g_loadI act (gx gp_214 (w := 0x7001702) rfl (by decide) rfl) (a := 7) (n := 23) rfl rfl rfl ?_
        refine g_imul act (gx gp_214 (w := 0x1811) rfl (by decide) rfl) (n := 24) rfl ?_
        refine g_loadI act (gx gp_214 (w := 0x1001902) rfl (by decide) rfl) (a := 1) (n := 25) rfl rfl rfl ?_
        refine g_iadd act (gx gp_214 (w := 0x1a0a) rfl (by decide) rfl) (n := 26) rfl ?_
        refine g_storeI act (gx gp_214 (w := 0x8001c10) rfl (by decide) rfl) (a := 8) (n := 28) rfl rfl (L2 := [some (.ref 124), some (.int c9), some (.int bi), some (.long nn), none, some (.long dd), none, some (.int ri), some (.int (((35 : Int32) * ri) + c9)), none]) rfl ?_
        refine g_loadA act (gx gp_214 (w := 0x1d03) rfl (by decide) rfl) (a := 0) (n := 29) rfl rfl rfl ?_
        refine r_getf act (gx gp_214 (w := 0x3000649002004) rfl (by decide) rfl) (n := 32) (ci := 9) (j := 25) (N := 39) rfl rfl rfl rwj.1 (by decide) (rwj.2 (25, 139, 33, 1295) (by decide)).1 ?_
        refine g_loadI act (gx gp_214 (w := 0x8002202) rfl (by decide) rfl) (a := 8) (n := 34) rfl rfl rfl ?_
        obtain ⟨t, w9, e1, e2, hF⟩ := hTj (35 * j + C9) (by omega)
        refine r_lald act (gx gp_214 (w := 0x230d) rfl (by decide) rfl) (n := 35) (j := (35 * j + C9)) rfl (rwj.2 (25, 139, 33, 1295) (by decide)).2 hix (show 35 * j + C9 < 1295 by omega) (v := .long t) e1 ?_
        refine g_constL act (gx gp_214 (w := 0x40000000000000002000000002401) rfl (by decide) rfl) (n := 36) (x := 0) (by decide) rfl ?_
        refine g_lcmp act (gx gp_214 (w := 0x250c) rfl (by decide) rfl) (n := 37) rfl ?_
        refine g_ifGt act (gx gp_214 (w := 0x2b002843) rfl (by decide) rfl) (tgt := 43) (n := 40) rfl rfl (fun h14 => ?_) (fun h14 => ?_)
        · simp only [cmpGt, show (0 : Int64).toInt = 0 from by decide] at h14
          refine g_loadA act (gx gp_214 (w := 0x2c03) rfl (by decide) rfl) (a := 0) (n := 44) rfl rfl rfl ?_
          refine g_loadA act (gx gp_214 (w := 0x2d03) rfl (by decide) rfl) (a := 0) (n := 45) rfl rfl rfl ?_
          refine r_getf act (gx gp_214 (w := 0x3000649003004) rfl (by decide) rfl) (n := 48) (ci := 9) (j := 25) (N := 39) rfl rfl rfl rwj.1 (by decide) (rwj.2 (25, 139, 33, 1295) (by decide)).1 ?_
          refine g_constI act (gx gp_214 (w := 0x40000011c00000119000000003201) rfl (by decide) rfl) (n := 50) (x := (35 : Int32)) (by decide) rfl ?_
          refine g_loadI act (gx gp_214 (w := 0x7003402) rfl (by decide) rfl) (a := 7) (n := 52) rfl rfl rfl ?_
          refine g_imul act (gx gp_214 (w := 0x3511) rfl (by decide) rfl) (n := 53) rfl ?_
          refine g_constI act (gx gp_214 (w := 0x40000011400000111000000003701) rfl (by decide) rfl) (n := 55) (x := (34 : Int32)) (by decide) rfl ?_
          refine g_iadd act (gx gp_214 (w := 0x380a) rfl (by decide) rfl) (n := 56) rfl ?_
          obtain ⟨t5, w5, e5, e6, hF5⟩ := hTj (35 * j + 34) (by omega)
          refine r_lald act (gx gp_214 (w := 0x390d) rfl (by decide) rfl) (n := 57) (j := (35 * j + 34)) rfl (rwj.2 (25, 139, 33, 1295) (by decide)).2 hix2 (show 35 * j + 34 < 1295 by omega) (v := .long t5) e5 ?_
          refine g_loadA act (gx gp_214 (w := 0x3a03) rfl (by decide) rfl) (a := 0) (n := 58) rfl rfl rfl ?_
          refine r_getf act (gx gp_214 (w := 0x3000689003d04) rfl (by decide) rfl) (n := 61) (ci := 9) (j := 26) (N := 39) rfl rfl rfl rwj.1 (by decide) (rwj.2 (26, 140, 33, 1295) (by decide)).1 ?_
          refine g_constI act (gx gp_214 (w := 0x40000011c00000119000000003f01) rfl (by decide) rfl) (n := 63) (x := (35 : Int32)) (by decide) rfl ?_
          refine g_loadI act (gx gp_214 (w := 0x7004102) rfl (by decide) rfl) (a := 7) (n := 65) rfl rfl rfl ?_
          refine g_imul act (gx gp_214 (w := 0x4211) rfl (by decide) rfl) (n := 66) rfl ?_
          refine g_constI act (gx gp_214 (w := 0x40000011400000111000000004401) rfl (by decide) rfl) (n := 68) (x := (34 : Int32)) (by decide) rfl ?_
          refine g_iadd act (gx gp_214 (w := 0x450a) rfl (by decide) rfl) (n := 69) rfl ?_
          refine r_lald act (gx gp_214 (w := 0x460d) rfl (by decide) rfl) (n := 70) (j := (35 * j + 34)) rfl (rwj.2 (26, 140, 33, 1295) (by decide)).2 hix2 (show 35 * j + 34 < 1295 by omega) (v := .long w5) e6 ?_
          refine g_loadA act (gx gp_214 (w := 0x4703) rfl (by decide) rfl) (a := 0) (n := 71) rfl rfl rfl ?_
          refine r_getf act (gx gp_214 (w := 0x3000689004a04) rfl (by decide) rfl) (n := 74) (ci := 9) (j := 26) (N := 39) rfl rfl rfl rwj.1 (by decide) (rwj.2 (26, 140, 33, 1295) (by decide)).1 ?_
          refine g_loadI act (gx gp_214 (w := 0x8004c02) rfl (by decide) rfl) (a := 8) (n := 76) rfl rfl rfl ?_
          refine r_lald act (gx gp_214 (w := 0x4d0d) rfl (by decide) rfl) (n := 77) (j := (35 * j + C9)) rfl (rwj.2 (26, 140, 33, 1295) (by decide)).2 hix (show 35 * j + C9 < 1295 by omega) (v := .long w9) e2 ?_
          refine g_loadA act (gx gp_214 (w := 0x4e03) rfl (by decide) rfl) (a := 0) (n := 78) rfl rfl rfl ?_
          refine r_getf act (gx gp_214 (w := 0x3000649005104) rfl (by decide) rfl) (n := 81) (ci := 9) (j := 25) (N := 39) rfl rfl rfl rwj.1 (by decide) (rwj.2 (25, 139, 33, 1295) (by decide)).1 ?_
          refine g_loadI act (gx gp_214 (w := 0x8005302) rfl (by decide) rfl) (a := 8) (n := 83) rfl rfl rfl ?_
          refine r_lald act (gx gp_214 (w := 0x540d) rfl (by decide) rfl) (n := 84) (j := (35 * j + C9)) rfl (rwj.2 (25, 139, 33, 1295) (by decide)).2 hix (show 35 * j + C9 < 1295 by omega) (v := .long t) e1 ?_
          have hpj := hF.gt.mp (by omega)
          have hs1 := hSm.1 j (by omega) hpj
          have hm1 : (t5.toInt.natAbs : Int) * (w9.toInt.natAbs : Int) < 9223372036854775808 := by rw [hF5.1, hF.2, Int.natAbs_natCast]; exact hs1.1
          have hm2 : (w5.toInt.natAbs : Int) * (t.toInt.natAbs : Int) < 9223372036854775808 := by rw [hF5.2, hF.1, Int.natAbs_natCast]; exact hs1.2
          have hw9 : -9223372036854775808 < w9.toInt := by have := hF.pos; omega
          have ht9 : -9223372036854775808 < t.toInt := by omega
          have hbp : 1 ≤ w9.toInt := by have := hF.pos; omega
          have ht5 : -9223372036854775808 < t5.toInt := by
            have hq := mul_le t5.toInt (show (0 : Int) ≤ 1 by decide) hbp
            have e7 : (w9.toInt.natAbs : Int) = w9.toInt := by omega
            rw [e7] at hm1
            omega
          refine n_call tb_pres act hEnd (gx (P := G_call) gp_214 (w := 0xa0000000000008349500011a00570f) rfl (by decide) rfl) (d' := D_282) rfl (as := [.ref 124, .long t5, .long w5, .long w9, .long t]) (rest := []) (b_times rwj.1 hF5 (by omega) hw9 ht9 hm1 hm2 ht5) (show (5 : Nat) = fb 0xa0000000000008349500011a00570f % 16 by decide) (by show (9 : Nat) ≤ 13; decide) (fun _ => ⟨_, _, rfl, _, shp_at rwj.1, Or.inr (show fb 0xa0000000000008349500011a00570f >>> 68 = 10 by decide)⟩) (by omega) (by show 8 + (13 + 11) + 55 ≤ R.locals; omega) (by show (0 : Nat) ≤ 8; decide) (by show kc + 0 ≤ _; omega) (by show ks + 0 ≤ _; omega) (fun r9 hs9 hpo hr9 => ?_) (fun x9 hs9 hx9 hpo => ?_)
          · obtain rfl : r9 = none := hr9.elim (fun q => q.2) (fun q => absurd rfl q.1)
            obtain ⟨-, t8, w8, rfl, hf8⟩ := hpo
            have rw1 := RW.wr (k := 124) (j := 7) (v := .long t8) rwj (Or.inr (by decide))
            have rw2 := RW.wr (k := 124) (j := 8) (v := .long w8) rw1 (Or.inr (by decide))
            rw [hF.inv] at hf8
            have hf8 : FR t8 w8 (rt T C9 j) := hf8
            show WpN (gp g0 wp) CLS p l e R s m args below meth c Q D_214.2.2.1 kc0 ks0 87 [some (.ref 124), some (.int c9), some (.int bi), some (.long nn), none, some (.long dd), none, some (.int ri), some (.int (((35 : Int32) * ri) + c9)), none] ((wr (wr hj 124 7 (.long t8)) 124 8 (.long w8)), kc, ks) []
            refine g_loadI act (gx gp_214 (w := 0x2005802) rfl (by decide) rfl) (a := 2) (n := 88) rfl rfl rfl ?_
            refine g_constI act (gx gp_214 (w := 0x3fffffffbfffffff9000000005901) rfl (by decide) rfl) (n := 89) (x := (-1 : Int32)) (by decide) rfl ?_
            refine g_icmpEq act (gx gp_214 (w := 0x73005c2e) rfl (by decide) rfl) (tgt := 115) (n := 92) rfl rfl (fun h34 => ?_) (fun h34 => ?_)
            · simp only [i_eq, show (-1 : Int32).toInt = -1 from by decide] at h34
              refine g_constI act (gx gp_214 (w := 0x40000000400000001000000007401) rfl (by decide) rfl) (n := 116) (x := (0 : Int32)) (by decide) rfl ?_
              refine g_storeI act (gx gp_214 (w := 0x9007610) rfl (by decide) rfl) (a := 9) (n := 118) rfl rfl (L2 := [some (.ref 124), some (.int c9), some (.int bi), some (.long nn), none, some (.long dd), none, some (.int ri), some (.int (((35 : Int32) * ri) + c9)), some (.int (0 : Int32))]) rfl ?_
              refine g_loadI act (gx gp_214 (w := 0x2007702) rfl (by decide) rfl) (a := 2) (n := 119) rfl rfl rfl ?_
              refine g_constI act (gx gp_214 (w := 0x3fffffffbfffffff9000000007801) rfl (by decide) rfl) (n := 120) (x := (-1 : Int32)) (by decide) rfl ?_
              refine g_icmpEq act (gx gp_214 (w := 0xa1007b2e) rfl (by decide) rfl) (tgt := 161) (n := 123) rfl rfl (fun h39 => ?_) (fun h39 => ?_)
              · simp only [i_eq, show (-1 : Int32).toInt = -1 from by decide] at h39
                refine g_loadI act (gx gp_214 (w := 0x700a302) rfl (by decide) rfl) (a := 7) (n := 163) rfl rfl rfl ?_
                refine g_storeI act (gx gp_214 (w := 0x200a410) rfl (by decide) rfl) (a := 2) (n := 164) rfl rfl (L2 := [some (.ref 124), some (.int c9), some (.int ri), some (.long nn), none, some (.long dd), none, some (.int ri), some (.int (((35 : Int32) * ri) + c9)), some (.int (0 : Int32))]) rfl ?_
                refine g_loadA act (gx gp_214 (w := 0xa503) rfl (by decide) rfl) (a := 0) (n := 165) rfl rfl rfl ?_
                refine r_getf act (gx gp_214 (w := 0x20001c900a804) rfl (by decide) rfl) (n := 168) (ci := 9) (j := 7) (N := 39) rfl rfl rfl rw2.1 (by decide) (v := .long t8) (by first | (rw [rd_ne _ _ (Or.inl (by decide)), rd_ne _ _ (Or.inr (by decide))]; exact rd_same rwj.1) | (rw [rd_ne _ _ (Or.inr (by decide))]; exact rd_same rwj.1)) ?_
                refine g_storeL act (gx gp_214 (w := 0x300a90b) rfl (by decide) rfl) (a := 3) (n := 169) rfl rfl (L2 := [some (.ref 124), some (.int c9), some (.int ri), some (.long t8), none, some (.long dd), none, some (.int ri), some (.int (((35 : Int32) * ri) + c9)), some (.int (0 : Int32))]) rfl ?_
                refine g_loadA act (gx gp_214 (w := 0xaa03) rfl (by decide) rfl) (a := 0) (n := 170) rfl rfl rfl ?_
                refine r_getf act (gx gp_214 (w := 0x200020900ad04) rfl (by decide) rfl) (n := 173) (ci := 9) (j := 8) (N := 39) rfl rfl rfl rw2.1 (by decide) (v := .long w8) (by first | (rw [rd_ne _ _ (Or.inl (by decide))]; exact rd_same (by rw [shp_wr]; exact rwj.1)) | exact rd_same (by rw [shp_wr]; exact rwj.1)) ?_
                refine g_storeL act (gx gp_214 (w := 0x500af0b) rfl (by decide) rfl) (a := 5) (n := 175) rfl rfl (L2 := [some (.ref 124), some (.int c9), some (.int ri), some (.long t8), none, some (.long w8), none, some (.int ri), some (.int (((35 : Int32) * ri) + c9)), some (.int (0 : Int32))]) rfl ?_
                refine g_iinc act (gx gp_214 (w := 0x8000000100000700b209) rfl (by decide) rfl) (a := 7) (i := (1 : Int32)) (n := 178) rfl (by decide) rfl rfl (L2 := [some (.ref 124), some (.int c9), some (.int ri), some (.long t8), none, some (.long w8), none, some (.int (ri + (1 : Int32))), some (.int (((35 : Int32) * ri) + c9)), some (.int (0 : Int32))]) rfl ?_
                refine g_goto act (gx gp_214 (w := 0xa07) rfl (by decide) rfl) (n := 10) rfl ?_
                have hk2i : (ri + (1 : Int32)).toInt = ((j + 1 : Nat) : Int) := by rw [i_add (by rw [hrj]; show _ ≤ (j : Int) + 1; omega) (by rw [hrj]; show (j : Int) + 1 < _; omega), hrj]; rfl
                have hT2 : TabR (wr (wr hj 124 7 (.long t8)) 124 8 (.long w8)) T := hTj.fr (fun k9 j9 h9 => by rw [rd_ne _ _ (Or.inl (by omega)), rd_ne _ _ (Or.inl (by omega))])
                have hf3 := (hfr.wr (k := 124) (j := 7) (.long t8) ⟨rfl, Or.inl rfl⟩).wr (k := 124) (j := 8) (.long w8) ⟨rfl, Or.inr rfl⟩
                exact n_forget (d := D_214) (L2 := [some (.ref 124), some (.int c9), some (.int ri), some (.long t8), none, some (.long w8), none, some (.int (ri + (1 : Int32))), none, none]) (fun i v hi => by
                  match i, hi with
                  | 0, hi => exact hi
                  | 1, hi => exact hi
                  | 2, hi => exact hi
                  | 3, hi => exact hi
                  | 4, hi => cases hi
                  | 5, hi => exact hi
                  | 6, hi => cases hi
                  | 7, hi => exact hi
                  | 8, hi => cases hi
                  | 9, hi => cases hi
                  | i + 10, hi => cases hi) (ih (j + 1) _ _ _ _ _ (by omega) hk2i rw2 hT2 hf3 (Or.inr ⟨j, hrj, hf8, best_first hno hpj⟩))
              · simp only [i_eq, show (-1 : Int32).toInt = -1 from by decide] at h39
                omega
            · simp only [i_eq, show (-1 : Int32).toInt = -1 from by decide] at h34
              omega
          · exact absurd hpo.1 (by omega)
        · simp only [cmpGt, show (0 : Int64).toInt = 0 from by decide] at h14
          refine g_goto act (gx gp_214 (w := 0xaf07) rfl (by decide) rfl) (n := 175) rfl ?_
          refine g_iinc act (gx gp_214 (w := 0x8000000100000700b209) rfl (by decide) rfl) (a := 7) (i := (1 : Int32)) (n := 178) rfl (by decide) rfl rfl (L2 := [some (.ref 124), some (.int c9), some (.int bi), some (.long nn), none, some (.long dd), none, some (.int (ri + (1 : Int32))), some (.int (((35 : Int32) * ri) + c9)), none]) rfl ?_
          refine g_goto act (gx gp_214 (w := 0xa07) rfl (by decide) rfl) (n := 10) rfl ?_
          have hk2i : (ri + (1 : Int32)).toInt = ((j + 1 : Nat) : Int) := by rw [i_add (by rw [hrj]; show _ ≤ (j : Int) + 1; omega) (by rw [hrj]; show (j : Int) + 1 < _; omega), hrj]; rfl
          have hnp : ¬ 0 < T (35 * j + C9) := fun q => by have := hF.gt.mpr q; omega
          exact n_forget (d := D_214) (L2 := [some (.ref 124), some (.int c9), some (.int bi), some (.long nn), none, some (.long dd), none, some (.int (ri + (1 : Int32))), none, none]) (fun i v hi => by
            match i, hi with
            | 0, hi => exact hi
            | 1, hi => exact hi
            | 2, hi => exact hi
            | 3, hi => exact hi
            | 4, hi => cases hi
            | 5, hi => exact hi
            | 6, hi => cases hi
            | 7, hi => exact hi
            | 8, hi => cases hi
            | 9, hi => cases hi
            | i + 10, hi => cases hi) (ih (j + 1) _ _ _ _ hj (by omega) hk2i rwj hTj hfr (Or.inl ⟨hbi, fun x hx => by
              by_cases z : x = j
              · rw [z]; exact hnp
              · exact hno x (by omega)⟩))
    · refine g_loadI act (gx gp_214 (w := 0x7000c02) rfl (by decide) rfl) (a := 7) (n := 12) rfl rfl rfl ?_
      refine g_loadA act (gx gp_214 (w := 0xd03) rfl (by decide) rfl) (a := 0) (n := 13) rfl rfl rfl ?_
      refine r_getf act (gx gp_214 (w := 0x709001004) rfl (by decide) rfl) (n := 16) (ci := 9) (j := 28) (N := 39) rfl rfl rfl rwj.1 (by decide) (v := .int ni) ((hfr.2.2 124 28 (by unfold W0; omega)).trans hnr) ?_
      refine g_icmpGe act (gx gp_214 (w := 0xb5001308) rfl (by decide) rfl) (tgt := 181) (n := 19) rfl rfl (fun h3 => ?_) (fun h3 => ?_)
      · simp only [i_le] at h3
        omega
      · simp only [i_le] at h3
        refine g_constI act (gx gp_214 (w := 0x40000011c00000119000000001501) rfl (by decide) rfl) (n := 21) (x := (35 : Int32)) (by decide) rfl ?_
        refine g_loadI act (gx gp_214 (w := 0x7001702) rfl (by decide) rfl) (a := 7) (n := 23) rfl rfl rfl ?_
        refine g_imul act (gx gp_214 (w := 0x1811) rfl (by decide) rfl) (n := 24) rfl ?_
        refine g_loadI act (gx gp_214 (w := 0x1001902) rfl (by decide) rfl) (a := 1) (n := 25) rfl rfl rfl ?_
        refine g_iadd act (gx gp_214 (w := 0x1a0a) rfl (by decide) rfl) (n := 26) rfl ?_
        refine g_storeI act (gx gp_214 (w := 0x8001c10) rfl (by decide) rfl) (a := 8) (n := 28) rfl rfl (L2 := [some (.ref 124), some (.int c9), some (.int bi), some (.long nn), none, some (.long dd), none, some (.int ri), some (.int (((35 : Int32) * ri) + c9)), none]) rfl ?_
        refine g_loadA act (gx gp_214 (w := 0x1d03) rfl (by decide) rfl) (a := 0) (n := 29) rfl rfl rfl ?_
        refine r_getf act (gx gp_214 (w := 0x3000649002004) rfl (by decide) rfl) (n := 32) (ci := 9) (j := 25) (N := 39) rfl rfl rfl rwj.1 (by decide) (rwj.2 (25, 139, 33, 1295) (by decide)).1 ?_
        refine g_loadI act (gx gp_214 (w := 0x8002202) rfl (by decide) rfl) (a := 8) (n := 34) rfl rfl rfl ?_
        obtain ⟨t, w9, e1, e2, hF⟩ := hTj (35 * j + C9) (by omega)
        refine r_lald act (gx gp_214 (w := 0x230d) rfl (by decide) rfl) (n := 35) (j := (35 * j + C9)) rfl (rwj.2 (25, 139, 33, 1295) (by decide)).2 hix (show 35 * j + C9 < 1295 by omega) (v := .long t) e1 ?_
        refine g_constL act (gx gp_214 (w := 0x40000000000000002000000002401) rfl (by decide) rfl) (n := 36) (x := 0) (by decide) rfl ?_
        refine g_lcmp act (gx gp_214 (w := 0x250c) rfl (by decide) rfl) (n := 37) rfl ?_
        refine g_ifGt act (gx gp_214 (w := 0x2b002843) rfl (by decide) rfl) (tgt := 43) (n := 40) rfl rfl (fun h14 => ?_) (fun h14 => ?_)
        · simp only [cmpGt, show (0 : Int64).toInt = 0 from by decide] at h14
          refine g_loadA act (gx gp_214 (w := 0x2c03) rfl (by decide) rfl) (a := 0) (n := 44) rfl rfl rfl ?_
          refine g_loadA act (gx gp_214 (w := 0x2d03) rfl (by decide) rfl) (a := 0) (n := 45) rfl rfl rfl ?_
          refine r_getf act (gx gp_214 (w := 0x3000649003004) rfl (by decide) rfl) (n := 48) (ci := 9) (j := 25) (N := 39) rfl rfl rfl rwj.1 (by decide) (rwj.2 (25, 139, 33, 1295) (by decide)).1 ?_
          refine g_constI act (gx gp_214 (w := 0x40000011c00000119000000003201) rfl (by decide) rfl) (n := 50) (x := (35 : Int32)) (by decide) rfl ?_
          refine g_loadI act (gx gp_214 (w := 0x7003402) rfl (by decide) rfl) (a := 7) (n := 52) rfl rfl rfl ?_
          refine g_imul act (gx gp_214 (w := 0x3511) rfl (by decide) rfl) (n := 53) rfl ?_
          refine g_constI act (gx gp_214 (w := 0x40000011400000111000000003701) rfl (by decide) rfl) (n := 55) (x := (34 : Int32)) (by decide) rfl ?_
          refine g_iadd act (gx gp_214 (w := 0x380a) rfl (by decide) rfl) (n := 56) rfl ?_
          obtain ⟨t5, w5, e5, e6, hF5⟩ := hTj (35 * j + 34) (by omega)
          refine r_lald act (gx gp_214 (w := 0x390d) rfl (by decide) rfl) (n := 57) (j := (35 * j + 34)) rfl (rwj.2 (25, 139, 33, 1295) (by decide)).2 hix2 (show 35 * j + 34 < 1295 by omega) (v := .long t5) e5 ?_
          refine g_loadA act (gx gp_214 (w := 0x3a03) rfl (by decide) rfl) (a := 0) (n := 58) rfl rfl rfl ?_
          refine r_getf act (gx gp_214 (w := 0x3000689003d04) rfl (by decide) rfl) (n := 61) (ci := 9) (j := 26) (N := 39) rfl rfl rfl rwj.1 (by decide) (rwj.2 (26, 140, 33, 1295) (by decide)).1 ?_
          refine g_constI act (gx gp_214 (w := 0x40000011c00000119000000003f01) rfl (by decide) rfl) (n := 63) (x := (35 : Int32)) (by decide) rfl ?_
          refine g_loadI act (gx gp_214 (w := 0x7004102) rfl (by decide) rfl) (a := 7) (n := 65) rfl rfl rfl ?_
          refine g_imul act (gx gp_214 (w := 0x4211) rfl (by decide) rfl) (n := 66) rfl ?_
          refine g_constI act (gx gp_214 (w := 0x40000011400000111000000004401) rfl (by decide) rfl) (n := 68) (x := (34 : Int32)) (by decide) rfl ?_
          refine g_iadd act (gx gp_214 (w := 0x450a) rfl (by decide) rfl) (n := 69) rfl ?_
          refine r_lald act (gx gp_214 (w := 0x460d) rfl (by decide) rfl) (n := 70) (j := (35 * j + 34)) rfl (rwj.2 (26, 140, 33, 1295) (by decide)).2 hix2 (show 35 * j + 34 < 1295 by omega) (v := .long w5) e6 ?_
          refine g_loadA act (gx gp_214 (w := 0x4703) rfl (by decide) rfl) (a := 0) (n := 71) rfl rfl rfl ?_
          refine r_getf act (gx gp_214 (w := 0x3000689004a04) rfl (by decide) rfl) (n := 74) (ci := 9) (j := 26) (N := 39) rfl rfl rfl rwj.1 (by decide) (rwj.2 (26, 140, 33, 1295) (by decide)).1 ?_
          refine g_loadI act (gx gp_214 (w := 0x8004c02) rfl (by decide) rfl) (a := 8) (n := 76) rfl rfl rfl ?_
          refine r_lald act (gx gp_214 (w := 0x4d0d) rfl (by decide) rfl) (n := 77) (j := (35 * j + C9)) rfl (rwj.2 (26, 140, 33, 1295) (by decide)).2 hix (show 35 * j + C9 < 1295 by omega) (v := .long w9) e2 ?_
          refine g_loadA act (gx gp_214 (w := 0x4e03) rfl (by decide) rfl) (a := 0) (n := 78) rfl rfl rfl ?_
          refine r_getf act (gx gp_214 (w := 0x3000649005104) rfl (by decide) rfl) (n := 81) (ci := 9) (j := 25) (N := 39) rfl rfl rfl rwj.1 (by decide) (rwj.2 (25, 139, 33, 1295) (by decide)).1 ?_
          refine g_loadI act (gx gp_214 (w := 0x8005302) rfl (by decide) rfl) (a := 8) (n := 83) rfl rfl rfl ?_
          refine r_lald act (gx gp_214 (w := 0x540d) rfl (by decide) rfl) (n := 84) (j := (35 * j + C9)) rfl (rwj.2 (25, 139, 33, 1295) (by decide)).2 hix (show 35 * j + C9 < 1295 by omega) (v := .long t) e1 ?_
          have hpj := hF.gt.mp (by omega)
          have hs1 := hSm.1 j (by omega) hpj
          have hm1 : (t5.toInt.natAbs : Int) * (w9.toInt.natAbs : Int) < 9223372036854775808 := by rw [hF5.1, hF.2, Int.natAbs_natCast]; exact hs1.1
          have hm2 : (w5.toInt.natAbs : Int) * (t.toInt.natAbs : Int) < 9223372036854775808 := by rw [hF5.2, hF.1, Int.natAbs_natCast]; exact hs1.2
          have hw9 : -9223372036854775808 < w9.toInt := by have := hF.pos; omega
          have ht9 : -9223372036854775808 < t.toInt := by omega
          have hbp : 1 ≤ w9.toInt := by have := hF.pos; omega
          have ht5 : -9223372036854775808 < t5.toInt := by
            have hq := mul_le t5.toInt (show (0 : Int) ≤ 1 by decide) hbp
            have e7 : (w9.toInt.natAbs : Int) = w9.toInt := by omega
            rw [e7] at hm1
            omega
          refine n_call tb_pres act hEnd (gx (P := G_call) gp_214 (w := 0xa0000000000008349500011a00570f) rfl (by decide) rfl) (d' := D_282) rfl (as := [.ref 124, .long t5, .long w5, .long w9, .long t]) (rest := []) (b_times rwj.1 hF5 (by omega) hw9 ht9 hm1 hm2 ht5) (show (5 : Nat) = fb 0xa0000000000008349500011a00570f % 16 by decide) (by show (9 : Nat) ≤ 13; decide) (fun _ => ⟨_, _, rfl, _, shp_at rwj.1, Or.inr (show fb 0xa0000000000008349500011a00570f >>> 68 = 10 by decide)⟩) (by omega) (by show 8 + (13 + 11) + 55 ≤ R.locals; omega) (by show (0 : Nat) ≤ 8; decide) (by show kc + 0 ≤ _; omega) (by show ks + 0 ≤ _; omega) (fun r9 hs9 hpo hr9 => ?_) (fun x9 hs9 hx9 hpo => ?_)
          · obtain rfl : r9 = none := hr9.elim (fun q => q.2) (fun q => absurd rfl q.1)
            obtain ⟨-, t8, w8, rfl, hf8⟩ := hpo
            have rw1 := RW.wr (k := 124) (j := 7) (v := .long t8) rwj (Or.inr (by decide))
            have rw2 := RW.wr (k := 124) (j := 8) (v := .long w8) rw1 (Or.inr (by decide))
            rw [hF.inv] at hf8
            have hf8 : FR t8 w8 (rt T C9 j) := hf8
            show WpN (gp g0 wp) CLS p l e R s m args below meth c Q D_214.2.2.1 kc0 ks0 87 [some (.ref 124), some (.int c9), some (.int bi), some (.long nn), none, some (.long dd), none, some (.int ri), some (.int (((35 : Int32) * ri) + c9)), none] ((wr (wr hj 124 7 (.long t8)) 124 8 (.long w8)), kc, ks) []
            refine g_loadI act (gx gp_214 (w := 0x2005802) rfl (by decide) rfl) (a := 2) (n := 88) rfl rfl rfl ?_
            refine g_constI act (gx gp_214 (w := 0x3fffffffbfffffff9000000005901) rfl (by decide) rfl) (n := 89) (x := (-1 : Int32)) (by decide) rfl ?_
            refine g_icmpEq act (gx gp_214 (w := 0x73005c2e) rfl (by decide) rfl) (tgt := 115) (n := 92) rfl rfl (fun h34 => ?_) (fun h34 => ?_)
            · simp only [i_eq, show (-1 : Int32).toInt = -1 from by decide] at h34
              omega
            · simp only [i_eq, show (-1 : Int32).toInt = -1 from by decide] at h34
              refine g_loadA act (gx gp_214 (w := 0x5d03) rfl (by decide) rfl) (a := 0) (n := 93) rfl rfl rfl ?_
              refine r_getf act (gx gp_214 (w := 0x20001c9006004) rfl (by decide) rfl) (n := 96) (ci := 9) (j := 7) (N := 39) rfl rfl rfl rw2.1 (by decide) (v := .long t8) (by first | (rw [rd_ne _ _ (Or.inl (by decide)), rd_ne _ _ (Or.inr (by decide))]; exact rd_same rwj.1) | (rw [rd_ne _ _ (Or.inr (by decide))]; exact rd_same rwj.1)) ?_
              refine g_loadL act (gx gp_214 (w := 0x3006106) rfl (by decide) rfl) (a := 3) (n := 97) rfl rfl rfl ?_
              refine g_lcmp act (gx gp_214 (w := 0x620c) rfl (by decide) rfl) (n := 98) rfl ?_
              refine g_ifNe act (gx gp_214 (w := 0x7300651d) rfl (by decide) rfl) (tgt := 115) (n := 101) rfl rfl (fun h38 => ?_) (fun h38 => ?_)
              · simp only [cmpEq] at h38
                refine g_constI act (gx gp_214 (w := 0x40000000400000001000000007401) rfl (by decide) rfl) (n := 116) (x := (0 : Int32)) (by decide) rfl ?_
                refine g_storeI act (gx gp_214 (w := 0x9007610) rfl (by decide) rfl) (a := 9) (n := 118) rfl rfl (L2 := [some (.ref 124), some (.int c9), some (.int bi), some (.long nn), none, some (.long dd), none, some (.int ri), some (.int (((35 : Int32) * ri) + c9)), some (.int (0 : Int32))]) rfl ?_
                refine g_loadI act (gx gp_214 (w := 0x2007702) rfl (by decide) rfl) (a := 2) (n := 119) rfl rfl rfl ?_
                refine g_constI act (gx gp_214 (w := 0x3fffffffbfffffff9000000007801) rfl (by decide) rfl) (n := 120) (x := (-1 : Int32)) (by decide) rfl ?_
                refine g_icmpEq act (gx gp_214 (w := 0xa1007b2e) rfl (by decide) rfl) (tgt := 161) (n := 123) rfl rfl (fun h43 => ?_) (fun h43 => ?_)
                · simp only [i_eq, show (-1 : Int32).toInt = -1 from by decide] at h43
                  omega
                · simp only [i_eq, show (-1 : Int32).toInt = -1 from by decide] at h43
                  refine g_loadA act (gx gp_214 (w := 0x7c03) rfl (by decide) rfl) (a := 0) (n := 124) rfl rfl rfl ?_
                  refine r_getf act (gx gp_214 (w := 0x20001c9007f04) rfl (by decide) rfl) (n := 127) (ci := 9) (j := 7) (N := 39) rfl rfl rfl rw2.1 (by decide) (v := .long t8) (by first | (rw [rd_ne _ _ (Or.inl (by decide)), rd_ne _ _ (Or.inr (by decide))]; exact rd_same rwj.1) | (rw [rd_ne _ _ (Or.inr (by decide))]; exact rd_same rwj.1)) ?_
                  refine g_loadA act (gx gp_214 (w := 0x8003) rfl (by decide) rfl) (a := 0) (n := 128) rfl rfl rfl ?_
                  refine r_getf act (gx gp_214 (w := 0x2000209008304) rfl (by decide) rfl) (n := 131) (ci := 9) (j := 8) (N := 39) rfl rfl rfl rw2.1 (by decide) (v := .long w8) (by first | (rw [rd_ne _ _ (Or.inl (by decide))]; exact rd_same (by rw [shp_wr]; exact rwj.1)) | exact rd_same (by rw [shp_wr]; exact rwj.1)) ?_
                  refine g_loadL act (gx gp_214 (w := 0x3008406) rfl (by decide) rfl) (a := 3) (n := 132) rfl rfl rfl ?_
                  refine g_loadL act (gx gp_214 (w := 0x5008606) rfl (by decide) rfl) (a := 5) (n := 134) rfl rfl rfl ?_
                  refine n_call tb_pres act hEnd (gx (P := G_call) gp_214 (w := 0x428840000e100890f) rfl (by decide) rfl) (d' := D_225) rfl (as := [.long t8, .long w8, .long nn, .long dd]) (rest := []) (b_isLess hf8 hFB (by rw [hf8.1, hf8.2, hFB.1, hFB.2]; exact hSm.2 j B (by omega) (by have := hBB.1; omega) hpj hBB.2.1)) (show (4 : Nat) = fb 0x428840000e100890f % 16 by decide) (by show (8 : Nat) ≤ 10; decide) (fun q => absurd q (by decide)) (by omega) (by show 8 + (10 + 11) + 29 ≤ R.locals; omega) (by show (0 : Nat) ≤ 8; decide) (by show kc + 0 ≤ _; omega) (by show ks + 0 ≤ _; omega) (fun r9 hs9 hpo hr9 => ?_) (fun x9 hs9 hx9 hpo => ?_)
                  · obtain ⟨-, rfl, hq7⟩ := hpo
                    have hq8 : ∃ z9 : Int32, r9 = some (.int z9) ∧ ((z9.toInt = 1 ∧ rt T C9 j < rt T C9 B) ∨ (z9.toInt = 0 ∧ ¬ rt T C9 j < rt T C9 B)) := by
                      rcases hq7 with ⟨rfl, q⟩ | ⟨rfl, q⟩
                      · exact ⟨1, rfl, Or.inl ⟨by decide, q⟩⟩
                      · exact ⟨0, rfl, Or.inr ⟨by decide, q⟩⟩
                    clear hq7
                    obtain ⟨z9, rfl, hq9⟩ := hq8
                    show WpN (gp g0 wp) CLS p l e R s m args below meth c Q D_214.2.2.1 kc0 ks0 137 [some (.ref 124), some (.int c9), some (.int bi), some (.long nn), none, some (.long dd), none, some (.int ri), some (.int (((35 : Int32) * ri) + c9)), some (.int (0 : Int32))] ((wr (wr hj 124 7 (.long t8)) 124 8 (.long w8)), kc, ks) [.int z9]
                    refine g_ifNe act (gx gp_214 (w := 0xa1008c1d) rfl (by decide) rfl) (tgt := 161) (n := 140) rfl rfl (fun h48 => ?_) (fun h48 => ?_)
                    · simp only [i_eq, i0] at h48
                      refine g_loadI act (gx gp_214 (w := 0x700a302) rfl (by decide) rfl) (a := 7) (n := 163) rfl rfl rfl ?_
                      refine g_storeI act (gx gp_214 (w := 0x200a410) rfl (by decide) rfl) (a := 2) (n := 164) rfl rfl (L2 := [some (.ref 124), some (.int c9), some (.int ri), some (.long nn), none, some (.long dd), none, some (.int ri), some (.int (((35 : Int32) * ri) + c9)), some (.int (0 : Int32))]) rfl ?_
                      refine g_loadA act (gx gp_214 (w := 0xa503) rfl (by decide) rfl) (a := 0) (n := 165) rfl rfl rfl ?_
                      refine r_getf act (gx gp_214 (w := 0x20001c900a804) rfl (by decide) rfl) (n := 168) (ci := 9) (j := 7) (N := 39) rfl rfl rfl rw2.1 (by decide) (v := .long t8) (by first | (rw [rd_ne _ _ (Or.inl (by decide)), rd_ne _ _ (Or.inr (by decide))]; exact rd_same rwj.1) | (rw [rd_ne _ _ (Or.inr (by decide))]; exact rd_same rwj.1)) ?_
                      refine g_storeL act (gx gp_214 (w := 0x300a90b) rfl (by decide) rfl) (a := 3) (n := 169) rfl rfl (L2 := [some (.ref 124), some (.int c9), some (.int ri), some (.long t8), none, some (.long dd), none, some (.int ri), some (.int (((35 : Int32) * ri) + c9)), some (.int (0 : Int32))]) rfl ?_
                      refine g_loadA act (gx gp_214 (w := 0xaa03) rfl (by decide) rfl) (a := 0) (n := 170) rfl rfl rfl ?_
                      refine r_getf act (gx gp_214 (w := 0x200020900ad04) rfl (by decide) rfl) (n := 173) (ci := 9) (j := 8) (N := 39) rfl rfl rfl rw2.1 (by decide) (v := .long w8) (by first | (rw [rd_ne _ _ (Or.inl (by decide))]; exact rd_same (by rw [shp_wr]; exact rwj.1)) | exact rd_same (by rw [shp_wr]; exact rwj.1)) ?_
                      refine g_storeL act (gx gp_214 (w := 0x500af0b) rfl (by decide) rfl) (a := 5) (n := 175) rfl rfl (L2 := [some (.ref 124), some (.int c9), some (.int ri), some (.long t8), none, some (.long w8), none, some (.int ri), some (.int (((35 : Int32) * ri) + c9)), some (.int (0 : Int32))]) rfl ?_
                      refine g_iinc act (gx gp_214 (w := 0x8000000100000700b209) rfl (by decide) rfl) (a := 7) (i := (1 : Int32)) (n := 178) rfl (by decide) rfl rfl (L2 := [some (.ref 124), some (.int c9), some (.int ri), some (.long t8), none, some (.long w8), none, some (.int (ri + (1 : Int32))), some (.int (((35 : Int32) * ri) + c9)), some (.int (0 : Int32))]) rfl ?_
                      refine g_goto act (gx gp_214 (w := 0xa07) rfl (by decide) rfl) (n := 10) rfl ?_
                      have hk2i : (ri + (1 : Int32)).toInt = ((j + 1 : Nat) : Int) := by rw [i_add (by rw [hrj]; show _ ≤ (j : Int) + 1; omega) (by rw [hrj]; show (j : Int) + 1 < _; omega), hrj]; rfl
                      have hT2 : TabR (wr (wr hj 124 7 (.long t8)) 124 8 (.long w8)) T := hTj.fr (fun k9 j9 h9 => by rw [rd_ne _ _ (Or.inl (by omega)), rd_ne _ _ (Or.inl (by omega))])
                      have hf3 := (hfr.wr (k := 124) (j := 7) (.long t8) ⟨rfl, Or.inl rfl⟩).wr (k := 124) (j := 8) (.long w8) ⟨rfl, Or.inr rfl⟩
                      exact n_forget (d := D_214) (L2 := [some (.ref 124), some (.int c9), some (.int ri), some (.long t8), none, some (.long w8), none, some (.int (ri + (1 : Int32))), none, none]) (fun i v hi => by
                        match i, hi with
                        | 0, hi => exact hi
                        | 1, hi => exact hi
                        | 2, hi => exact hi
                        | 3, hi => exact hi
                        | 4, hi => cases hi
                        | 5, hi => exact hi
                        | 6, hi => cases hi
                        | 7, hi => exact hi
                        | 8, hi => cases hi
                        | 9, hi => cases hi
                        | i + 10, hi => cases hi) (ih (j + 1) _ _ _ _ _ (by omega) hk2i rw2 hT2 hf3 (Or.inr ⟨j, hrj, hf8, by
                          rcases hq9 with ⟨y1, y2⟩ | ⟨y1, y2⟩
                          · exact best_less hBB hpj y2
                          · first | (exfalso; omega) | exact best_eq hBB hpj ((hf8.inj hFB).mp ⟨by omega, by omega⟩) (by omega)⟩))
                    · simp only [i_eq, i0] at h48
                      refine g_loadI act (gx gp_214 (w := 0x9008e02) rfl (by decide) rfl) (a := 9) (n := 142) rfl rfl rfl ?_
                      refine g_ifEq act (gx gp_214 (w := 0xaf00910e) rfl (by decide) rfl) (tgt := 175) (n := 145) rfl rfl (fun _ => ?_) (fun q => absurd (by decide) q)
                      refine g_iinc act (gx gp_214 (w := 0x8000000100000700b209) rfl (by decide) rfl) (a := 7) (i := (1 : Int32)) (n := 178) rfl (by decide) rfl rfl (L2 := [some (.ref 124), some (.int c9), some (.int bi), some (.long nn), none, some (.long dd), none, some (.int (ri + (1 : Int32))), some (.int (((35 : Int32) * ri) + c9)), some (.int (0 : Int32))]) rfl ?_
                      refine g_goto act (gx gp_214 (w := 0xa07) rfl (by decide) rfl) (n := 10) rfl ?_
                      have hk2i : (ri + (1 : Int32)).toInt = ((j + 1 : Nat) : Int) := by rw [i_add (by rw [hrj]; show _ ≤ (j : Int) + 1; omega) (by rw [hrj]; show (j : Int) + 1 < _; omega), hrj]; rfl
                      have hT2 : TabR (wr (wr hj 124 7 (.long t8)) 124 8 (.long w8)) T := hTj.fr (fun k9 j9 h9 => by rw [rd_ne _ _ (Or.inl (by omega)), rd_ne _ _ (Or.inl (by omega))])
                      have hf3 := (hfr.wr (k := 124) (j := 7) (.long t8) ⟨rfl, Or.inl rfl⟩).wr (k := 124) (j := 8) (.long w8) ⟨rfl, Or.inr rfl⟩
                      exact n_forget (d := D_214) (L2 := [some (.ref 124), some (.int c9), some (.int bi), some (.long nn), none, some (.long dd), none, some (.int (ri + (1 : Int32))), none, none]) (fun i v hi => by
                        match i, hi with
                        | 0, hi => exact hi
                        | 1, hi => exact hi
                        | 2, hi => exact hi
                        | 3, hi => exact hi
                        | 4, hi => cases hi
                        | 5, hi => exact hi
                        | 6, hi => cases hi
                        | 7, hi => exact hi
                        | 8, hi => cases hi
                        | 9, hi => cases hi
                        | i + 10, hi => cases hi) (ih (j + 1) _ _ _ _ _ (by omega) hk2i rw2 hT2 hf3 (Or.inr ⟨B, hbi, hFB, best_keep hBB (by
                          rcases hq9 with ⟨y1, y2⟩ | ⟨y1, y2⟩
                          · exfalso; omega
                          · exact y2) (fun e9 => by have := (hf8.inj hFB).mpr e9.symm; omega)⟩))
                  · exact absurd hpo.1 (by omega)
              · simp only [cmpEq] at h38
                refine g_loadA act (gx gp_214 (w := 0x6603) rfl (by decide) rfl) (a := 0) (n := 102) rfl rfl rfl ?_
                refine r_getf act (gx gp_214 (w := 0x2000209006904) rfl (by decide) rfl) (n := 105) (ci := 9) (j := 8) (N := 39) rfl rfl rfl rw2.1 (by decide) (v := .long w8) (by first | (rw [rd_ne _ _ (Or.inl (by decide))]; exact rd_same (by rw [shp_wr]; exact rwj.1)) | exact rd_same (by rw [shp_wr]; exact rwj.1)) ?_
                refine g_loadL act (gx gp_214 (w := 0x5006b06) rfl (by decide) rfl) (a := 5) (n := 107) rfl rfl rfl ?_
                refine g_lcmp act (gx gp_214 (w := 0x6c0c) rfl (by decide) rfl) (n := 108) rfl ?_
                refine g_ifNe act (gx gp_214 (w := 0x73006f1d) rfl (by decide) rfl) (tgt := 115) (n := 111) rfl rfl (fun h64 => ?_) (fun h64 => ?_)
                · simp only [cmpEq] at h64
                  refine g_constI act (gx gp_214 (w := 0x40000000400000001000000007401) rfl (by decide) rfl) (n := 116) (x := (0 : Int32)) (by decide) rfl ?_
                  refine g_storeI act (gx gp_214 (w := 0x9007610) rfl (by decide) rfl) (a := 9) (n := 118) rfl rfl (L2 := [some (.ref 124), some (.int c9), some (.int bi), some (.long nn), none, some (.long dd), none, some (.int ri), some (.int (((35 : Int32) * ri) + c9)), some (.int (0 : Int32))]) rfl ?_
                  refine g_loadI act (gx gp_214 (w := 0x2007702) rfl (by decide) rfl) (a := 2) (n := 119) rfl rfl rfl ?_
                  refine g_constI act (gx gp_214 (w := 0x3fffffffbfffffff9000000007801) rfl (by decide) rfl) (n := 120) (x := (-1 : Int32)) (by decide) rfl ?_
                  refine g_icmpEq act (gx gp_214 (w := 0xa1007b2e) rfl (by decide) rfl) (tgt := 161) (n := 123) rfl rfl (fun h69 => ?_) (fun h69 => ?_)
                  · simp only [i_eq, show (-1 : Int32).toInt = -1 from by decide] at h69
                    omega
                  · simp only [i_eq, show (-1 : Int32).toInt = -1 from by decide] at h69
                    refine g_loadA act (gx gp_214 (w := 0x7c03) rfl (by decide) rfl) (a := 0) (n := 124) rfl rfl rfl ?_
                    refine r_getf act (gx gp_214 (w := 0x20001c9007f04) rfl (by decide) rfl) (n := 127) (ci := 9) (j := 7) (N := 39) rfl rfl rfl rw2.1 (by decide) (v := .long t8) (by first | (rw [rd_ne _ _ (Or.inl (by decide)), rd_ne _ _ (Or.inr (by decide))]; exact rd_same rwj.1) | (rw [rd_ne _ _ (Or.inr (by decide))]; exact rd_same rwj.1)) ?_
                    refine g_loadA act (gx gp_214 (w := 0x8003) rfl (by decide) rfl) (a := 0) (n := 128) rfl rfl rfl ?_
                    refine r_getf act (gx gp_214 (w := 0x2000209008304) rfl (by decide) rfl) (n := 131) (ci := 9) (j := 8) (N := 39) rfl rfl rfl rw2.1 (by decide) (v := .long w8) (by first | (rw [rd_ne _ _ (Or.inl (by decide))]; exact rd_same (by rw [shp_wr]; exact rwj.1)) | exact rd_same (by rw [shp_wr]; exact rwj.1)) ?_
                    refine g_loadL act (gx gp_214 (w := 0x3008406) rfl (by decide) rfl) (a := 3) (n := 132) rfl rfl rfl ?_
                    refine g_loadL act (gx gp_214 (w := 0x5008606) rfl (by decide) rfl) (a := 5) (n := 134) rfl rfl rfl ?_
                    refine n_call tb_pres act hEnd (gx (P := G_call) gp_214 (w := 0x428840000e100890f) rfl (by decide) rfl) (d' := D_225) rfl (as := [.long t8, .long w8, .long nn, .long dd]) (rest := []) (b_isLess hf8 hFB (by rw [hf8.1, hf8.2, hFB.1, hFB.2]; exact hSm.2 j B (by omega) (by have := hBB.1; omega) hpj hBB.2.1)) (show (4 : Nat) = fb 0x428840000e100890f % 16 by decide) (by show (8 : Nat) ≤ 10; decide) (fun q => absurd q (by decide)) (by omega) (by show 8 + (10 + 11) + 29 ≤ R.locals; omega) (by show (0 : Nat) ≤ 8; decide) (by show kc + 0 ≤ _; omega) (by show ks + 0 ≤ _; omega) (fun r9 hs9 hpo hr9 => ?_) (fun x9 hs9 hx9 hpo => ?_)
                    · obtain ⟨-, rfl, hq7⟩ := hpo
                      have hq8 : ∃ z9 : Int32, r9 = some (.int z9) ∧ ((z9.toInt = 1 ∧ rt T C9 j < rt T C9 B) ∨ (z9.toInt = 0 ∧ ¬ rt T C9 j < rt T C9 B)) := by
                        rcases hq7 with ⟨rfl, q⟩ | ⟨rfl, q⟩
                        · exact ⟨1, rfl, Or.inl ⟨by decide, q⟩⟩
                        · exact ⟨0, rfl, Or.inr ⟨by decide, q⟩⟩
                      clear hq7
                      obtain ⟨z9, rfl, hq9⟩ := hq8
                      show WpN (gp g0 wp) CLS p l e R s m args below meth c Q D_214.2.2.1 kc0 ks0 137 [some (.ref 124), some (.int c9), some (.int bi), some (.long nn), none, some (.long dd), none, some (.int ri), some (.int (((35 : Int32) * ri) + c9)), some (.int (0 : Int32))] ((wr (wr hj 124 7 (.long t8)) 124 8 (.long w8)), kc, ks) [.int z9]
                      refine g_ifNe act (gx gp_214 (w := 0xa1008c1d) rfl (by decide) rfl) (tgt := 161) (n := 140) rfl rfl (fun h74 => ?_) (fun h74 => ?_)
                      · simp only [i_eq, i0] at h74
                        refine g_loadI act (gx gp_214 (w := 0x700a302) rfl (by decide) rfl) (a := 7) (n := 163) rfl rfl rfl ?_
                        refine g_storeI act (gx gp_214 (w := 0x200a410) rfl (by decide) rfl) (a := 2) (n := 164) rfl rfl (L2 := [some (.ref 124), some (.int c9), some (.int ri), some (.long nn), none, some (.long dd), none, some (.int ri), some (.int (((35 : Int32) * ri) + c9)), some (.int (0 : Int32))]) rfl ?_
                        refine g_loadA act (gx gp_214 (w := 0xa503) rfl (by decide) rfl) (a := 0) (n := 165) rfl rfl rfl ?_
                        refine r_getf act (gx gp_214 (w := 0x20001c900a804) rfl (by decide) rfl) (n := 168) (ci := 9) (j := 7) (N := 39) rfl rfl rfl rw2.1 (by decide) (v := .long t8) (by first | (rw [rd_ne _ _ (Or.inl (by decide)), rd_ne _ _ (Or.inr (by decide))]; exact rd_same rwj.1) | (rw [rd_ne _ _ (Or.inr (by decide))]; exact rd_same rwj.1)) ?_
                        refine g_storeL act (gx gp_214 (w := 0x300a90b) rfl (by decide) rfl) (a := 3) (n := 169) rfl rfl (L2 := [some (.ref 124), some (.int c9), some (.int ri), some (.long t8), none, some (.long dd), none, some (.int ri), some (.int (((35 : Int32) * ri) + c9)), some (.int (0 : Int32))]) rfl ?_
                        refine g_loadA act (gx gp_214 (w := 0xaa03) rfl (by decide) rfl) (a := 0) (n := 170) rfl rfl rfl ?_
                        refine r_getf act (gx gp_214 (w := 0x200020900ad04) rfl (by decide) rfl) (n := 173) (ci := 9) (j := 8) (N := 39) rfl rfl rfl rw2.1 (by decide) (v := .long w8) (by first | (rw [rd_ne _ _ (Or.inl (by decide))]; exact rd_same (by rw [shp_wr]; exact rwj.1)) | exact rd_same (by rw [shp_wr]; exact rwj.1)) ?_
                        refine g_storeL act (gx gp_214 (w := 0x500af0b) rfl (by decide) rfl) (a := 5) (n := 175) rfl rfl (L2 := [some (.ref 124), some (.int c9), some (.int ri), some (.long t8), none, some (.long w8), none, some (.int ri), some (.int (((35 : Int32) * ri) + c9)), some (.int (0 : Int32))]) rfl ?_
                        refine g_iinc act (gx gp_214 (w := 0x8000000100000700b209) rfl (by decide) rfl) (a := 7) (i := (1 : Int32)) (n := 178) rfl (by decide) rfl rfl (L2 := [some (.ref 124), some (.int c9), some (.int ri), some (.long t8), none, some (.long w8), none, some (.int (ri + (1 : Int32))), some (.int (((35 : Int32) * ri) + c9)), some (.int (0 : Int32))]) rfl ?_
                        refine g_goto act (gx gp_214 (w := 0xa07) rfl (by decide) rfl) (n := 10) rfl ?_
                        have hk2i : (ri + (1 : Int32)).toInt = ((j + 1 : Nat) : Int) := by rw [i_add (by rw [hrj]; show _ ≤ (j : Int) + 1; omega) (by rw [hrj]; show (j : Int) + 1 < _; omega), hrj]; rfl
                        have hT2 : TabR (wr (wr hj 124 7 (.long t8)) 124 8 (.long w8)) T := hTj.fr (fun k9 j9 h9 => by rw [rd_ne _ _ (Or.inl (by omega)), rd_ne _ _ (Or.inl (by omega))])
                        have hf3 := (hfr.wr (k := 124) (j := 7) (.long t8) ⟨rfl, Or.inl rfl⟩).wr (k := 124) (j := 8) (.long w8) ⟨rfl, Or.inr rfl⟩
                        exact n_forget (d := D_214) (L2 := [some (.ref 124), some (.int c9), some (.int ri), some (.long t8), none, some (.long w8), none, some (.int (ri + (1 : Int32))), none, none]) (fun i v hi => by
                          match i, hi with
                          | 0, hi => exact hi
                          | 1, hi => exact hi
                          | 2, hi => exact hi
                          | 3, hi => exact hi
                          | 4, hi => cases hi
                          | 5, hi => exact hi
                          | 6, hi => cases hi
                          | 7, hi => exact hi
                          | 8, hi => cases hi
                          | 9, hi => cases hi
                          | i + 10, hi => cases hi) (ih (j + 1) _ _ _ _ _ (by omega) hk2i rw2 hT2 hf3 (Or.inr ⟨j, hrj, hf8, by
                            rcases hq9 with ⟨y1, y2⟩ | ⟨y1, y2⟩
                            · exact best_less hBB hpj y2
                            · first | (exfalso; omega) | exact best_eq hBB hpj ((hf8.inj hFB).mp ⟨by omega, by omega⟩) (by omega)⟩))
                      · simp only [i_eq, i0] at h74
                        refine g_loadI act (gx gp_214 (w := 0x9008e02) rfl (by decide) rfl) (a := 9) (n := 142) rfl rfl rfl ?_
                        refine g_ifEq act (gx gp_214 (w := 0xaf00910e) rfl (by decide) rfl) (tgt := 175) (n := 145) rfl rfl (fun _ => ?_) (fun q => absurd (by decide) q)
                        refine g_iinc act (gx gp_214 (w := 0x8000000100000700b209) rfl (by decide) rfl) (a := 7) (i := (1 : Int32)) (n := 178) rfl (by decide) rfl rfl (L2 := [some (.ref 124), some (.int c9), some (.int bi), some (.long nn), none, some (.long dd), none, some (.int (ri + (1 : Int32))), some (.int (((35 : Int32) * ri) + c9)), some (.int (0 : Int32))]) rfl ?_
                        refine g_goto act (gx gp_214 (w := 0xa07) rfl (by decide) rfl) (n := 10) rfl ?_
                        have hk2i : (ri + (1 : Int32)).toInt = ((j + 1 : Nat) : Int) := by rw [i_add (by rw [hrj]; show _ ≤ (j : Int) + 1; omega) (by rw [hrj]; show (j : Int) + 1 < _; omega), hrj]; rfl
                        have hT2 : TabR (wr (wr hj 124 7 (.long t8)) 124 8 (.long w8)) T := hTj.fr (fun k9 j9 h9 => by rw [rd_ne _ _ (Or.inl (by omega)), rd_ne _ _ (Or.inl (by omega))])
                        have hf3 := (hfr.wr (k := 124) (j := 7) (.long t8) ⟨rfl, Or.inl rfl⟩).wr (k := 124) (j := 8) (.long w8) ⟨rfl, Or.inr rfl⟩
                        exact n_forget (d := D_214) (L2 := [some (.ref 124), some (.int c9), some (.int bi), some (.long nn), none, some (.long dd), none, some (.int (ri + (1 : Int32))), none, none]) (fun i v hi => by
                          match i, hi with
                          | 0, hi => exact hi
                          | 1, hi => exact hi
                          | 2, hi => exact hi
                          | 3, hi => exact hi
                          | 4, hi => cases hi
                          | 5, hi => exact hi
                          | 6, hi => cases hi
                          | 7, hi => exact hi
                          | 8, hi => cases hi
                          | 9, hi => cases hi
                          | i + 10, hi => cases hi) (ih (j + 1) _ _ _ _ _ (by omega) hk2i rw2 hT2 hf3 (Or.inr ⟨B, hbi, hFB, best_keep hBB (by
                            rcases hq9 with ⟨y1, y2⟩ | ⟨y1, y2⟩
                            · exfalso; omega
                            · exact y2) (fun e9 => by have := (hf8.inj hFB).mpr e9.symm; omega)⟩))
                    · exact absurd hpo.1 (by omega)
                · simp only [cmpEq] at h64
                  refine g_constI act (gx gp_214 (w := 0x40000000c00000009000000007001) rfl (by decide) rfl) (n := 112) (x := (1 : Int32)) (by decide) rfl ?_
                  refine g_goto act (gx gp_214 (w := 0x7407) rfl (by decide) rfl) (n := 116) rfl ?_
                  refine g_storeI act (gx gp_214 (w := 0x9007610) rfl (by decide) rfl) (a := 9) (n := 118) rfl rfl (L2 := [some (.ref 124), some (.int c9), some (.int bi), some (.long nn), none, some (.long dd), none, some (.int ri), some (.int (((35 : Int32) * ri) + c9)), some (.int (1 : Int32))]) rfl ?_
                  refine g_loadI act (gx gp_214 (w := 0x2007702) rfl (by decide) rfl) (a := 2) (n := 119) rfl rfl rfl ?_
                  refine g_constI act (gx gp_214 (w := 0x3fffffffbfffffff9000000007801) rfl (by decide) rfl) (n := 120) (x := (-1 : Int32)) (by decide) rfl ?_
                  refine g_icmpEq act (gx gp_214 (w := 0xa1007b2e) rfl (by decide) rfl) (tgt := 161) (n := 123) rfl rfl (fun h92 => ?_) (fun h92 => ?_)
                  · simp only [i_eq, show (-1 : Int32).toInt = -1 from by decide] at h92
                    omega
                  · simp only [i_eq, show (-1 : Int32).toInt = -1 from by decide] at h92
                    refine g_loadA act (gx gp_214 (w := 0x7c03) rfl (by decide) rfl) (a := 0) (n := 124) rfl rfl rfl ?_
                    refine r_getf act (gx gp_214 (w := 0x20001c9007f04) rfl (by decide) rfl) (n := 127) (ci := 9) (j := 7) (N := 39) rfl rfl rfl rw2.1 (by decide) (v := .long t8) (by first | (rw [rd_ne _ _ (Or.inl (by decide)), rd_ne _ _ (Or.inr (by decide))]; exact rd_same rwj.1) | (rw [rd_ne _ _ (Or.inr (by decide))]; exact rd_same rwj.1)) ?_
                    refine g_loadA act (gx gp_214 (w := 0x8003) rfl (by decide) rfl) (a := 0) (n := 128) rfl rfl rfl ?_
                    refine r_getf act (gx gp_214 (w := 0x2000209008304) rfl (by decide) rfl) (n := 131) (ci := 9) (j := 8) (N := 39) rfl rfl rfl rw2.1 (by decide) (v := .long w8) (by first | (rw [rd_ne _ _ (Or.inl (by decide))]; exact rd_same (by rw [shp_wr]; exact rwj.1)) | exact rd_same (by rw [shp_wr]; exact rwj.1)) ?_
                    refine g_loadL act (gx gp_214 (w := 0x3008406) rfl (by decide) rfl) (a := 3) (n := 132) rfl rfl rfl ?_
                    refine g_loadL act (gx gp_214 (w := 0x5008606) rfl (by decide) rfl) (a := 5) (n := 134) rfl rfl rfl ?_
                    refine n_call tb_pres act hEnd (gx (P := G_call) gp_214 (w := 0x428840000e100890f) rfl (by decide) rfl) (d' := D_225) rfl (as := [.long t8, .long w8, .long nn, .long dd]) (rest := []) (b_isLess hf8 hFB (by rw [hf8.1, hf8.2, hFB.1, hFB.2]; exact hSm.2 j B (by omega) (by have := hBB.1; omega) hpj hBB.2.1)) (show (4 : Nat) = fb 0x428840000e100890f % 16 by decide) (by show (8 : Nat) ≤ 10; decide) (fun q => absurd q (by decide)) (by omega) (by show 8 + (10 + 11) + 29 ≤ R.locals; omega) (by show (0 : Nat) ≤ 8; decide) (by show kc + 0 ≤ _; omega) (by show ks + 0 ≤ _; omega) (fun r9 hs9 hpo hr9 => ?_) (fun x9 hs9 hx9 hpo => ?_)
                    · obtain ⟨-, rfl, hq7⟩ := hpo
                      have hq8 : ∃ z9 : Int32, r9 = some (.int z9) ∧ ((z9.toInt = 1 ∧ rt T C9 j < rt T C9 B) ∨ (z9.toInt = 0 ∧ ¬ rt T C9 j < rt T C9 B)) := by
                        rcases hq7 with ⟨rfl, q⟩ | ⟨rfl, q⟩
                        · exact ⟨1, rfl, Or.inl ⟨by decide, q⟩⟩
                        · exact ⟨0, rfl, Or.inr ⟨by decide, q⟩⟩
                      clear hq7
                      obtain ⟨z9, rfl, hq9⟩ := hq8
                      show WpN (gp g0 wp) CLS p l e R s m args below meth c Q D_214.2.2.1 kc0 ks0 137 [some (.ref 124), some (.int c9), some (.int bi), some (.long nn), none, some (.long dd), none, some (.int ri), some (.int (((35 : Int32) * ri) + c9)), some (.int (1 : Int32))] ((wr (wr hj 124 7 (.long t8)) 124 8 (.long w8)), kc, ks) [.int z9]
                      refine g_ifNe act (gx gp_214 (w := 0xa1008c1d) rfl (by decide) rfl) (tgt := 161) (n := 140) rfl rfl (fun h97 => ?_) (fun h97 => ?_)
                      · simp only [i_eq, i0] at h97
                        refine g_loadI act (gx gp_214 (w := 0x700a302) rfl (by decide) rfl) (a := 7) (n := 163) rfl rfl rfl ?_
                        refine g_storeI act (gx gp_214 (w := 0x200a410) rfl (by decide) rfl) (a := 2) (n := 164) rfl rfl (L2 := [some (.ref 124), some (.int c9), some (.int ri), some (.long nn), none, some (.long dd), none, some (.int ri), some (.int (((35 : Int32) * ri) + c9)), some (.int (1 : Int32))]) rfl ?_
                        refine g_loadA act (gx gp_214 (w := 0xa503) rfl (by decide) rfl) (a := 0) (n := 165) rfl rfl rfl ?_
                        refine r_getf act (gx gp_214 (w := 0x20001c900a804) rfl (by decide) rfl) (n := 168) (ci := 9) (j := 7) (N := 39) rfl rfl rfl rw2.1 (by decide) (v := .long t8) (by first | (rw [rd_ne _ _ (Or.inl (by decide)), rd_ne _ _ (Or.inr (by decide))]; exact rd_same rwj.1) | (rw [rd_ne _ _ (Or.inr (by decide))]; exact rd_same rwj.1)) ?_
                        refine g_storeL act (gx gp_214 (w := 0x300a90b) rfl (by decide) rfl) (a := 3) (n := 169) rfl rfl (L2 := [some (.ref 124), some (.int c9), some (.int ri), some (.long t8), none, some (.long dd), none, some (.int ri), some (.int (((35 : Int32) * ri) + c9)), some (.int (1 : Int32))]) rfl ?_
                        refine g_loadA act (gx gp_214 (w := 0xaa03) rfl (by decide) rfl) (a := 0) (n := 170) rfl rfl rfl ?_
                        refine r_getf act (gx gp_214 (w := 0x200020900ad04) rfl (by decide) rfl) (n := 173) (ci := 9) (j := 8) (N := 39) rfl rfl rfl rw2.1 (by decide) (v := .long w8) (by first | (rw [rd_ne _ _ (Or.inl (by decide))]; exact rd_same (by rw [shp_wr]; exact rwj.1)) | exact rd_same (by rw [shp_wr]; exact rwj.1)) ?_
                        refine g_storeL act (gx gp_214 (w := 0x500af0b) rfl (by decide) rfl) (a := 5) (n := 175) rfl rfl (L2 := [some (.ref 124), some (.int c9), some (.int ri), some (.long t8), none, some (.long w8), none, some (.int ri), some (.int (((35 : Int32) * ri) + c9)), some (.int (1 : Int32))]) rfl ?_
                        refine g_iinc act (gx gp_214 (w := 0x8000000100000700b209) rfl (by decide) rfl) (a := 7) (i := (1 : Int32)) (n := 178) rfl (by decide) rfl rfl (L2 := [some (.ref 124), some (.int c9), some (.int ri), some (.long t8), none, some (.long w8), none, some (.int (ri + (1 : Int32))), some (.int (((35 : Int32) * ri) + c9)), some (.int (1 : Int32))]) rfl ?_
                        refine g_goto act (gx gp_214 (w := 0xa07) rfl (by decide) rfl) (n := 10) rfl ?_
                        have hk2i : (ri + (1 : Int32)).toInt = ((j + 1 : Nat) : Int) := by rw [i_add (by rw [hrj]; show _ ≤ (j : Int) + 1; omega) (by rw [hrj]; show (j : Int) + 1 < _; omega), hrj]; rfl
                        have hT2 : TabR (wr (wr hj 124 7 (.long t8)) 124 8 (.long w8)) T := hTj.fr (fun k9 j9 h9 => by rw [rd_ne _ _ (Or.inl (by omega)), rd_ne _ _ (Or.inl (by omega))])
                        have hf3 := (hfr.wr (k := 124) (j := 7) (.long t8) ⟨rfl, Or.inl rfl⟩).wr (k := 124) (j := 8) (.long w8) ⟨rfl, Or.inr rfl⟩
                        exact n_forget (d := D_214) (L2 := [some (.ref 124), some (.int c9), some (.int ri), some (.long t8), none, some (.long w8), none, some (.int (ri + (1 : Int32))), none, none]) (fun i v hi => by
                          match i, hi with
                          | 0, hi => exact hi
                          | 1, hi => exact hi
                          | 2, hi => exact hi
                          | 3, hi => exact hi
                          | 4, hi => cases hi
                          | 5, hi => exact hi
                          | 6, hi => cases hi
                          | 7, hi => exact hi
                          | 8, hi => cases hi
                          | 9, hi => cases hi
                          | i + 10, hi => cases hi) (ih (j + 1) _ _ _ _ _ (by omega) hk2i rw2 hT2 hf3 (Or.inr ⟨j, hrj, hf8, by
                            rcases hq9 with ⟨y1, y2⟩ | ⟨y1, y2⟩
                            · exact best_less hBB hpj y2
                            · first | (exfalso; omega) | exact best_eq hBB hpj ((hf8.inj hFB).mp ⟨by omega, by omega⟩) (by omega)⟩))
                      · simp only [i_eq, i0] at h97
                        refine g_loadI act (gx gp_214 (w := 0x9008e02) rfl (by decide) rfl) (a := 9) (n := 142) rfl rfl rfl ?_
                        refine g_ifEq act (gx gp_214 (w := 0xaf00910e) rfl (by decide) rfl) (tgt := 175) (n := 145) rfl rfl (fun q => absurd q (by decide)) (fun _ => ?_)
                        refine g_loadA act (gx gp_214 (w := 0x9203) rfl (by decide) rfl) (a := 0) (n := 146) rfl rfl rfl ?_
                        refine r_getf act (gx gp_214 (w := 0x30006c9009504) rfl (by decide) rfl) (n := 149) (ci := 9) (j := 27) (N := 39) rfl rfl rfl rw2.1 (by decide) (rw2.2 (27, 141, 32, 30) (by decide)).1 ?_
                        refine g_loadI act (gx gp_214 (w := 0x7009702) rfl (by decide) rfl) (a := 7) (n := 151) rfl rfl rfl ?_
                        obtain ⟨bj, eb10, hvbj⟩ := hB9 j (by first | omega | (have := hBB.1; omega))
                        have eb1 : rd (wr (wr hj 124 7 (.long t8)) 124 8 (.long w8)) 141 j = .int bj := by rw [rd_ne _ _ (Or.inl (by decide)), rd_ne _ _ (Or.inl (by decide))]; exact (hfr.2.2 141 _ (by unfold W0; omega)).trans eb10
                        refine r_iald act (gx gp_214 (w := 0x981a) rfl (by decide) rfl) (n := 152) (j := j) rfl (rw2.2 (27, 141, 32, 30) (by decide)).2 hrj (show j < 30 by omega) (v := .int bj) eb1 ?_
                        refine g_loadA act (gx gp_214 (w := 0x9903) rfl (by decide) rfl) (a := 0) (n := 153) rfl rfl rfl ?_
                        refine r_getf act (gx gp_214 (w := 0x30006c9009c04) rfl (by decide) rfl) (n := 156) (ci := 9) (j := 27) (N := 39) rfl rfl rfl rw2.1 (by decide) (rw2.2 (27, 141, 32, 30) (by decide)).1 ?_
                        refine g_loadI act (gx gp_214 (w := 0x2009d02) rfl (by decide) rfl) (a := 2) (n := 157) rfl rfl rfl ?_
                        obtain ⟨bB, eb20, hvbB⟩ := hB9 B (by first | omega | (have := hBB.1; omega))
                        have eb2 : rd (wr (wr hj 124 7 (.long t8)) 124 8 (.long w8)) 141 B = .int bB := by rw [rd_ne _ _ (Or.inl (by decide)), rd_ne _ _ (Or.inl (by decide))]; exact (hfr.2.2 141 _ (by unfold W0; omega)).trans eb20
                        refine r_iald act (gx gp_214 (w := 0x9e1a) rfl (by decide) rfl) (n := 158) (j := B) rfl (rw2.2 (27, 141, 32, 30) (by decide)).2 hbi (show B < 30 by have := hBB.1; omega) (v := .int bB) eb2 ?_
                        refine g_icmpGe act (gx gp_214 (w := 0xaf00a108) rfl (by decide) rfl) (tgt := 175) (n := 161) rfl rfl (fun h112 => ?_) (fun h112 => ?_)
                        · simp only [i_le] at h112
                          refine g_iinc act (gx gp_214 (w := 0x8000000100000700b209) rfl (by decide) rfl) (a := 7) (i := (1 : Int32)) (n := 178) rfl (by decide) rfl rfl (L2 := [some (.ref 124), some (.int c9), some (.int bi), some (.long nn), none, some (.long dd), none, some (.int (ri + (1 : Int32))), some (.int (((35 : Int32) * ri) + c9)), some (.int (1 : Int32))]) rfl ?_
                          refine g_goto act (gx gp_214 (w := 0xa07) rfl (by decide) rfl) (n := 10) rfl ?_
                          have hk2i : (ri + (1 : Int32)).toInt = ((j + 1 : Nat) : Int) := by rw [i_add (by rw [hrj]; show _ ≤ (j : Int) + 1; omega) (by rw [hrj]; show (j : Int) + 1 < _; omega), hrj]; rfl
                          have hT2 : TabR (wr (wr hj 124 7 (.long t8)) 124 8 (.long w8)) T := hTj.fr (fun k9 j9 h9 => by rw [rd_ne _ _ (Or.inl (by omega)), rd_ne _ _ (Or.inl (by omega))])
                          have hf3 := (hfr.wr (k := 124) (j := 7) (.long t8) ⟨rfl, Or.inl rfl⟩).wr (k := 124) (j := 8) (.long w8) ⟨rfl, Or.inr rfl⟩
                          exact n_forget (d := D_214) (L2 := [some (.ref 124), some (.int c9), some (.int bi), some (.long nn), none, some (.long dd), none, some (.int (ri + (1 : Int32))), none, none]) (fun i v hi => by
                            match i, hi with
                            | 0, hi => exact hi
                            | 1, hi => exact hi
                            | 2, hi => exact hi
                            | 3, hi => exact hi
                            | 4, hi => cases hi
                            | 5, hi => exact hi
                            | 6, hi => cases hi
                            | 7, hi => exact hi
                            | 8, hi => cases hi
                            | 9, hi => cases hi
                            | i + 10, hi => cases hi) (ih (j + 1) _ _ _ _ _ (by omega) hk2i rw2 hT2 hf3 (Or.inr ⟨B, hbi, hFB, best_keep hBB (by
                              rcases hq9 with ⟨y1, y2⟩ | ⟨y1, y2⟩
                              · exfalso; omega
                              · exact y2) (fun e9 => by have := (hf8.inj hFB).mpr e9.symm; omega)⟩))
                        · simp only [i_le] at h112
                          refine g_loadI act (gx gp_214 (w := 0x700a302) rfl (by decide) rfl) (a := 7) (n := 163) rfl rfl rfl ?_
                          refine g_storeI act (gx gp_214 (w := 0x200a410) rfl (by decide) rfl) (a := 2) (n := 164) rfl rfl (L2 := [some (.ref 124), some (.int c9), some (.int ri), some (.long nn), none, some (.long dd), none, some (.int ri), some (.int (((35 : Int32) * ri) + c9)), some (.int (1 : Int32))]) rfl ?_
                          refine g_loadA act (gx gp_214 (w := 0xa503) rfl (by decide) rfl) (a := 0) (n := 165) rfl rfl rfl ?_
                          refine r_getf act (gx gp_214 (w := 0x20001c900a804) rfl (by decide) rfl) (n := 168) (ci := 9) (j := 7) (N := 39) rfl rfl rfl rw2.1 (by decide) (v := .long t8) (by first | (rw [rd_ne _ _ (Or.inl (by decide)), rd_ne _ _ (Or.inr (by decide))]; exact rd_same rwj.1) | (rw [rd_ne _ _ (Or.inr (by decide))]; exact rd_same rwj.1)) ?_
                          refine g_storeL act (gx gp_214 (w := 0x300a90b) rfl (by decide) rfl) (a := 3) (n := 169) rfl rfl (L2 := [some (.ref 124), some (.int c9), some (.int ri), some (.long t8), none, some (.long dd), none, some (.int ri), some (.int (((35 : Int32) * ri) + c9)), some (.int (1 : Int32))]) rfl ?_
                          refine g_loadA act (gx gp_214 (w := 0xaa03) rfl (by decide) rfl) (a := 0) (n := 170) rfl rfl rfl ?_
                          refine r_getf act (gx gp_214 (w := 0x200020900ad04) rfl (by decide) rfl) (n := 173) (ci := 9) (j := 8) (N := 39) rfl rfl rfl rw2.1 (by decide) (v := .long w8) (by first | (rw [rd_ne _ _ (Or.inl (by decide))]; exact rd_same (by rw [shp_wr]; exact rwj.1)) | exact rd_same (by rw [shp_wr]; exact rwj.1)) ?_
                          refine g_storeL act (gx gp_214 (w := 0x500af0b) rfl (by decide) rfl) (a := 5) (n := 175) rfl rfl (L2 := [some (.ref 124), some (.int c9), some (.int ri), some (.long t8), none, some (.long w8), none, some (.int ri), some (.int (((35 : Int32) * ri) + c9)), some (.int (1 : Int32))]) rfl ?_
                          refine g_iinc act (gx gp_214 (w := 0x8000000100000700b209) rfl (by decide) rfl) (a := 7) (i := (1 : Int32)) (n := 178) rfl (by decide) rfl rfl (L2 := [some (.ref 124), some (.int c9), some (.int ri), some (.long t8), none, some (.long w8), none, some (.int (ri + (1 : Int32))), some (.int (((35 : Int32) * ri) + c9)), some (.int (1 : Int32))]) rfl ?_
                          refine g_goto act (gx gp_214 (w := 0xa07) rfl (by decide) rfl) (n := 10) rfl ?_
                          have hk2i : (ri + (1 : Int32)).toInt = ((j + 1 : Nat) : Int) := by rw [i_add (by rw [hrj]; show _ ≤ (j : Int) + 1; omega) (by rw [hrj]; show (j : Int) + 1 < _; omega), hrj]; rfl
                          have hT2 : TabR (wr (wr hj 124 7 (.long t8)) 124 8 (.long w8)) T := hTj.fr (fun k9 j9 h9 => by rw [rd_ne _ _ (Or.inl (by omega)), rd_ne _ _ (Or.inl (by omega))])
                          have hf3 := (hfr.wr (k := 124) (j := 7) (.long t8) ⟨rfl, Or.inl rfl⟩).wr (k := 124) (j := 8) (.long w8) ⟨rfl, Or.inr rfl⟩
                          exact n_forget (d := D_214) (L2 := [some (.ref 124), some (.int c9), some (.int ri), some (.long t8), none, some (.long w8), none, some (.int (ri + (1 : Int32))), none, none]) (fun i v hi => by
                            match i, hi with
                            | 0, hi => exact hi
                            | 1, hi => exact hi
                            | 2, hi => exact hi
                            | 3, hi => exact hi
                            | 4, hi => cases hi
                            | 5, hi => exact hi
                            | 6, hi => cases hi
                            | 7, hi => exact hi
                            | 8, hi => cases hi
                            | 9, hi => cases hi
                            | i + 10, hi => cases hi) (ih (j + 1) _ _ _ _ _ (by omega) hk2i rw2 hT2 hf3 (Or.inr ⟨j, hrj, hf8, by
                              rcases hq9 with ⟨y1, y2⟩ | ⟨y1, y2⟩
                              · exact best_less hBB hpj y2
                              · first | (exfalso; omega) | exact best_eq hBB hpj ((hf8.inj hFB).mp ⟨by omega, by omega⟩) (by omega)⟩))
                    · exact absurd hpo.1 (by omega)
          · exact absurd hpo.1 (by omega)
        · simp only [cmpGt, show (0 : Int64).toInt = 0 from by decide] at h14
          refine g_goto act (gx gp_214 (w := 0xaf07) rfl (by decide) rfl) (n := 175) rfl ?_
          refine g_iinc act (gx gp_214 (w := 0x8000000100000700b209) rfl (by decide) rfl) (a := 7) (i := (1 : Int32)) (n := 178) rfl (by decide) rfl rfl (L2 := [some (.ref 124), some (.int c9), some (.int bi), some (.long nn), none, some (.long dd), none, some (.int (ri + (1 : Int32))), some (.int (((35 : Int32) * ri) + c9)), none]) rfl ?_
          refine g_goto act (gx gp_214 (w := 0xa07) rfl (by decide) rfl) (n := 10) rfl ?_
          have hk2i : (ri + (1 : Int32)).toInt = ((j + 1 : Nat) : Int) := by rw [i_add (by rw [hrj]; show _ ≤ (j : Int) + 1; omega) (by rw [hrj]; show (j : Int) + 1 < _; omega), hrj]; rfl
          have hnp : ¬ 0 < T (35 * j + C9) := fun q => by have := hF.gt.mpr q; omega
          exact n_forget (d := D_214) (L2 := [some (.ref 124), some (.int c9), some (.int bi), some (.long nn), none, some (.long dd), none, some (.int (ri + (1 : Int32))), none, none]) (fun i v hi => by
            match i, hi with
            | 0, hi => exact hi
            | 1, hi => exact hi
            | 2, hi => exact hi
            | 3, hi => exact hi
            | 4, hi => cases hi
            | 5, hi => exact hi
            | 6, hi => cases hi
            | 7, hi => exact hi
            | 8, hi => cases hi
            | 9, hi => cases hi
            | i + 10, hi => cases hi) (ih (j + 1) _ _ _ _ hj (by omega) hk2i rwj hTj hfr (Or.inr ⟨B, hbi, hFB, best_skip hBB hnp⟩))
theorem b_goes {g0 : GG} {bl : Nat} {xs : Nat → Int32} {l : Launch} {hs : List CE} {T : Nat → Rat} {b9 : Nat → Nat} {c9 ni : Int32} {C9 N9 : Nat} (rw0 : RW hs) (hT : TabR hs T) (hc9 : c9.toInt = (C9 : Int)) (hni : ni.toInt = (N9 : Int)) (hnr : rd hs 124 28 = .int ni) (hN : N9 ≤ 30) (hC : C9 < 35) (hB9 : BasR hs b9 N9) (hSm : SmG T C9 N9) : BodyN SSX TBL g0 CLS bl xs l D_214 3 87 0 0 [.ref 124, .int c9] hs (fun kd r h2 => kd = 0 ∧ FrS W0 hs h2 ∧ ((∃ (bi : Int32) (B : Nat), r = some (.int bi) ∧ bi.toInt = (B : Int) ∧ Best T b9 C9 N9 B) ∨ (∀ x, x < N9 → ¬ 0 < T (35 * x + C9)))) := by
  intro wp p e R s m args below meth c Q kc0 ks0 kc ks act hf hl hc hsl hEnd
  show WpN (gp g0 wp) CLS p l e R s m args below meth c Q D_214.2.2.1 kc0 ks0 0 [some (.ref 124), some (.int c9), none, none, none, none, none, none, none, none] (hs, kc, ks) []
  refine g_constI act (gx gp_214 (w := 0x3fffffffbfffffff9000000000101) rfl (by decide) rfl) (n := 1) (x := (-1 : Int32)) (by decide) rfl ?_
  refine g_storeI act (gx gp_214 (w := 0x2000210) rfl (by decide) rfl) (a := 2) (n := 2) rfl rfl (L2 := [some (.ref 124), some (.int c9), some (.int (-1 : Int32)), none, none, none, none, none, none, none]) rfl ?_
  refine g_constL act (gx gp_214 (w := 0x40000000000000002000000000301) rfl (by decide) rfl) (n := 3) (x := 0) (by decide) rfl ?_
  refine g_storeL act (gx gp_214 (w := 0x300040b) rfl (by decide) rfl) (a := 3) (n := 4) rfl rfl (L2 := [some (.ref 124), some (.int c9), some (.int (-1 : Int32)), some (.long (0 : Int64)), none, none, none, none, none, none]) rfl ?_
  refine g_constL act (gx gp_214 (w := 0x4000000000000000a000000000501) rfl (by decide) rfl) (n := 5) (x := 1) (by decide) rfl ?_
  refine g_storeL act (gx gp_214 (w := 0x500070b) rfl (by decide) rfl) (a := 5) (n := 7) rfl rfl (L2 := [some (.ref 124), some (.int c9), some (.int (-1 : Int32)), some (.long (0 : Int64)), none, some (.long (1 : Int64)), none, none, none, none]) rfl ?_
  refine g_constI act (gx gp_214 (w := 0x40000000400000001000000000801) rfl (by decide) rfl) (n := 8) (x := (0 : Int32)) (by decide) rfl ?_
  refine g_storeI act (gx gp_214 (w := 0x7000a10) rfl (by decide) rfl) (a := 7) (n := 10) rfl rfl (L2 := [some (.ref 124), some (.int c9), some (.int (-1 : Int32)), some (.long (0 : Int64)), none, some (.long (1 : Int64)), none, some (.int (0 : Int32)), none, none]) rfl ?_
  exact goes_loop hc9 hni hnr hN hC hB9 hSm hf hl hc hsl act hEnd (by omega) (by omega) N9 0 _ _ _ _ hs (by omega) rfl rw0 hT (FrS.rf _ _) (Or.inl ⟨by decide, fun x hx => absurd hx (by omega)⟩)
