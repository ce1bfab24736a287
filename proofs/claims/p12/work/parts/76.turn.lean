/-! A turn: a column comes in, a row's member goes. -/
def tuT (T : Nat → Rat) (R9 C9 N9 m : Nat) : Nat → Rat := fun i => if i / 35 = R9 then T i * (T (35 * R9 + C9))⁻¹ else if (i / 35 < N9 ∨ 30 ≤ i / 35) ∧ i / 35 < m then T i + (T (35 * R9 + i % 35) * (T (35 * R9 + C9))⁻¹) * -T (35 * (i / 35) + C9) else T i
theorem Sm2.cong {T T2 : Nat → Rat} {R9 F9 C9 : Nat} (h : Sm2 T R9 F9 C9) (hC : C9 < 35) (h1 : ∀ k, k < 35 → T (35 * R9 + k) = T2 (35 * R9 + k)) (h2 : ∀ k, k < 35 → T (35 * F9 + k) = T2 (35 * F9 + k)) : Sm2 T2 R9 F9 C9 := fun k hk => by
  rw [← h1 k hk, ← h2 k hk, ← h2 C9 hC]
  exact h k hk
def Sm3 (T : Nat → Rat) (R9 C9 N9 : Nat) : Prop := Sm1 T R9 C9 ∧ ∀ F, F < 37 → F ≠ R9 → (F < N9 ∨ 30 ≤ F) → Sm2 (scT T R9 C9 35) R9 F C9 ∧ (T (35 * F + C9)).num.natAbs < 9223372036854775808
def W2 (k j : Nat) : Prop := W1 k j ∨ k = 141
theorem W2_rw : ∀ q ∈ RWT, ¬ W2 124 q.1 := by
  intro q hq
  intro q2
  rcases q2 with q2 | q2
  · exact W1_rw q hq q2
  · exact absurd q2 (by decide)
theorem turns_loop {g0 : GG} {bl : Nat} {xs : Nat → Int32} {l : Launch} {wp : va_W} {p : Program} {e : Env} {R : Room} {s : State} {m : MethodId} {args : Array Value} {below : List Frame} {meth : Method} {c : Code} {Q : State → Prop} {kc0 ks0 kc ks f lam KC KS : Nat} {hs : List CE} {T : Nat → Rat} {r c9 ni : Int32} {R9 C9 N9 : Nat} (hr : r.toInt = (R9 : Int)) (hc9 : c9.toInt = (C9 : Int)) (hni : ni.toInt = (N9 : Int)) (hnr : rd hs 124 28 = .int ni) (hN : N9 ≤ 30) (hR : R9 < 30) (hC : C9 < 35) (hS3 : ∀ F, F < 37 → F ≠ R9 → (F < N9 ∨ 30 ≤ F) → Sm2 (scT T R9 C9 35) R9 F C9 ∧ (T (35 * F + C9)).num.natAbs < 9223372036854775808) (hf : 5 ≤ R.frames) (hl : 141 ≤ R.locals) (hc : kc ≤ R.cells + kc0) (hsl : ks ≤ R.slots + ks0) (act : Act SSX TBL (gp g0 wp) CLS bl xs D_285 p l s m args meth c) (hEnd : EndN SSX TBL (gp g0 wp) CLS D_285 p l e R s m args below meth c Q kc0 ks0 f lam KC KS (fun kd r h2 => kd = 0 ∧ TabR h2 (tuT T R9 C9 N9 37) ∧ FrS (fun k j => W1 k j ∨ (k = 141 ∧ j = R9)) hs h2 ∧ rd h2 141 R9 = .int c9)) (hk1 : kc ≤ KC) (hk2 : ks ≤ KS) : ∀ (n j : Nat) (ri : Int32) (hj : List CE), j + n = 37 → ri.toInt = (j : Int) → RW hj → TabR hj (tuT T R9 C9 N9 j) → FrS W1 hs hj → WpN (gp g0 wp) CLS p l e R s m args below meth c Q D_285.2.2.1 kc0 ks0 8 [some (.ref 124), some (.int r), some (.int c9), some (.int ri)] (hj, kc, ks) [] := by
  intro n
  induction n with
  | zero =>
    intro j ri hj hjn hrj rwj hTj hfr
    obtain rfl : j = 37 := by omega
    refine g_loadI act (gx gp_285 (w := 0x3000902) rfl (by decide) rfl) (a := 3) (n := 9) rfl rfl rfl ?_
    refine g_constI act (gx gp_285 (w := 0x40000012c00000129000000000b01) rfl (by decide) rfl) (n := 11) (x := (37 : Int32)) (by decide) rfl ?_
    refine g_icmpGe act (gx gp_285 (w := 0x2e000e08) rfl (by decide) rfl) (tgt := 46) (n := 14) rfl rfl (fun h3 => ?_) (fun h3 => ?_)
    · simp only [i_le, show (37 : Int32).toInt = 37 from by decide] at h3
      refine g_loadA act (gx gp_285 (w := 0x2f03) rfl (by decide) rfl) (a := 0) (n := 47) rfl rfl rfl ?_
      refine r_getf act (gx gp_285 (w := 0x30006c9003204) rfl (by decide) rfl) (n := 50) (ci := 9) (j := 27) (N := 39) rfl rfl rfl rwj.1 (by decide) (rwj.2 (27, 141, 32, 30) (by decide)).1 ?_
      refine g_loadI act (gx gp_285 (w := 0x1003302) rfl (by decide) rfl) (a := 1) (n := 51) rfl rfl rfl ?_
      refine g_loadI act (gx gp_285 (w := 0x2003402) rfl (by decide) rfl) (a := 2) (n := 52) rfl rfl rfl ?_
      refine r_iast act (gx gp_285 (w := 0x3524) rfl (by decide) rfl) (n := 53) (j := R9) rfl (rwj.2 (27, 141, 32, 30) (by decide)).2 hr (show R9 < 30 from hR) ?_
      have rw1 := RW.wr (k := 141) (j := R9) (v := .int c9) rwj (Or.inl (by decide))
      exact g_retV hEnd (gx gp_285 (w := 0x18) rfl (by decide) rfl) ⟨rfl, hTj.fr (fun k9 j9 h9 => rd_ne (k := 141) (j := R9) _ _ (Or.inl (show k9 ≠ 141 by omega))), (hfr.mono (fun k j h => Or.inl h)).wr (k := 141) (.int c9) (Or.inr ⟨rfl, rfl⟩), rd_same (rwj.2 (27, 141, 32, 30) (by decide)).2⟩ hk1 hk2
    · simp only [i_le, show (37 : Int32).toInt = 37 from by decide] at h3
      omega
  | succ n ih =>
    intro j ri hj hjn hrj rwj hTj hfr
    refine g_loadI act (gx gp_285 (w := 0x3000902) rfl (by decide) rfl) (a := 3) (n := 9) rfl rfl rfl ?_
    refine g_constI act (gx gp_285 (w := 0x40000012c00000129000000000b01) rfl (by decide) rfl) (n := 11) (x := (37 : Int32)) (by decide) rfl ?_
    refine g_icmpGe act (gx gp_285 (w := 0x2e000e08) rfl (by decide) rfl) (tgt := 46) (n := 14) rfl rfl (fun h3 => ?_) (fun h3 => ?_)
    · simp only [i_le, show (37 : Int32).toInt = 37 from by decide] at h3
      omega
    · simp only [i_le, show (37 : Int32).toInt = 37 from by decide] at h3
      refine g_loadI act (gx gp_285 (w := 0x3000f02) rfl (by decide) rfl) (a := 3) (n := 15) rfl rfl rfl ?_
      refine g_loadI act (gx gp_285 (w := 0x1001002) rfl (by decide) rfl) (a := 1) (n := 16) rfl rfl rfl ?_
      refine g_icmpEq act (gx gp_285 (w := 0x2800132e) rfl (by decide) rfl) (tgt := 40) (n := 19) rfl rfl (fun h6 => ?_) (fun h6 => ?_)
      · simp only [i_eq] at h6
        refine g_iinc act (gx gp_285 (w := 0x80000001000003002b09) rfl (by decide) rfl) (a := 3) (i := (1 : Int32)) (n := 43) rfl (by decide) rfl rfl (L2 := [some (.ref 124), some (.int r), some (.int c9), some (.int (ri + (1 : Int32)))]) rfl ?_
        refine g_goto act (gx gp_285 (w := 0x807) rfl (by decide) rfl) (n := 8) rfl ?_
        have hk2i : (ri + (1 : Int32)).toInt = ((j + 1 : Nat) : Int) := by rw [i_add (by rw [hrj]; show _ ≤ (j : Int) + 1; omega) (by rw [hrj]; show (j : Int) + 1 < _; omega), hrj]; rfl
        exact ih (j + 1) _ hj (by omega) hk2i rwj (hTj.cong (fun i hi => by
          unfold tuT
          by_cases q : i / 35 = R9
          · rw [if_pos q, if_pos q]
          · rw [if_neg q, if_neg q]
            by_cases q2 : (i / 35 < N9 ∨ 30 ≤ i / 35) ∧ i / 35 < j
            · rw [if_pos q2, if_pos (by omega)]
            · rw [if_neg q2, if_neg (by omega)])) hfr
      · simp only [i_eq] at h6
        refine g_loadI act (gx gp_285 (w := 0x3001402) rfl (by decide) rfl) (a := 3) (n := 20) rfl rfl rfl ?_
        refine g_loadA act (gx gp_285 (w := 0x1503) rfl (by decide) rfl) (a := 0) (n := 21) rfl rfl rfl ?_
        have en : rd hj 124 28 = .int ni := (hfr.2.2 124 28 (by unfold W1; omega)).trans hnr
        refine r_getf act (gx gp_285 (w := 0x709001804) rfl (by decide) rfl) (n := 24) (ci := 9) (j := 28) (N := 39) rfl rfl rfl rwj.1 (by decide) (v := .int ni) en ?_
        refine g_icmpLt act (gx gp_285 (w := 0x21001b20) rfl (by decide) rfl) (tgt := 33) (n := 27) rfl rfl (fun h11 => ?_) (fun h11 => ?_)
        · simp only [i_lt] at h11
          refine g_loadA act (gx gp_285 (w := 0x2203) rfl (by decide) rfl) (a := 0) (n := 34) rfl rfl rfl ?_
          refine g_loadI act (gx gp_285 (w := 0x1002302) rfl (by decide) rfl) (a := 1) (n := 35) rfl rfl rfl ?_
          refine g_loadI act (gx gp_285 (w := 0x3002402) rfl (by decide) rfl) (a := 3) (n := 36) rfl rfl rfl ?_
          refine g_loadI act (gx gp_285 (w := 0x2002502) rfl (by decide) rfl) (a := 2) (n := 37) rfl rfl rfl ?_
          have hrow1 : ∀ k, k < 35 → scT T R9 C9 35 (35 * R9 + k) = tuT T R9 C9 N9 j (35 * R9 + k) := fun k hk => by
            unfold scT tuT
            rw [if_pos (by omega), if_pos (by omega)]
          have hrow2 : ∀ k, k < 35 → tuT T R9 C9 N9 j (35 * j + k) = T (35 * j + k) := fun k hk => by
            unfold tuT
            rw [if_neg (by omega), if_neg (by omega)]
          refine n_call tb_pres act hEnd (gx (P := G_call) gp_285 (w := 0xa0000000000008284400011600280f) rfl (by decide) rfl) (d' := D_278) rfl (as := [.ref 124, .int r, .int ri, .int c9]) (rest := []) (b_takes rwj hTj hr hrj hc9 (by omega) (by omega) (by omega) hC (by rw [hrow2 C9 hC]; exact (hS3 j (by omega) (by omega) (by omega)).2) ((hS3 j (by omega) (by omega) (by omega)).1.cong hC (fun k hk => hrow1 k hk) (fun k hk => by rw [hrow2 k hk]; unfold scT; rw [if_neg (by omega)]))) (show (4 : Nat) = fb 0xa0000000000008284400011600280f % 16 by decide) (by show (4 : Nat) ≤ 10; decide) (fun _ => ⟨_, _, rfl, _, shp_at rwj.1, Or.inr (show fb 0xa0000000000008284400011600280f >>> 68 = 10 by decide)⟩) (by omega) (by show 8 + (10 + 11) + 112 ≤ R.locals; omega) (by show (0 : Nat) ≤ 8; decide) (by show kc + 0 ≤ _; omega) (by show ks + 0 ≤ _; omega) (fun r9 hs9 hpo hr9 => ?_) (fun x9 hs9 hx9 hpo => ?_)
          · obtain rfl : r9 = none := hr9.elim (fun q => q.2) (fun q => absurd rfl q.1)
            obtain ⟨-, hT9, hF9⟩ := hpo
            show WpN (gp g0 wp) CLS p l e R s m args below meth c Q D_285.2.2.1 kc0 ks0 40 [some (.ref 124), some (.int r), some (.int c9), some (.int ri)] (hs9, kc, ks) []
            refine g_iinc act (gx gp_285 (w := 0x80000001000003002b09) rfl (by decide) rfl) (a := 3) (i := (1 : Int32)) (n := 43) rfl (by decide) rfl rfl (L2 := [some (.ref 124), some (.int r), some (.int c9), some (.int (ri + (1 : Int32)))]) rfl ?_
            refine g_goto act (gx gp_285 (w := 0x807) rfl (by decide) rfl) (n := 8) rfl ?_
            have hk2i : (ri + (1 : Int32)).toInt = ((j + 1 : Nat) : Int) := by rw [i_add (by rw [hrj]; show _ ≤ (j : Int) + 1; omega) (by rw [hrj]; show (j : Int) + 1 < _; omega), hrj]; rfl
            exact ih (j + 1) _ hs9 (by omega) hk2i (rwj.fr hF9 W1_rw) (hT9.cong (fun i hi => by
              have hm : 35 * (i / 35) + i % 35 = i := Nat.div_add_mod i 35
              have hlt : i % 35 < 35 := Nat.mod_lt _ (by decide)
              by_cases q : i / 35 = j
              · unfold taT
                rw [if_pos (by omega), ← hrow1 (i - 35 * j) (by omega), hrow2 C9 hC, show tuT T R9 C9 N9 j i = T i by rw [← hm, q]; exact hrow2 _ hlt]
                unfold scT tuT
                rw [if_pos (by omega), if_neg (by omega), if_pos (by omega), q, show i - 35 * j = i % 35 by omega]
              · unfold taT
                rw [if_neg (by omega)]
                unfold tuT
                by_cases q1 : i / 35 = R9
                · rw [if_pos q1, if_pos q1]
                · rw [if_neg q1, if_neg q1]
                  by_cases q2 : (i / 35 < N9 ∨ 30 ≤ i / 35) ∧ i / 35 < j
                  · rw [if_pos q2, if_pos (by omega)]
                  · rw [if_neg q2, if_neg (by omega)])) (hfr.tr hF9)
          · exact absurd hpo.1 (by omega)
        · simp only [i_lt] at h11
          refine g_loadI act (gx gp_285 (w := 0x3001c02) rfl (by decide) rfl) (a := 3) (n := 28) rfl rfl rfl ?_
          refine g_constI act (gx gp_285 (w := 0x4000000f4000000f1000000001e01) rfl (by decide) rfl) (n := 30) (x := (30 : Int32)) (by decide) rfl ?_
          refine g_icmpLt act (gx gp_285 (w := 0x28002120) rfl (by decide) rfl) (tgt := 40) (n := 33) rfl rfl (fun h20 => ?_) (fun h20 => ?_)
          · simp only [i_lt, show (30 : Int32).toInt = 30 from by decide] at h20
            refine g_iinc act (gx gp_285 (w := 0x80000001000003002b09) rfl (by decide) rfl) (a := 3) (i := (1 : Int32)) (n := 43) rfl (by decide) rfl rfl (L2 := [some (.ref 124), some (.int r), some (.int c9), some (.int (ri + (1 : Int32)))]) rfl ?_
            refine g_goto act (gx gp_285 (w := 0x807) rfl (by decide) rfl) (n := 8) rfl ?_
            have hk2i : (ri + (1 : Int32)).toInt = ((j + 1 : Nat) : Int) := by rw [i_add (by rw [hrj]; show _ ≤ (j : Int) + 1; omega) (by rw [hrj]; show (j : Int) + 1 < _; omega), hrj]; rfl
            exact ih (j + 1) _ hj (by omega) hk2i rwj (hTj.cong (fun i hi => by
              unfold tuT
              by_cases q : i / 35 = R9
              · rw [if_pos q, if_pos q]
              · rw [if_neg q, if_neg q]
                by_cases q2 : (i / 35 < N9 ∨ 30 ≤ i / 35) ∧ i / 35 < j
                · rw [if_pos q2, if_pos (by omega)]
                · rw [if_neg q2, if_neg (by omega)])) hfr
          · simp only [i_lt, show (30 : Int32).toInt = 30 from by decide] at h20
            refine g_loadA act (gx gp_285 (w := 0x2203) rfl (by decide) rfl) (a := 0) (n := 34) rfl rfl rfl ?_
            refine g_loadI act (gx gp_285 (w := 0x1002302) rfl (by decide) rfl) (a := 1) (n := 35) rfl rfl rfl ?_
            refine g_loadI act (gx gp_285 (w := 0x3002402) rfl (by decide) rfl) (a := 3) (n := 36) rfl rfl rfl ?_
            refine g_loadI act (gx gp_285 (w := 0x2002502) rfl (by decide) rfl) (a := 2) (n := 37) rfl rfl rfl ?_
            have hrow1 : ∀ k, k < 35 → scT T R9 C9 35 (35 * R9 + k) = tuT T R9 C9 N9 j (35 * R9 + k) := fun k hk => by
              unfold scT tuT
              rw [if_pos (by omega), if_pos (by omega)]
            have hrow2 : ∀ k, k < 35 → tuT T R9 C9 N9 j (35 * j + k) = T (35 * j + k) := fun k hk => by
              unfold tuT
              rw [if_neg (by omega), if_neg (by omega)]
            refine n_call tb_pres act hEnd (gx (P := G_call) gp_285 (w := 0xa0000000000008284400011600280f) rfl (by decide) rfl) (d' := D_278) rfl (as := [.ref 124, .int r, .int ri, .int c9]) (rest := []) (b_takes rwj hTj hr hrj hc9 (by omega) (by omega) (by omega) hC (by rw [hrow2 C9 hC]; exact (hS3 j (by omega) (by omega) (by omega)).2) ((hS3 j (by omega) (by omega) (by omega)).1.cong hC (fun k hk => hrow1 k hk) (fun k hk => by rw [hrow2 k hk]; unfold scT; rw [if_neg (by omega)]))) (show (4 : Nat) = fb 0xa0000000000008284400011600280f % 16 by decide) (by show (4 : Nat) ≤ 10; decide) (fun _ => ⟨_, _, rfl, _, shp_at rwj.1, Or.inr (show fb 0xa0000000000008284400011600280f >>> 68 = 10 by decide)⟩) (by omega) (by show 8 + (10 + 11) + 112 ≤ R.locals; omega) (by show (0 : Nat) ≤ 8; decide) (by show kc + 0 ≤ _; omega) (by show ks + 0 ≤ _; omega) (fun r9 hs9 hpo hr9 => ?_) (fun x9 hs9 hx9 hpo => ?_)
            · obtain rfl : r9 = none := hr9.elim (fun q => q.2) (fun q => absurd rfl q.1)
              obtain ⟨-, hT9, hF9⟩ := hpo
              show WpN (gp g0 wp) CLS p l e R s m args below meth c Q D_285.2.2.1 kc0 ks0 40 [some (.ref 124), some (.int r), some (.int c9), some (.int ri)] (hs9, kc, ks) []
              refine g_iinc act (gx gp_285 (w := 0x80000001000003002b09) rfl (by decide) rfl) (a := 3) (i := (1 : Int32)) (n := 43) rfl (by decide) rfl rfl (L2 := [some (.ref 124), some (.int r), some (.int c9), some (.int (ri + (1 : Int32)))]) rfl ?_
              refine g_goto act (gx gp_285 (w := 0x807) rfl (by decide) rfl) (n := 8) rfl ?_
              have hk2i : (ri + (1 : Int32)).toInt = ((j + 1 : Nat) : Int) := by rw [i_add (by rw [hrj]; show _ ≤ (j : Int) + 1; omega) (by rw [hrj]; show (j : Int) + 1 < _; omega), hrj]; rfl
              exact ih (j + 1) _ hs9 (by omega) hk2i (rwj.fr hF9 W1_rw) (hT9.cong (fun i hi => by
                have hm : 35 * (i / 35) + i % 35 = i := Nat.div_add_mod i 35
                have hlt : i % 35 < 35 := Nat.mod_lt _ (by decide)
                by_cases q : i / 35 = j
                · unfold taT
                  rw [if_pos (by omega), ← hrow1 (i - 35 * j) (by omega), hrow2 C9 hC, show tuT T R9 C9 N9 j i = T i by rw [← hm, q]; exact hrow2 _ hlt]
                  unfold scT tuT
                  rw [if_pos (by omega), if_neg (by omega), if_pos (by omega), q, show i - 35 * j = i % 35 by omega]
                · unfold taT
                  rw [if_neg (by omega)]
                  unfold tuT
                  by_cases q1 : i / 35 = R9
                  · rw [if_pos q1, if_pos q1]
                  · rw [if_neg q1, if_neg q1]
                    by_cases q2 : (i / 35 < N9 ∨ 30 ≤ i / 35) ∧ i / 35 < j
                    · rw [if_pos q2, if_pos (by omega)]
                    · rw [if_neg q2, if_neg (by omega)])) (hfr.tr hF9)
            · exact absurd hpo.1 (by omega)
theorem b_turns {g0 : GG} {bl : Nat} {xs : Nat → Int32} {l : Launch} {hs : List CE} {T : Nat → Rat} {r c9 ni : Int32} {R9 C9 N9 : Nat} (rw0 : RW hs) (hT : TabR hs T) (hr : r.toInt = (R9 : Int)) (hc9 : c9.toInt = (C9 : Int)) (hni : ni.toInt = (N9 : Int)) (hnr : rd hs 124 28 = .int ni) (hN : N9 ≤ 30) (hR : R9 < 30) (hC : C9 < 35) (hpp : 0 < T (35 * R9 + C9)) (hS3 : Sm3 T R9 C9 N9) : BodyN SSX TBL g0 CLS bl xs l D_285 5 141 0 0 [.ref 124, .int r, .int c9] hs (fun kd r h2 => kd = 0 ∧ TabR h2 (tuT T R9 C9 N9 37) ∧ FrS (fun k j => W1 k j ∨ (k = 141 ∧ j = R9)) hs h2 ∧ rd h2 141 R9 = .int c9) := by
  intro wp p e R s m args below meth c Q kc0 ks0 kc ks act hf hl hc hsl hEnd
  show WpN (gp g0 wp) CLS p l e R s m args below meth c Q D_285.2.2.1 kc0 ks0 0 [some (.ref 124), some (.int r), some (.int c9), none] (hs, kc, ks) []
  refine g_loadA act (gx gp_285 (w := 0x103) rfl (by decide) rfl) (a := 0) (n := 1) rfl rfl rfl ?_
  refine g_loadI act (gx gp_285 (w := 0x1000202) rfl (by decide) rfl) (a := 1) (n := 2) rfl rfl rfl ?_
  refine g_loadI act (gx gp_285 (w := 0x2000302) rfl (by decide) rfl) (a := 2) (n := 3) rfl rfl rfl ?_
  refine n_call tb_pres act hEnd (gx (P := G_call) gp_285 (w := 0xa0000000000008203300010a00060f) rfl (by decide) rfl) (d' := D_266) rfl (as := [.ref 124, .int r, .int c9]) (rest := []) (b_scales rw0 hT hr hc9 (by omega) hC hpp hS3.1) (show (3 : Nat) = fb 0xa0000000000008203300010a00060f % 16 by decide) (by show (3 : Nat) ≤ 8; decide) (fun _ => ⟨_, _, rfl, _, shp_at rw0.1, Or.inr (show fb 0xa0000000000008203300010a00060f >>> 68 = 10 by decide)⟩) (by omega) (by show 8 + (8 + 11) + 87 ≤ R.locals; omega) (by show (0 : Nat) ≤ 8; decide) (by show kc + 0 ≤ _; omega) (by show ks + 0 ≤ _; omega) (fun r9 hs9 hpo hr9 => ?_) (fun x9 hs9 hx9 hpo => ?_)
  · obtain rfl : r9 = none := hr9.elim (fun q => q.2) (fun q => absurd rfl q.1)
    obtain ⟨-, hT9, hF9⟩ := hpo
    show WpN (gp g0 wp) CLS p l e R s m args below meth c Q D_285.2.2.1 kc0 ks0 6 [some (.ref 124), some (.int r), some (.int c9), none] (hs9, kc, ks) []
    refine g_constI act (gx gp_285 (w := 0x40000000400000001000000000701) rfl (by decide) rfl) (n := 7) (x := (0 : Int32)) (by decide) rfl ?_
    refine g_storeI act (gx gp_285 (w := 0x3000810) rfl (by decide) rfl) (a := 3) (n := 8) rfl rfl (L2 := [some (.ref 124), some (.int r), some (.int c9), some (.int (0 : Int32))]) rfl ?_
    exact turns_loop hr hc9 hni hnr hN hR hC hS3.2 hf hl hc hsl act hEnd (by omega) (by omega) 37 0 _ hs9 rfl rfl (rw0.fr hF9 W1_rw) (hT9.cong (fun i hi => by
      unfold scT tuT
      by_cases q : i / 35 = R9
      · rw [if_pos (by omega), if_pos q]
      · rw [if_neg (by omega), if_neg q, if_neg (by omega)])) hF9
  · exact absurd hpo.1 (by omega)
