/-! Which column helps, which comes. -/
theorem FR.z {t w : Int64} {q : Rat} (h : FR t w q) : t.toInt = 0 ↔ q = 0 := by rw [h.1]; exact Rat.num_eq_zero
theorem FR.ge {t w : Int64} {q : Rat} (h : FR t w q) : 0 ≤ t.toInt ↔ 0 ≤ q := by rw [h.1]; exact Rat.num_nonneg
theorem helps_loop {g0 : GG} {bl : Nat} {xs : Nat → Int32} {l : Launch} {wp : va_W} {p : Program} {e : Env} {R : Room} {s : State} {m : MethodId} {args : Array Value} {below : List Frame} {meth : Method} {c : Code} {Q : State → Prop} {kc0 ks0 kc ks f lam KC KS : Nat} {hs : List CE} {T : Nat → Rat} {c9 : Int32} {C9 : Nat} (rw0 : RW hs) (hT : TabR hs T) (hc9 : c9.toInt = (C9 : Int)) (hC : C9 < 35) (act : Act SSX TBL (gp g0 wp) CLS bl xs D_215 p l s m args meth c) (hEnd : EndN SSX TBL (gp g0 wp) CLS D_215 p l e R s m args below meth c Q kc0 ks0 f lam KC KS (fun kd r h2 => kd = 0 ∧ hs = h2 ∧ ((r = some (.int 1) ∧ lng (fun k => T (35 * (30 + k) + C9))) ∨ (r = some (.int 0) ∧ ¬ lng (fun k => T (35 * (30 + k) + C9)))))) (hk1 : kc ≤ KC) (hk2 : ks ≤ KS) : ∀ (n j : Nat) (gi : Int32), j + n = 7 → gi.toInt = (j : Int) → (∀ q, q < j → T (35 * (30 + q) + C9) = 0) → WpN (gp g0 wp) CLS p l e R s m args below meth c Q D_215.2.2.1 kc0 ks0 2 [some (.ref 124), some (.int c9), some (.int gi), none, none] (hs, kc, ks) [] := by
  intro n
  induction n with
  | zero =>
    intro j gi hj hg hz
    have hg30 : ((30 : Int32) + gi).toInt = ((30 + j : Nat) : Int) := by rw [i_add (by rw [hg]; show _ ≤ 30 + (j : Int); omega) (by rw [hg]; show 30 + (j : Int) < _; omega), hg]; rfl
    refine g_loadI act (gx gp_215 (w := 0x2000302) rfl (by decide) rfl) (a := 2) (n := 3) rfl rfl rfl ?_
    refine g_constI act (gx gp_215 (w := 0x40000003c00000039000000000501) rfl (by decide) rfl) (n := 5) (x := (7 : Int32)) (by decide) rfl ?_
    refine g_icmpGe act (gx gp_215 (w := 0x2f000808) rfl (by decide) rfl) (tgt := 47) (n := 8) rfl rfl (fun h3 => ?_) (fun h3 => ?_)
    · simp only [i_le, show (7 : Int32).toInt = 7 from by decide] at h3
      refine g_constI act (gx gp_215 (w := 0x40000000400000001000000003001) rfl (by decide) rfl) (n := 48) (x := (0 : Int32)) (by decide) rfl ?_
      exact g_retZ hEnd (gx gp_215 (w := 0x23) rfl (by decide) rfl) (by decide) ⟨rfl, rfl, Or.inr ⟨rfl, fun ⟨k, a1, a2, a3⟩ => by have := hz k (by omega); grind⟩⟩ hk1 hk2
    · simp only [i_le, show (7 : Int32).toInt = 7 from by decide] at h3
      omega
  | succ n ih =>
    intro j gi hj hg hz
    have hg30 : ((30 : Int32) + gi).toInt = ((30 + j : Nat) : Int) := by rw [i_add (by rw [hg]; show _ ≤ 30 + (j : Int); omega) (by rw [hg]; show 30 + (j : Int) < _; omega), hg]; rfl
    refine g_loadI act (gx gp_215 (w := 0x2000302) rfl (by decide) rfl) (a := 2) (n := 3) rfl rfl rfl ?_
    refine g_constI act (gx gp_215 (w := 0x40000003c00000039000000000501) rfl (by decide) rfl) (n := 5) (x := (7 : Int32)) (by decide) rfl ?_
    refine g_icmpGe act (gx gp_215 (w := 0x2f000808) rfl (by decide) rfl) (tgt := 47) (n := 8) rfl rfl (fun h3 => ?_) (fun h3 => ?_)
    · simp only [i_le, show (7 : Int32).toInt = 7 from by decide] at h3
      omega
    · simp only [i_le, show (7 : Int32).toInt = 7 from by decide] at h3
      refine g_loadA act (gx gp_215 (w := 0x903) rfl (by decide) rfl) (a := 0) (n := 9) rfl rfl rfl ?_
      refine r_getf act (gx gp_215 (w := 0x3000649000c04) rfl (by decide) rfl) (n := 12) (ci := 9) (j := 25) (N := 39) rfl rfl rfl rw0.1 (by decide) (rw0.2 (25, 139, 33, 1295) (by decide)).1 ?_
      refine g_constI act (gx gp_215 (w := 0x40000011c00000119000000000e01) rfl (by decide) rfl) (n := 14) (x := (35 : Int32)) (by decide) rfl ?_
      refine g_constI act (gx gp_215 (w := 0x4000000f4000000f1000000001001) rfl (by decide) rfl) (n := 16) (x := (30 : Int32)) (by decide) rfl ?_
      refine g_loadI act (gx gp_215 (w := 0x2001102) rfl (by decide) rfl) (a := 2) (n := 17) rfl rfl rfl ?_
      refine g_iadd act (gx gp_215 (w := 0x120a) rfl (by decide) rfl) (n := 18) rfl ?_
      refine g_imul act (gx gp_215 (w := 0x1311) rfl (by decide) rfl) (n := 19) rfl ?_
      refine g_loadI act (gx gp_215 (w := 0x1001402) rfl (by decide) rfl) (a := 1) (n := 20) rfl rfl rfl ?_
      refine g_iadd act (gx gp_215 (w := 0x150a) rfl (by decide) rfl) (n := 21) rfl ?_
      obtain ⟨t, w9, e1, e2, hF⟩ := hT (35 * (30 + j) + C9) (by omega)
      refine r_lald act (gx gp_215 (w := 0x160d) rfl (by decide) rfl) (n := 22) (j := (35 * (30 + j) + C9)) rfl (rw0.2 (25, 139, 33, 1295) (by decide)).2 (idx35 hg30 hc9 (by omega)) (show 35 * (30 + j) + C9 < 1295 by omega) (v := .long t) e1 ?_
      refine g_storeL act (gx gp_215 (w := 0x300170b) rfl (by decide) rfl) (a := 3) (n := 23) rfl rfl (L2 := [some (.ref 124), some (.int c9), some (.int gi), some (.long t), none]) rfl ?_
      refine g_loadL act (gx gp_215 (w := 0x3001806) rfl (by decide) rfl) (a := 3) (n := 24) rfl rfl rfl ?_
      refine g_constL act (gx gp_215 (w := 0x40000000000000002000000001901) rfl (by decide) rfl) (n := 25) (x := 0) (by decide) rfl ?_
      refine g_lcmp act (gx gp_215 (w := 0x1a0c) rfl (by decide) rfl) (n := 26) rfl ?_
      refine g_ifEq act (gx gp_215 (w := 0x29001d0e) rfl (by decide) rfl) (tgt := 41) (n := 29) rfl rfl (fun h16 => ?_) (fun h16 => ?_)
      · simp only [cmpEq, show (0 : Int64).toInt = 0 from by decide] at h16
        refine g_iinc act (gx gp_215 (w := 0x80000001000002002c09) rfl (by decide) rfl) (a := 2) (i := (1 : Int32)) (n := 44) rfl (by decide) rfl rfl (L2 := [some (.ref 124), some (.int c9), some (.int (gi + (1 : Int32))), some (.long t), none]) rfl ?_
        refine g_goto act (gx gp_215 (w := 0x207) rfl (by decide) rfl) (n := 2) rfl ?_
        have hg2 : (gi + (1 : Int32)).toInt = ((j + 1 : Nat) : Int) := by rw [i_add (by rw [hg]; show _ ≤ (j : Int) + 1; omega) (by rw [hg]; show (j : Int) + 1 < _; omega), hg]; rfl
        exact n_forget (d := D_215) (L2 := [some (.ref 124), some (.int c9), some (.int (gi + (1 : Int32))), none, none]) (fun i v hi => by
          match i, hi with
          | 0, hi => exact hi
          | 1, hi => exact hi
          | 2, hi => exact hi
          | 3, hi => cases hi
          | 4, hi => cases hi
          | i + 5, hi => cases hi) (ih (j + 1) _ (by omega) hg2 (fun q hq => by
          by_cases z : q = j
          · rw [z]; exact hF.z.mp (by omega)
          · exact hz q (by omega)))
      · simp only [cmpEq, show (0 : Int64).toInt = 0 from by decide] at h16
        refine g_loadL act (gx gp_215 (w := 0x3001e06) rfl (by decide) rfl) (a := 3) (n := 30) rfl rfl rfl ?_
        refine g_constL act (gx gp_215 (w := 0x40000000000000002000000001f01) rfl (by decide) rfl) (n := 31) (x := 0) (by decide) rfl ?_
        refine g_lcmp act (gx gp_215 (w := 0x200c) rfl (by decide) rfl) (n := 32) rfl ?_
        refine g_ifGe act (gx gp_215 (w := 0x27002314) rfl (by decide) rfl) (tgt := 39) (n := 35) rfl rfl (fun h22 => ?_) (fun h22 => ?_)
        · simp only [cmpGe, show (0 : Int64).toInt = 0 from by decide] at h22
          refine g_constI act (gx gp_215 (w := 0x40000000400000001000000002801) rfl (by decide) rfl) (n := 40) (x := (0 : Int32)) (by decide) rfl ?_
          exact g_retZ hEnd (gx gp_215 (w := 0x23) rfl (by decide) rfl) (by decide) ⟨rfl, rfl, Or.inr ⟨rfl, fun ⟨k, a1, a2, a3⟩ => by
            have f1 := hF.ge
            have f2 := hF.z
            rcases Nat.lt_trichotomy k j with q | q | q
            · have := hz k q; grind
            · subst q; grind
            · have := a2 j q; grind⟩⟩ hk1 hk2
        · simp only [cmpGe, show (0 : Int64).toInt = 0 from by decide] at h22
          refine g_constI act (gx gp_215 (w := 0x40000000c00000009000000002401) rfl (by decide) rfl) (n := 36) (x := (1 : Int32)) (by decide) rfl ?_
          refine g_goto act (gx gp_215 (w := 0x2807) rfl (by decide) rfl) (n := 40) rfl ?_
          exact g_retZ hEnd (gx gp_215 (w := 0x23) rfl (by decide) rfl) (by decide) ⟨rfl, rfl, Or.inl ⟨rfl, j, by omega, hz, by have := hF.ge; grind⟩⟩ hk1 hk2
theorem b_helps {g0 : GG} {bl : Nat} {xs : Nat → Int32} {l : Launch} {hs : List CE} {T : Nat → Rat} {c9 : Int32} {C9 : Nat} (rw0 : RW hs) (hT : TabR hs T) (hc9 : c9.toInt = (C9 : Int)) (hC : C9 < 35) : BodyN SSX TBL g0 CLS bl xs l D_215 0 0 0 0 [.ref 124, .int c9] hs (fun kd r h2 => kd = 0 ∧ hs = h2 ∧ ((r = some (.int 1) ∧ lng (fun k => T (35 * (30 + k) + C9))) ∨ (r = some (.int 0) ∧ ¬ lng (fun k => T (35 * (30 + k) + C9))))) := by
  intro wp p e R s m args below meth c Q kc0 ks0 kc ks act hf hl hc hsl hEnd
  show WpN (gp g0 wp) CLS p l e R s m args below meth c Q D_215.2.2.1 kc0 ks0 0 [some (.ref 124), some (.int c9), none, none, none] (hs, kc, ks) []
  refine g_constI act (gx gp_215 (w := 0x40000000400000001000000000101) rfl (by decide) rfl) (n := 1) (x := (0 : Int32)) (by decide) rfl ?_
  refine g_storeI act (gx gp_215 (w := 0x2000210) rfl (by decide) rfl) (a := 2) (n := 2) rfl rfl (L2 := [some (.ref 124), some (.int c9), some (.int (0 : Int32)), none, none]) rfl ?_
  exact helps_loop rw0 hT hc9 hC act hEnd (by omega) (by omega) 7 0 _ rfl rfl (fun q hq => absurd hq (by omega))
theorem comes_loop {g0 : GG} {bl : Nat} {xs : Nat → Int32} {l : Launch} {wp : va_W} {p : Program} {e : Env} {R : Room} {s : State} {m : MethodId} {args : Array Value} {below : List Frame} {meth : Method} {c : Code} {Q : State → Prop} {kc0 ks0 kc ks f lam KC KS : Nat} {hs : List CE} {T : Nat → Rat} (rw0 : RW hs) (hT : TabR hs T) (hf : 1 ≤ R.frames) (hl : 24 ≤ R.locals) (hc : kc ≤ R.cells + kc0) (hsl : ks ≤ R.slots + ks0) (act : Act SSX TBL (gp g0 wp) CLS bl xs D_190 p l s m args meth c) (hEnd : EndN SSX TBL (gp g0 wp) CLS D_190 p l e R s m args below meth c Q kc0 ks0 f lam KC KS (fun kd r h2 => kd = 0 ∧ hs = h2 ∧ ∃ (ci : Int32) (Cn : Nat), r = some (.int ci) ∧ ci.toInt = (Cn : Int) ∧ Cn ≤ 34 ∧ (∀ q, q < Cn → ¬ lng (fun k => T (35 * (30 + k) + q))) ∧ (Cn < 34 → lng (fun k => T (35 * (30 + k) + Cn))))) (hk1 : kc ≤ KC) (hk2 : ks ≤ KS) : ∀ (n j : Nat) (gi : Int32), j + n = 34 → gi.toInt = (j : Int) → (∀ q, q < j → ¬ lng (fun k => T (35 * (30 + k) + q))) → WpN (gp g0 wp) CLS p l e R s m args below meth c Q D_190.2.2.1 kc0 ks0 2 [some (.ref 124), some (.int gi)] (hs, kc, ks) [] := by
  intro n
  induction n with
  | zero =>
    intro j gi hj hg hz
    refine g_loadI act (gx gp_190 (w := 0x1000302) rfl (by decide) rfl) (a := 1) (n := 3) rfl rfl rfl ?_
    refine g_constI act (gx gp_190 (w := 0x40000011400000111000000000501) rfl (by decide) rfl) (n := 5) (x := (34 : Int32)) (by decide) rfl ?_
    refine g_icmpGe act (gx gp_190 (w := 0x16000808) rfl (by decide) rfl) (tgt := 22) (n := 8) rfl rfl (fun h3 => ?_) (fun h3 => ?_)
    · simp only [i_le, show (34 : Int32).toInt = 34 from by decide] at h3
      refine g_loadI act (gx gp_190 (w := 0x1001702) rfl (by decide) rfl) (a := 1) (n := 23) rfl rfl rfl ?_
      exact g_retI hEnd (gx gp_190 (w := 0x2f) rfl (by decide) rfl) ⟨rfl, rfl, gi, j, rfl, hg, by omega, hz, fun q => by omega⟩ hk1 hk2
    · simp only [i_le, show (34 : Int32).toInt = 34 from by decide] at h3
      omega
  | succ n ih =>
    intro j gi hj hg hz
    refine g_loadI act (gx gp_190 (w := 0x1000302) rfl (by decide) rfl) (a := 1) (n := 3) rfl rfl rfl ?_
    refine g_constI act (gx gp_190 (w := 0x40000011400000111000000000501) rfl (by decide) rfl) (n := 5) (x := (34 : Int32)) (by decide) rfl ?_
    refine g_icmpGe act (gx gp_190 (w := 0x16000808) rfl (by decide) rfl) (tgt := 22) (n := 8) rfl rfl (fun h3 => ?_) (fun h3 => ?_)
    · simp only [i_le, show (34 : Int32).toInt = 34 from by decide] at h3
      omega
    · simp only [i_le, show (34 : Int32).toInt = 34 from by decide] at h3
      refine g_loadA act (gx gp_190 (w := 0x903) rfl (by decide) rfl) (a := 0) (n := 9) rfl rfl rfl ?_
      refine g_loadI act (gx gp_190 (w := 0x1000a02) rfl (by decide) rfl) (a := 1) (n := 10) rfl rfl rfl ?_
      refine n_call tb_pres act hEnd (gx (P := G_call) gp_190 (w := 0xa000000000000c14220000d7000d0f) rfl (by decide) rfl) (d' := D_215) rfl (as := [.ref 124, .int gi]) (rest := []) (b_helps rw0 hT hg (by omega)) (show (2 : Nat) = fb 0xa000000000000c14220000d7000d0f % 16 by decide) (by show (2 : Nat) ≤ 5; decide) (fun _ => ⟨_, _, rfl, _, shp_at rw0.1, Or.inr (show fb 0xa000000000000c14220000d7000d0f >>> 68 = 10 by decide)⟩) (by omega) (by show 8 + (5 + 11) + 0 ≤ R.locals; omega) (by show (0 : Nat) ≤ 8; decide) (by show kc + 0 ≤ _; omega) (by show ks + 0 ≤ _; omega) (fun r9 hs9 hpo hr9 => ?_) (fun x9 hs9 hx9 hpo => ?_)
      · obtain ⟨-, rfl, hq7⟩ := hpo
        have hq8 : ∃ z9 : Int32, r9 = some (.int z9) ∧ ((z9.toInt = 1 ∧ lng (fun k => T (35 * (30 + k) + j))) ∨ (z9.toInt = 0 ∧ ¬ lng (fun k => T (35 * (30 + k) + j)))) := by
          rcases hq7 with ⟨rfl, q⟩ | ⟨rfl, q⟩
          · exact ⟨1, rfl, Or.inl ⟨by decide, q⟩⟩
          · exact ⟨0, rfl, Or.inr ⟨by decide, q⟩⟩
        clear hq7
        obtain ⟨z9, rfl, hq9⟩ := hq8
        show WpN (gp g0 wp) CLS p l e R s m args below meth c Q D_190.2.2.1 kc0 ks0 13 [some (.ref 124), some (.int gi)] (hs, kc, ks) [.int z9]
        refine g_ifNe act (gx gp_190 (w := 0x1600101d) rfl (by decide) rfl) (tgt := 22) (n := 16) rfl rfl (fun h6 => ?_) (fun h6 => ?_)
        · simp only [i_eq, i0] at h6
          refine g_loadI act (gx gp_190 (w := 0x1001702) rfl (by decide) rfl) (a := 1) (n := 23) rfl rfl rfl ?_
          exact g_retI hEnd (gx gp_190 (w := 0x2f) rfl (by decide) rfl) ⟨rfl, rfl, gi, j, rfl, hg, by omega, hz, fun q => hq9.elim (fun y => y.2) (fun y => by obtain ⟨y1, y2⟩ := y; exfalso; omega)⟩ hk1 hk2
        · simp only [i_eq, i0] at h6
          refine g_iinc act (gx gp_190 (w := 0x80000001000001001309) rfl (by decide) rfl) (a := 1) (i := (1 : Int32)) (n := 19) rfl (by decide) rfl rfl (L2 := [some (.ref 124), some (.int (gi + (1 : Int32)))]) rfl ?_
          refine g_goto act (gx gp_190 (w := 0x207) rfl (by decide) rfl) (n := 2) rfl ?_
          have hg2 : (gi + (1 : Int32)).toInt = ((j + 1 : Nat) : Int) := by rw [i_add (by rw [hg]; show _ ≤ (j : Int) + 1; omega) (by rw [hg]; show (j : Int) + 1 < _; omega), hg]; rfl
          exact ih (j + 1) _ (by omega) hg2 (fun q hq => by
            by_cases z : q = j
            · rw [z]; exact hq9.elim (fun y => by obtain ⟨y1, y2⟩ := y; exfalso; omega) (fun y => y.2)
            · exact hz q (by omega))
      · exact absurd hpo.1 (by omega)
theorem b_comes {g0 : GG} {bl : Nat} {xs : Nat → Int32} {l : Launch} {hs : List CE} {T : Nat → Rat} (rw0 : RW hs) (hT : TabR hs T) : BodyN SSX TBL g0 CLS bl xs l D_190 1 24 0 0 [.ref 124] hs (fun kd r h2 => kd = 0 ∧ hs = h2 ∧ ∃ (ci : Int32) (Cn : Nat), r = some (.int ci) ∧ ci.toInt = (Cn : Int) ∧ Cn ≤ 34 ∧ (∀ q, q < Cn → ¬ lng (fun k => T (35 * (30 + k) + q))) ∧ (Cn < 34 → lng (fun k => T (35 * (30 + k) + Cn)))) := by
  intro wp p e R s m args below meth c Q kc0 ks0 kc ks act hf hl hc hsl hEnd
  show WpN (gp g0 wp) CLS p l e R s m args below meth c Q D_190.2.2.1 kc0 ks0 0 [some (.ref 124), none] (hs, kc, ks) []
  refine g_constI act (gx gp_190 (w := 0x40000000400000001000000000101) rfl (by decide) rfl) (n := 1) (x := (0 : Int32)) (by decide) rfl ?_
  refine g_storeI act (gx gp_190 (w := 0x1000210) rfl (by decide) rfl) (a := 1) (n := 2) rfl rfl (L2 := [some (.ref 124), some (.int (0 : Int32))]) rfl ?_
  exact comes_loop rw0 hT hf hl hc hsl act hEnd (by omega) (by omega) 34 0 _ rfl rfl (fun q hq => absurd hq (by omega))
