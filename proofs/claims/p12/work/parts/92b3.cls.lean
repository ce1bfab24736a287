/-! A row of the tableau is whole: closes. -/
section PUT
variable {g0 : GG} {bl : Nat} {xs : Nat → Int32} {l : Launch} {hs : List CE} {T : Nat → Rat} {r c9 : Int32} {R9 C9 : Nat} {x y : Int64} {q : Rat}
theorem b_putsQ (rw0 : RW hs) (hT : TabR hs T) (hr : r.toInt = (R9 : Int)) (hc9 : c9.toInt = (C9 : Int)) (hlt : 35 * R9 + C9 < 1295) (hF : FR x y q) : BodyN SSX TBL g0 CLS bl xs l D_256 0 0 0 0 [.ref 124, .int r, .int c9, .long x, .long y] hs (fun kd _ h2 => kd = 0 ∧ QArr h2 139 140 1295 (upQ T (35 * R9 + C9) q) ∧ FrS W1 hs h2) :=
  (b_puts rw0 hr hc9 hlt).mono (fun k r h ⟨h1, h2⟩ => ⟨h1, by rw [h2]; exact hT.put rw0 hF, by rw [h2]; exact ((FrS.rf W1 hs).wr (k := 139) _ (Or.inl rfl)).wr (k := 140) _ (Or.inr (Or.inl rfl))⟩)
theorem b_addsToQ (rw0 : RW hs) (hT : TabR hs T) (hr : r.toInt = (R9 : Int)) (hc9 : c9.toInt = (C9 : Int)) (hlt : 35 * R9 + C9 < 1295) (hF : FR x y q) (s1 : Sml (T (35 * R9 + C9))) (s2 : Sml q) : BodyN SSX TBL g0 CLS bl xs l D_177 3 85 0 0 [.ref 124, .int r, .int c9, .long x, .long y] hs (fun kd _ h2 => kd = 0 ∧ QArr h2 139 140 1295 (upQ T (35 * R9 + C9) (T (35 * R9 + C9) + q)) ∧ FrS W1 hs h2) := by
  obtain ⟨t0, w0, e1, e2, hF1⟩ := hT (35 * R9 + C9) hlt
  have m1 := hF1.sm s1
  have m2 := hF.sm s2
  have hd : (y.toInt.natAbs : Int) = y.toInt := by omega
  have hb : (w0.toInt.natAbs : Int) = w0.toInt := by omega
  have n1 := nn m1.1 m2.2.1
  have n2 := nn m2.1 m1.2.1
  have n3 := nn m2.2.1 m1.2.1
  rw [hd] at n1
  rw [hb] at n2 n3
  refine (b_addsTo rw0 hr hc9 hlt e1 e2 hF1 hF (by omega) (by omega)).mono (fun k r h ⟨h1, t, w, h2, hq⟩ => ⟨h1, ?_, ?_⟩)
  · rw [h2]
    have rw1 := RW.wr (k := 124) (j := 7) (v := .long t) rw0 (Or.inr (by decide))
    have rw2 := RW.wr (k := 124) (j := 8) (v := .long w) rw1 (Or.inr (by decide))
    exact TabR.put (hT.fr (fun k9 j9 h9 => by rw [rd_ne _ _ (Or.inl (by omega)), rd_ne _ _ (Or.inl (by omega))])) rw2 hq
  · rw [h2]
    exact ((((FrS.rf W1 hs).wr (k := 124) (j := 7) _ (Or.inr (Or.inr ⟨rfl, Or.inl rfl⟩))).wr (k := 124) (j := 8) _ (Or.inr (Or.inr ⟨rfl, Or.inr rfl⟩))).wr (k := 139) _ (Or.inl rfl)).wr (k := 140) _ (Or.inr (Or.inl rfl))
end PUT
theorem QArr.putN {hs : List CE} {c1 c2 n : Nat} {q : Nat → Rat} (h : QArr hs c1 c2 n q) {ci N j : Nat} {t w : Int64} {Y : Rat} (s1 : shp hs c1 = some (ci, N)) (hne : c1 ≠ c2) (e2 : rd hs c2 j = .long w) (hx : FR t w Y) : QArr (wr hs c1 j (.long t)) c1 c2 n (upQ q j Y) := fun i hi => by
  unfold upQ
  by_cases z : i = j
  · rw [if_pos z, z]
    exact ⟨t, w, rd_same s1, (rd_ne _ _ (Or.inl (fun q => hne q.symm))).trans e2, hx⟩
  · rw [if_neg z]
    obtain ⟨a, b, h1, h2, h3⟩ := h i hi
    exact ⟨a, b, (rd_ne _ _ (Or.inr z)).trans h1, (rd_ne _ _ (Or.inl (fun q => hne q.symm))).trans h2, h3⟩
def WC (k j : Nat) : Prop := k = 139 ∨ k = 140 ∨ k = 141 ∨ (k = 124 ∧ (j = 7 ∨ j = 8 ∨ j = 28))
theorem WC_rw : ∀ q ∈ RWT, ¬ WC 124 q.1 := by
  intro q hq
  have : q.1 ≠ 7 ∧ q.1 ≠ 8 ∧ q.1 ≠ 28 := by revert q; decide
  unfold WC
  omega
def ngT (T : Nat → Rat) (r k : Nat) : Nat → Rat := fun i => if 35 * r ≤ i ∧ i < 35 * r + k then -T i else T i
theorem ng_step {T : Nat → Rat} {r k : Nat} : ∀ j, upQ (ngT T r k) (35 * r + k) (-T (35 * r + k)) j = ngT T r (k + 1) j := by
  intro j
  unfold upQ ngT
  by_cases z : j = 35 * r + k
  · rw [if_pos z, if_pos (by omega), z]
  · rw [if_neg z]
    have : (35 * r ≤ j ∧ j < 35 * r + k) ↔ (35 * r ≤ j ∧ j < 35 * r + (k + 1)) := by omega
    simp only [this]
/-- what the missing row gets -/
def adT (T : Nat → Rat) (r k : Nat) : Nat → Rat := fun i => if 1050 ≤ i ∧ i < 1050 + k then T i + -T (35 * r + (i - 1050)) else T i
theorem ad_step {T : Nat → Rat} {r k : Nat} : ∀ j, upQ (adT T r k) (35 * 30 + k) (T (35 * 30 + k) + -T (35 * r + k)) j = adT T r (k + 1) j := by
  intro j
  unfold upQ adT
  by_cases z : j = 35 * 30 + k
  · rw [if_pos z, if_pos (by omega), z, show 35 * r + (35 * 30 + k - 1050) = 35 * r + k by omega]
  · rw [if_neg z]
    have : (1050 ≤ j ∧ j < 1050 + k) ↔ (1050 ≤ j ∧ j < 1050 + (k + 1)) := by omega
    simp only [this]
/-- the tableau after a row is closed -/
def cls2 (T : Nat → Rat) (r : Nat) (tr eq : Bool) : Nat → Rat := bif eq then (bif tr then ngT T r 35 else T) else upQ (bif tr then ngT T r 35 else T) (35 * r + (5 + r)) (bif tr then -1 else 1)
def clsT (T : Nat → Rat) (r : Nat) (tr eq : Bool) : Nat → Rat := bif tr || eq then adT (cls2 T r tr eq) r 35 else cls2 T r tr eq
theorem frm1 : FR (-1 : Int64) (1 : Int64) (-1) := ⟨by decide, by decide⟩
theorem frp1 : FR (1 : Int64) (1 : Int64) 1 := ⟨by decide, by decide⟩
theorem smlm1 : Sml (-1) := ⟨by decide, by decide⟩
theorem smlp1 : Sml 1 := ⟨by decide, by decide⟩
theorem upI_s (f : Nat → Int) (i : Nat) (X : Int) : upI f i X i = X := if_pos rfl
theorem cls2_sm {T : Nat → Rat} {r : Nat} (hr : r < 29) (tr eq : Bool) (h : ∀ k, k < 35 → Sml (T (35 * r + k))) : ∀ k, k < 35 → Sml (cls2 T r tr eq (35 * r + k)) := fun k hk => by
  have h1 : ∀ k, k < 35 → Sml ((bif tr then ngT T r 35 else T) (35 * r + k)) := fun k hk => by
    cases tr with
    | true => show Sml (ngT T r 35 (35 * r + k)); unfold ngT; rw [if_pos (by omega)]; exact (h k hk).neg
    | false => exact h k hk
  unfold cls2
  cases eq with
  | true => exact h1 k hk
  | false =>
    show Sml (upQ _ (35 * r + (5 + r)) _ (35 * r + k))
    unfold upQ
    by_cases z : 35 * r + k = 35 * r + (5 + r)
    · rw [if_pos z]
      cases tr
      · exact smlp1
      · exact smlm1
    · rw [if_neg z]; exact h1 k hk
theorem cls2_g {T : Nat → Rat} {r : Nat} (hr : r < 29) (tr eq : Bool) {i : Nat} (hi : i < 35 * r ∨ 35 * r + 35 ≤ i) : cls2 T r tr eq i = T i := by
  have h1 : (bif tr then ngT T r 35 else T) i = T i := by
    cases tr with
    | true => show ngT T r 35 i = T i; unfold ngT; rw [if_neg (by omega)]
    | false => rfl
  unfold cls2
  cases eq with
  | true => exact h1
  | false =>
    show upQ _ (35 * r + (5 + r)) _ i = _
    unfold upQ
    rw [if_neg (by omega)]
    exact h1

theorem cls_b00 {g0 : GG} {bl : Nat} {xs : Nat → Int32} {l : Launch} {wp : va_W} {p : Program} {e : Env} {R : Room} {s : State} {m : MethodId} {args : Array Value} {below : List Frame} {meth : Method} {c : Code} {Q : State → Prop} {kc0 ks0 kc ks f lam KC KS : Nat} {hs : List CE} {T : Nat → Rat} {bz : Nat → Int} {ri : Int32} {r : Nat} (hri : ri.toInt = (r : Int)) (hr : r < 29) (hS1 : ∀ k, k < 35 → Sml ((cls2 T r false false) (35 * 30 + k))) (hS2 : ∀ k, k < 35 → Sml ((cls2 T r false false) (35 * r + k))) (hneg : (false = true) ↔ T (35 * r + 34) < 0) (hf : 4 ≤ R.frames) (hl : 112 ≤ R.locals) (hc : kc ≤ R.cells + kc0) (hsl : ks ≤ R.slots + ks0) {si : Int32} (act : Act SSX TBL (gp g0 wp) CLS bl xs D_189 p l s m args meth c) (hEnd : EndN SSX TBL (gp g0 wp) CLS D_189 p l e R s m args below meth c Q kc0 ks0 f lam KC KS (fun kd _ h2 => kd = 0 ∧ ∃ tr : Bool, (tr = true ↔ T (35 * r + 34) < 0) ∧ QArr h2 139 140 1295 (clsT T r tr false) ∧ IArr h2 141 30 (upI bz r (bif tr || false then 100 + (r : Int) else 5 + (r : Int))) ∧ rd h2 124 28 = .int (ri + (1 : Int32)) ∧ FrS WC hs h2)) (hk1 : kc ≤ KC) (hk2 : ks ≤ KS) : ∀ k : Nat, k = 0 → ∀ (ki : Int32) (hj : List CE), ki.toInt = (k : Int) → RW hj → QArr hj 139 140 1295 (cls2 T r false false) → IArr hj 141 30 (upI bz r (bif false || false then 100 + (r : Int) else 5 + (r : Int))) → rd hj 124 28 = .int ri → FrS WC hs hj → WpN (gp g0 wp) CLS p l e R s m args below meth c Q D_189.2.2.1 kc0 ks0 145 [some (.ref 124), some (.int (0 : Int32)), some (.int si), some (.int (0 : Int32)), some (.int ki)] (hj, kc, ks) [] := by
  intro k hk ki hj hki rwj hT hB h28 hfr
  refine g_loadI act (gx gp_189 (w := 0x4009302) rfl (by decide) rfl) (a := 4) (n := 147) rfl rfl rfl ?_
  refine g_constI act (gx gp_189 (w := 0x40000011c00000119000000009501) rfl (by decide) rfl) (n := 149) (x := (35 : Int32)) (by decide) rfl ?_
  refine g_icmpGe act (gx gp_189 (w := 0xd3009808) rfl (by decide) rfl) (tgt := 211) (n := 152) rfl rfl (fun h3 => ?_) (fun h3 => ?_)
  · simp only [i_le, show (35 : Int32).toInt = 35 from by decide] at h3
    exfalso; omega
  · simp only [i_le, show (35 : Int32).toInt = 35 from by decide] at h3
    refine g_loadA act (gx gp_189 (w := 0x9903) rfl (by decide) rfl) (a := 0) (n := 153) rfl rfl rfl ?_
    refine r_getf act (gx gp_189 (w := 0x30006c9009c04) rfl (by decide) rfl) (n := 156) (ci := 9) (j := 27) (N := 39) rfl rfl rfl rwj.1 (by decide) (rwj.2 (27, 141, 32, 30) (by decide)).1 ?_
    refine g_loadA act (gx gp_189 (w := 0x9d03) rfl (by decide) rfl) (a := 0) (n := 157) rfl rfl rfl ?_
    refine r_getf act (gx gp_189 (w := 0x70900a004) rfl (by decide) rfl) (n := 160) (ci := 9) (j := 28) (N := 39) rfl rfl rfl rwj.1 (by decide) (v := .int ri) h28 ?_
    obtain ⟨x_1, e_2, hx_3⟩ := hB r (by omega)
    refine r_iald act (gx gp_189 (w := 0xa11a) rfl (by decide) rfl) (n := 161) (j := r) rfl (rwj.2 (27, 141, 32, 30) (by decide)).2 hri (show r < 30 by omega) (v := .int x_1) e_2 ?_
    have ub_4 := upI_s bz r (bif false || false then 100 + (r : Int) else 5 + (r : Int))
    simp only [Bool.or_true, Bool.or_false, Bool.true_or, Bool.false_or, cond_true, cond_false] at *
    refine g_constI act (gx gp_189 (w := 0x4000003240000032100000000a301) rfl (by decide) rfl) (n := 163) (x := (100 : Int32)) (by decide) rfl ?_
    refine g_icmpLt act (gx gp_189 (w := 0xd300a620) rfl (by decide) rfl) (tgt := 211) (n := 166) rfl rfl (fun h7 => ?_) (fun h7 => ?_)
    · simp only [i_lt, show (100 : Int32).toInt = 100 from by decide] at h7
      refine g_loadA act (gx gp_189 (w := 0xd403) rfl (by decide) rfl) (a := 0) (n := 212) rfl rfl rfl ?_
      refine g_dup act (gx gp_189 (w := 0xd522) rfl (by decide) rfl) (n := 213) rfl rfl ?_
      refine r_getf act (gx gp_189 (w := 0x70900d804) rfl (by decide) rfl) (n := 216) (ci := 9) (j := 28) (N := 39) rfl rfl rfl rwj.1 (by decide) (v := .int ri) h28 ?_
      refine g_constI act (gx gp_189 (w := 0x40000000c0000000900000000d901) rfl (by decide) rfl) (n := 217) (x := (1 : Int32)) (by decide) rfl ?_
      refine g_iadd act (gx gp_189 (w := 0xda0a) rfl (by decide) rfl) (n := 218) rfl ?_
      have v_5 := iv_addN hri (show (1 : Int32).toInt = ((1 : Nat) : Int) from by decide) (show (r + 1) < 2147483648 by omega)
      refine r_putf act (gx gp_189 (w := 0x70900dd13) rfl (by decide) rfl) (n := 221) (ci := 9) (j := 28) (N := 39) rfl rfl rfl rwj.1 (by decide) (Or.inl ⟨rfl, _, rfl⟩) ?_
      have rw_6 := RW.wr (k := 124) (j := 28) (v := .int (ri + (1 : Int32))) rwj (Or.inr (by decide))
      have f_7 := hT.ne (k := 124) (j := 28) (v := .int (ri + (1 : Int32))) (by decide) (by decide)
      have f_8 := hB.ne (k := 124) (j := 28) (v := .int (ri + (1 : Int32))) (by decide)
      have f_10 := rd_same (j := 28) (v := .int (ri + (1 : Int32))) rwj.1
      have fr_11 := hfr.wr (k := 124) (j := 28) (.int (ri + (1 : Int32))) (by unfold WC; omega)
      clear rwj hfr hT hB h28
      generalize (wr hj 124 28 (.int (ri + (1 : Int32)))) = hs_12 at *
      exact g_retV hEnd (gx gp_189 (w := 0x18) rfl (by decide) rfl) ⟨rfl, false, hneg, f_7, f_8, f_10, fr_11⟩ hk1 hk2
    · simp only [i_lt, show (100 : Int32).toInt = 100 from by decide] at h7
      exfalso; omega

theorem cls_m00 {g0 : GG} {bl : Nat} {xs : Nat → Int32} {l : Launch} {wp : va_W} {p : Program} {e : Env} {R : Room} {s : State} {m : MethodId} {args : Array Value} {below : List Frame} {meth : Method} {c : Code} {Q : State → Prop} {kc0 ks0 kc ks f lam KC KS : Nat} {hs : List CE} {T : Nat → Rat} {bz : Nat → Int} {ri : Int32} {r : Nat} (hri : ri.toInt = (r : Int)) (hr : r < 29) (hS1 : ∀ k, k < 35 → Sml ((cls2 T r false false) (35 * 30 + k))) (hS2 : ∀ k, k < 35 → Sml ((cls2 T r false false) (35 * r + k))) (hneg : (false = true) ↔ T (35 * r + 34) < 0) (hf : 4 ≤ R.frames) (hl : 112 ≤ R.locals) (hc : kc ≤ R.cells + kc0) (hsl : ks ≤ R.slots + ks0) {si : Int32} (act : Act SSX TBL (gp g0 wp) CLS bl xs D_189 p l s m args meth c) (hEnd : EndN SSX TBL (gp g0 wp) CLS D_189 p l e R s m args below meth c Q kc0 ks0 f lam KC KS (fun kd _ h2 => kd = 0 ∧ ∃ tr : Bool, (tr = true ↔ T (35 * r + 34) < 0) ∧ QArr h2 139 140 1295 (clsT T r tr false) ∧ IArr h2 141 30 (upI bz r (bif tr || false then 100 + (r : Int) else 5 + (r : Int))) ∧ rd h2 124 28 = .int (ri + (1 : Int32)) ∧ FrS WC hs h2)) (hk1 : kc ≤ KC) (hk2 : ks ≤ KS) (hj : List CE) (rwj : RW hj) (hT : QArr hj 139 140 1295 T) (hB : IArr hj 141 30 bz) (h28 : rd hj 124 28 = .int ri) (hfr : FrS WC hs hj) : WpN (gp g0 wp) CLS p l e R s m args below meth c Q D_189.2.2.1 kc0 ks0 79 [some (.ref 124), some (.int (0 : Int32)), some (.int si), some (.int (0 : Int32)), none] (hj, kc, ks) [] := by
  refine g_loadI act (gx gp_189 (w := 0x1005002) rfl (by decide) rfl) (a := 1) (n := 80) rfl rfl rfl ?_
  refine g_ifNe act (gx gp_189 (w := 0x6d00531d) rfl (by decide) rfl) (tgt := 109) (n := 83) rfl rfl (fun q => absurd q (by decide)) (fun _ => ?_)
  refine g_loadA act (gx gp_189 (w := 0x5403) rfl (by decide) rfl) (a := 0) (n := 84) rfl rfl rfl ?_
  refine g_loadA act (gx gp_189 (w := 0x5503) rfl (by decide) rfl) (a := 0) (n := 85) rfl rfl rfl ?_
  refine r_getf act (gx gp_189 (w := 0x709005804) rfl (by decide) rfl) (n := 88) (ci := 9) (j := 28) (N := 39) rfl rfl rfl rwj.1 (by decide) (v := .int ri) h28 ?_
  refine g_constI act (gx gp_189 (w := 0x40000002c00000029000000005901) rfl (by decide) rfl) (n := 89) (x := (5 : Int32)) (by decide) rfl ?_
  refine g_loadA act (gx gp_189 (w := 0x5a03) rfl (by decide) rfl) (a := 0) (n := 90) rfl rfl rfl ?_
  refine r_getf act (gx gp_189 (w := 0x709005d04) rfl (by decide) rfl) (n := 93) (ci := 9) (j := 28) (N := 39) rfl rfl rfl rwj.1 (by decide) (v := .int ri) h28 ?_
  refine g_iadd act (gx gp_189 (w := 0x5e0a) rfl (by decide) rfl) (n := 94) rfl ?_
  have v_1 := iv_addN (show (5 : Int32).toInt = ((5 : Nat) : Int) from by decide) hri (show (5 + r) < 2147483648 by omega)
  refine g_loadI act (gx gp_189 (w := 0x3005f02) rfl (by decide) rfl) (a := 3) (n := 95) rfl rfl rfl ?_
  refine g_ifEq act (gx gp_189 (w := 0x6800620e) rfl (by decide) rfl) (tgt := 104) (n := 98) rfl rfl (fun _ => ?_) (fun q => absurd (by decide) q)
  refine g_constL act (gx gp_189 (w := 0x4000000000000000a000000006901) rfl (by decide) rfl) (n := 105) (x := 1) (by decide) rfl ?_
  refine g_constL act (gx gp_189 (w := 0x4000000000000000a000000006a01) rfl (by decide) rfl) (n := 106) (x := 1) (by decide) rfl ?_
  refine n_call tb_pres act hEnd (gx (P := G_call) gp_189 (w := 0xa00000000000081c75000100006d0f) rfl (by decide) rfl) (d' := D_256) rfl (as := [.ref 124, .int ri, .int ((5 : Int32) + ri), .long (1 : Int64), .long (1 : Int64)]) (rest := []) (b_putsQ (R9 := r) (C9 := (5 + r)) rwj hT hri v_1 (by omega) frp1) (show (5 : Nat) = fb 0xa00000000000081c75000100006d0f % 16 by decide) (by show (7 : Nat) ≤ 7; decide) (fun _ => ⟨_, _, rfl, _, shp_at rwj.1, Or.inr (show fb 0xa00000000000081c75000100006d0f >>> 68 = 10 by decide)⟩) (by omega) (by show 8 + (7 + 11) + 0 ≤ R.locals; omega) (by show (0 : Nat) ≤ 8; decide) (by show kc + 0 ≤ _; omega) (by show ks + 0 ≤ _; omega) (fun r9 hs_3 hpo hr9 => ?_) (fun x9 hs9 hx9 hpo => ?_)
  · obtain rfl : r9 = none := hr9.elim (fun q => q.2) (fun q => absurd rfl q.1)
    obtain ⟨-, hT_2, fr_4⟩ := hpo
    have rw_5 := rwj.fr fr_4 W1_rw
    have f_6 := hB.fr (fun j9 _ => fr_4.2.2 141 j9 (by unfold W1; omega))
    have f_7 := rd_fr fr_4 h28 (by unfold W1; omega)
    have fr_8 := hfr.tr (fr_4.mono (fun k9 j9 h9 => by unfold W1 at h9; unfold WC; omega))
    clear rwj hT hB h28 hfr
    show WpN (gp g0 wp) CLS p l e R s m args below meth c Q D_189.2.2.1 kc0 ks0 109 [some (.ref 124), some (.int (0 : Int32)), some (.int si), some (.int (0 : Int32)), none] (hs_3, kc, ks) []
    refine g_loadA act (gx gp_189 (w := 0x6e03) rfl (by decide) rfl) (a := 0) (n := 110) rfl rfl rfl ?_
    refine r_getf act (gx gp_189 (w := 0x30006c9007104) rfl (by decide) rfl) (n := 113) (ci := 9) (j := 27) (N := 39) rfl rfl rfl rw_5.1 (by decide) (rw_5.2 (27, 141, 32, 30) (by decide)).1 ?_
    refine g_loadA act (gx gp_189 (w := 0x7203) rfl (by decide) rfl) (a := 0) (n := 114) rfl rfl rfl ?_
    refine r_getf act (gx gp_189 (w := 0x709007504) rfl (by decide) rfl) (n := 117) (ci := 9) (j := 28) (N := 39) rfl rfl rfl rw_5.1 (by decide) (v := .int ri) f_7 ?_
    refine g_loadI act (gx gp_189 (w := 0x3007602) rfl (by decide) rfl) (a := 3) (n := 118) rfl rfl rfl ?_
    refine g_ifNe act (gx gp_189 (w := 0x7d00791d) rfl (by decide) rfl) (tgt := 125) (n := 121) rfl rfl (fun q => absurd q (by decide)) (fun _ => ?_)
    refine g_loadI act (gx gp_189 (w := 0x1007a02) rfl (by decide) rfl) (a := 1) (n := 122) rfl rfl rfl ?_
    refine g_ifEq act (gx gp_189 (w := 0x87007d0e) rfl (by decide) rfl) (tgt := 135) (n := 125) rfl rfl (fun _ => ?_) (fun q => absurd (by decide) q)
    refine g_constI act (gx gp_189 (w := 0x40000002c00000029000000008801) rfl (by decide) rfl) (n := 136) (x := (5 : Int32)) (by decide) rfl ?_
    refine g_loadA act (gx gp_189 (w := 0x8903) rfl (by decide) rfl) (a := 0) (n := 137) rfl rfl rfl ?_
    refine r_getf act (gx gp_189 (w := 0x709008c04) rfl (by decide) rfl) (n := 140) (ci := 9) (j := 28) (N := 39) rfl rfl rfl rw_5.1 (by decide) (v := .int ri) f_7 ?_
    refine g_iadd act (gx gp_189 (w := 0x8d0a) rfl (by decide) rfl) (n := 141) rfl ?_
    have v_9 := iv_addN (show (5 : Int32).toInt = ((5 : Nat) : Int) from by decide) hri (show (5 + r) < 2147483648 by omega)
    refine r_iast act (gx gp_189 (w := 0x8e24) rfl (by decide) rfl) (n := 142) (j := r) rfl (rw_5.2 (27, 141, 32, 30) (by decide)).2 hri (show r < 30 by omega) ?_
    have rw_10 := RW.wr (k := 141) (j := r) (v := .int ((5 : Int32) + ri)) rw_5 (Or.inl (by decide))
    have f_11 := f_6.put (j := r) (rw_5.2 (27, 141, 32, 30) (by decide)).2 v_9
    have f_12 := (rd_ne hs_3 (k := 141) (j := r) (.int ((5 : Int32) + ri)) (Or.inl (by decide))).trans f_7
    have f_13 := hT_2.ne (k := 141) (j := r) (v := .int ((5 : Int32) + ri)) (by decide) (by decide)
    have fr_14 := fr_8.wr (k := 141) (j := r) (.int ((5 : Int32) + ri)) (by unfold WC; omega)
    clear rw_5 fr_8 f_6 f_7 hT_2
    generalize (wr hs_3 141 r (.int ((5 : Int32) + ri))) = hs_15 at *
    refine g_constI act (gx gp_189 (w := 0x40000000400000001000000008f01) rfl (by decide) rfl) (n := 143) (x := (0 : Int32)) (by decide) rfl ?_
    refine g_storeI act (gx gp_189 (w := 0x4009110) rfl (by decide) rfl) (a := 4) (n := 145) rfl rfl (L2 := [some (.ref 124), some (.int (0 : Int32)), some (.int si), some (.int (0 : Int32)), some (.int (0 : Int32))]) rfl ?_
    exact cls_b00 hri hr hS1 hS2 hneg hf hl hc hsl act hEnd hk1 hk2 0 rfl _ _ rfl rw_10 f_13 f_11 f_12 fr_14
  · exact absurd hpo.1 (by omega)

theorem cls_b01 {g0 : GG} {bl : Nat} {xs : Nat → Int32} {l : Launch} {wp : va_W} {p : Program} {e : Env} {R : Room} {s : State} {m : MethodId} {args : Array Value} {below : List Frame} {meth : Method} {c : Code} {Q : State → Prop} {kc0 ks0 kc ks f lam KC KS : Nat} {hs : List CE} {T : Nat → Rat} {bz : Nat → Int} {ri : Int32} {r : Nat} (hri : ri.toInt = (r : Int)) (hr : r < 29) (hS1 : ∀ k, k < 35 → Sml ((cls2 T r true false) (35 * 30 + k))) (hS2 : ∀ k, k < 35 → Sml ((cls2 T r true false) (35 * r + k))) (hneg : (true = true) ↔ T (35 * r + 34) < 0) (hf : 4 ≤ R.frames) (hl : 112 ≤ R.locals) (hc : kc ≤ R.cells + kc0) (hsl : ks ≤ R.slots + ks0) {si : Int32} (act : Act SSX TBL (gp g0 wp) CLS bl xs D_189 p l s m args meth c) (hEnd : EndN SSX TBL (gp g0 wp) CLS D_189 p l e R s m args below meth c Q kc0 ks0 f lam KC KS (fun kd _ h2 => kd = 0 ∧ ∃ tr : Bool, (tr = true ↔ T (35 * r + 34) < 0) ∧ QArr h2 139 140 1295 (clsT T r tr false) ∧ IArr h2 141 30 (upI bz r (bif tr || false then 100 + (r : Int) else 5 + (r : Int))) ∧ rd h2 124 28 = .int (ri + (1 : Int32)) ∧ FrS WC hs h2)) (hk1 : kc ≤ KC) (hk2 : ks ≤ KS) : ∀ k : Nat, k ≤ 35 → ∀ (ki : Int32) (hj : List CE), ki.toInt = (k : Int) → RW hj → QArr hj 139 140 1295 (adT (cls2 T r true false) r k) → IArr hj 141 30 (upI bz r (bif true || false then 100 + (r : Int) else 5 + (r : Int))) → rd hj 124 28 = .int ri → FrS WC hs hj → WpN (gp g0 wp) CLS p l e R s m args below meth c Q D_189.2.2.1 kc0 ks0 145 [some (.ref 124), some (.int (0 : Int32)), some (.int si), some (.int (1 : Int32)), some (.int ki)] (hj, kc, ks) [] := by
  refine dn (fun k hk ih => ?_)
  intro ki hj hki rwj hT hB h28 hfr
  refine g_loadI act (gx gp_189 (w := 0x4009302) rfl (by decide) rfl) (a := 4) (n := 147) rfl rfl rfl ?_
  refine g_constI act (gx gp_189 (w := 0x40000011c00000119000000009501) rfl (by decide) rfl) (n := 149) (x := (35 : Int32)) (by decide) rfl ?_
  refine g_icmpGe act (gx gp_189 (w := 0xd3009808) rfl (by decide) rfl) (tgt := 211) (n := 152) rfl rfl (fun h3 => ?_) (fun h3 => ?_)
  · simp only [i_le, show (35 : Int32).toInt = 35 from by decide] at h3
    refine g_loadA act (gx gp_189 (w := 0xd403) rfl (by decide) rfl) (a := 0) (n := 212) rfl rfl rfl ?_
    refine g_dup act (gx gp_189 (w := 0xd522) rfl (by decide) rfl) (n := 213) rfl rfl ?_
    refine r_getf act (gx gp_189 (w := 0x70900d804) rfl (by decide) rfl) (n := 216) (ci := 9) (j := 28) (N := 39) rfl rfl rfl rwj.1 (by decide) (v := .int ri) h28 ?_
    refine g_constI act (gx gp_189 (w := 0x40000000c0000000900000000d901) rfl (by decide) rfl) (n := 217) (x := (1 : Int32)) (by decide) rfl ?_
    refine g_iadd act (gx gp_189 (w := 0xda0a) rfl (by decide) rfl) (n := 218) rfl ?_
    have v_1 := iv_addN hri (show (1 : Int32).toInt = ((1 : Nat) : Int) from by decide) (show (r + 1) < 2147483648 by omega)
    refine r_putf act (gx gp_189 (w := 0x70900dd13) rfl (by decide) rfl) (n := 221) (ci := 9) (j := 28) (N := 39) rfl rfl rfl rwj.1 (by decide) (Or.inl ⟨rfl, _, rfl⟩) ?_
    have rw_2 := RW.wr (k := 124) (j := 28) (v := .int (ri + (1 : Int32))) rwj (Or.inr (by decide))
    have f_3 := hT.ne (k := 124) (j := 28) (v := .int (ri + (1 : Int32))) (by decide) (by decide)
    have f_4 := hB.ne (k := 124) (j := 28) (v := .int (ri + (1 : Int32))) (by decide)
    have f_6 := rd_same (j := 28) (v := .int (ri + (1 : Int32))) rwj.1
    have fr_7 := hfr.wr (k := 124) (j := 28) (.int (ri + (1 : Int32))) (by unfold WC; omega)
    clear rwj hfr hT hB h28
    generalize (wr hj 124 28 (.int (ri + (1 : Int32)))) = hs_8 at *
    exact g_retV hEnd (gx gp_189 (w := 0x18) rfl (by decide) rfl) ⟨rfl, true, hneg, f_3.cong (fun j _ => by rw [show k = 35 by omega]; rfl), f_4, f_6, fr_7⟩ hk1 hk2
  · simp only [i_le, show (35 : Int32).toInt = 35 from by decide] at h3
    refine g_loadA act (gx gp_189 (w := 0x9903) rfl (by decide) rfl) (a := 0) (n := 153) rfl rfl rfl ?_
    refine r_getf act (gx gp_189 (w := 0x30006c9009c04) rfl (by decide) rfl) (n := 156) (ci := 9) (j := 27) (N := 39) rfl rfl rfl rwj.1 (by decide) (rwj.2 (27, 141, 32, 30) (by decide)).1 ?_
    refine g_loadA act (gx gp_189 (w := 0x9d03) rfl (by decide) rfl) (a := 0) (n := 157) rfl rfl rfl ?_
    refine r_getf act (gx gp_189 (w := 0x70900a004) rfl (by decide) rfl) (n := 160) (ci := 9) (j := 28) (N := 39) rfl rfl rfl rwj.1 (by decide) (v := .int ri) h28 ?_
    obtain ⟨x_9, e_10, hx_11⟩ := hB r (by omega)
    refine r_iald act (gx gp_189 (w := 0xa11a) rfl (by decide) rfl) (n := 161) (j := r) rfl (rwj.2 (27, 141, 32, 30) (by decide)).2 hri (show r < 30 by omega) (v := .int x_9) e_10 ?_
    have ub_12 := upI_s bz r (bif true || false then 100 + (r : Int) else 5 + (r : Int))
    simp only [Bool.or_true, Bool.or_false, Bool.true_or, Bool.false_or, cond_true, cond_false] at *
    refine g_constI act (gx gp_189 (w := 0x4000003240000032100000000a301) rfl (by decide) rfl) (n := 163) (x := (100 : Int32)) (by decide) rfl ?_
    refine g_icmpLt act (gx gp_189 (w := 0xd300a620) rfl (by decide) rfl) (tgt := 211) (n := 166) rfl rfl (fun h10 => ?_) (fun h10 => ?_)
    · simp only [i_lt, show (100 : Int32).toInt = 100 from by decide] at h10
      exfalso; omega
    · simp only [i_lt, show (100 : Int32).toInt = 100 from by decide] at h10
      refine g_loadA act (gx gp_189 (w := 0xa703) rfl (by decide) rfl) (a := 0) (n := 167) rfl rfl rfl ?_
      refine g_constI act (gx gp_189 (w := 0x4000000f4000000f100000000a901) rfl (by decide) rfl) (n := 169) (x := (30 : Int32)) (by decide) rfl ?_
      refine g_loadI act (gx gp_189 (w := 0x400ab02) rfl (by decide) rfl) (a := 4) (n := 171) rfl rfl rfl ?_
      refine g_loadA act (gx gp_189 (w := 0xac03) rfl (by decide) rfl) (a := 0) (n := 172) rfl rfl rfl ?_
      refine r_getf act (gx gp_189 (w := 0x300064900af04) rfl (by decide) rfl) (n := 175) (ci := 9) (j := 25) (N := 39) rfl rfl rfl rwj.1 (by decide) (rwj.2 (25, 139, 33, 1295) (by decide)).1 ?_
      refine g_constI act (gx gp_189 (w := 0x40000011c0000011900000000b101) rfl (by decide) rfl) (n := 177) (x := (35 : Int32)) (by decide) rfl ?_
      refine g_loadA act (gx gp_189 (w := 0xb203) rfl (by decide) rfl) (a := 0) (n := 178) rfl rfl rfl ?_
      refine r_getf act (gx gp_189 (w := 0x70900b504) rfl (by decide) rfl) (n := 181) (ci := 9) (j := 28) (N := 39) rfl rfl rfl rwj.1 (by decide) (v := .int ri) h28 ?_
      refine g_imul act (gx gp_189 (w := 0xb611) rfl (by decide) rfl) (n := 182) rfl ?_
      have v_13 := iv_mulN (show (35 : Int32).toInt = ((35 : Nat) : Int) from by decide) hri (show (35 * r) < 2147483648 by omega)
      refine g_loadI act (gx gp_189 (w := 0x400b802) rfl (by decide) rfl) (a := 4) (n := 184) rfl rfl rfl ?_
      refine g_iadd act (gx gp_189 (w := 0xb90a) rfl (by decide) rfl) (n := 185) rfl ?_
      have v_14 := iv_addN v_13 hki (show ((35 * r) + k) < 2147483648 by omega)
      obtain ⟨x_15, w_18, e_16, e_19, hx_17⟩ := hT ((35 * r) + k) (by omega)
      rw [show adT (cls2 T r true false) r k ((35 * r) + k) = (cls2 T r true false) (35 * r + k) from if_neg (by omega)] at hx_17
      refine r_lald act (gx gp_189 (w := 0xba0d) rfl (by decide) rfl) (n := 186) (j := ((35 * r) + k)) rfl (rwj.2 (25, 139, 33, 1295) (by decide)).2 v_14 (show ((35 * r) + k) < 1295 by omega) (v := .long x_15) e_16 ?_
      refine g_lneg act (gx gp_189 (w := 0xbb25) rfl (by decide) rfl) (n := 187) rfl ?_
      refine g_loadA act (gx gp_189 (w := 0xbc03) rfl (by decide) rfl) (a := 0) (n := 188) rfl rfl rfl ?_
      refine r_getf act (gx gp_189 (w := 0x300068900bf04) rfl (by decide) rfl) (n := 191) (ci := 9) (j := 26) (N := 39) rfl rfl rfl rwj.1 (by decide) (rwj.2 (26, 140, 33, 1295) (by decide)).1 ?_
      refine g_constI act (gx gp_189 (w := 0x40000011c0000011900000000c101) rfl (by decide) rfl) (n := 193) (x := (35 : Int32)) (by decide) rfl ?_
      refine g_loadA act (gx gp_189 (w := 0xc203) rfl (by decide) rfl) (a := 0) (n := 194) rfl rfl rfl ?_
      refine r_getf act (gx gp_189 (w := 0x70900c504) rfl (by decide) rfl) (n := 197) (ci := 9) (j := 28) (N := 39) rfl rfl rfl rwj.1 (by decide) (v := .int ri) h28 ?_
      refine g_imul act (gx gp_189 (w := 0xc611) rfl (by decide) rfl) (n := 198) rfl ?_
      have v_20 := iv_mulN (show (35 : Int32).toInt = ((35 : Nat) : Int) from by decide) hri (show (35 * r) < 2147483648 by omega)
      refine g_loadI act (gx gp_189 (w := 0x400c802) rfl (by decide) rfl) (a := 4) (n := 200) rfl rfl rfl ?_
      refine g_iadd act (gx gp_189 (w := 0xc90a) rfl (by decide) rfl) (n := 201) rfl ?_
      have v_21 := iv_addN v_20 hki (show ((35 * r) + k) < 2147483648 by omega)
      refine r_lald act (gx gp_189 (w := 0xca0d) rfl (by decide) rfl) (n := 202) (j := ((35 * r) + k)) rfl (rwj.2 (26, 140, 33, 1295) (by decide)).2 v_21 (show ((35 * r) + k) < 1295 by omega) (v := .long w_18) e_19 ?_
      refine n_call tb_pres act hEnd (gx (P := G_call) gp_189 (w := 0xa000000000000820750000b100cd0f) rfl (by decide) rfl) (d' := D_177) rfl (as := [.ref 124, .int (30 : Int32), .int ki, .long (-x_15), .long w_18]) (rest := []) (b_addsToQ (R9 := 30) (C9 := k) rwj hT (show (30 : Int32).toInt = ((30 : Nat) : Int) from by decide) hki (by omega) (FR.ngS hx_17 (hS2 _ (by omega))) (by rw [show adT (cls2 T r true false) r k (35 * 30 + k) = (cls2 T r true false) (35 * 30 + k) from if_neg (by omega)]; exact hS1 _ (by omega)) (Sml.neg (hS2 _ (by omega)))) (show (5 : Nat) = fb 0xa000000000000820750000b100cd0f % 16 by decide) (by show (7 : Nat) ≤ 8; decide) (fun _ => ⟨_, _, rfl, _, shp_at rwj.1, Or.inr (show fb 0xa000000000000820750000b100cd0f >>> 68 = 10 by decide)⟩) (by omega) (by show 8 + (8 + 11) + 85 ≤ R.locals; omega) (by show (0 : Nat) ≤ 8; decide) (by show kc + 0 ≤ _; omega) (by show ks + 0 ≤ _; omega) (fun r9 hs_28 hpo hr9 => ?_) (fun x9 hs9 hx9 hpo => ?_)
      · obtain rfl : r9 = none := hr9.elim (fun q => q.2) (fun q => absurd rfl q.1)
        obtain ⟨-, hT_27, fr_29⟩ := hpo
        have rw_30 := rwj.fr fr_29 W1_rw
        have f_31 := hB.fr (fun j9 _ => fr_29.2.2 141 j9 (by unfold W1; omega))
        have f_32 := rd_fr fr_29 h28 (by unfold W1; omega)
        have fr_33 := hfr.tr (fr_29.mono (fun k9 j9 h9 => by unfold W1 at h9; unfold WC; omega))
        clear rwj hT hB h28 hfr
        show WpN (gp g0 wp) CLS p l e R s m args below meth c Q D_189.2.2.1 kc0 ks0 205 [some (.ref 124), some (.int (0 : Int32)), some (.int si), some (.int (1 : Int32)), some (.int ki)] (hs_28, kc, ks) []
        refine g_iinc act (gx gp_189 (w := 0x8000000100000400d009) rfl (by decide) rfl) (a := 4) (i := (1 : Int32)) (n := 208) rfl (by decide) rfl rfl (L2 := [some (.ref 124), some (.int (0 : Int32)), some (.int si), some (.int (1 : Int32)), some (.int (ki + (1 : Int32)))]) rfl ?_
        have v_34 := iv_addN hki (show (1 : Int32).toInt = ((1 : Nat) : Int) from by decide) (show (k + 1) < 2147483648 by omega)
        refine g_goto act (gx gp_189 (w := 0x9107) rfl (by decide) rfl) (n := 145) rfl ?_
        exact ih (k + 1) (by omega) (by omega) _ _ v_34 rw_30 (hT_27.cong (fun j _ => (by rw [show adT (cls2 T r true false) r k (35 * 30 + k) = (cls2 T r true false) (35 * 30 + k) from if_neg (by omega)]; exact ad_step j))) f_31 f_32 fr_33
      · exact absurd hpo.1 (by omega)

theorem cls_m01 {g0 : GG} {bl : Nat} {xs : Nat → Int32} {l : Launch} {wp : va_W} {p : Program} {e : Env} {R : Room} {s : State} {m : MethodId} {args : Array Value} {below : List Frame} {meth : Method} {c : Code} {Q : State → Prop} {kc0 ks0 kc ks f lam KC KS : Nat} {hs : List CE} {T : Nat → Rat} {bz : Nat → Int} {ri : Int32} {r : Nat} (hri : ri.toInt = (r : Int)) (hr : r < 29) (hS1 : ∀ k, k < 35 → Sml ((cls2 T r true false) (35 * 30 + k))) (hS2 : ∀ k, k < 35 → Sml ((cls2 T r true false) (35 * r + k))) (hneg : (true = true) ↔ T (35 * r + 34) < 0) (hf : 4 ≤ R.frames) (hl : 112 ≤ R.locals) (hc : kc ≤ R.cells + kc0) (hsl : ks ≤ R.slots + ks0) {si : Int32} (act : Act SSX TBL (gp g0 wp) CLS bl xs D_189 p l s m args meth c) (hEnd : EndN SSX TBL (gp g0 wp) CLS D_189 p l e R s m args below meth c Q kc0 ks0 f lam KC KS (fun kd _ h2 => kd = 0 ∧ ∃ tr : Bool, (tr = true ↔ T (35 * r + 34) < 0) ∧ QArr h2 139 140 1295 (clsT T r tr false) ∧ IArr h2 141 30 (upI bz r (bif tr || false then 100 + (r : Int) else 5 + (r : Int))) ∧ rd h2 124 28 = .int (ri + (1 : Int32)) ∧ FrS WC hs h2)) (hk1 : kc ≤ KC) (hk2 : ks ≤ KS) (hj : List CE) (rwj : RW hj) (hT : QArr hj 139 140 1295 (ngT T r 35)) (hB : IArr hj 141 30 bz) (h28 : rd hj 124 28 = .int ri) (hfr : FrS WC hs hj) : WpN (gp g0 wp) CLS p l e R s m args below meth c Q D_189.2.2.1 kc0 ks0 79 [some (.ref 124), some (.int (0 : Int32)), some (.int si), some (.int (1 : Int32)), none] (hj, kc, ks) [] := by
  refine g_loadI act (gx gp_189 (w := 0x1005002) rfl (by decide) rfl) (a := 1) (n := 80) rfl rfl rfl ?_
  refine g_ifNe act (gx gp_189 (w := 0x6d00531d) rfl (by decide) rfl) (tgt := 109) (n := 83) rfl rfl (fun q => absurd q (by decide)) (fun _ => ?_)
  refine g_loadA act (gx gp_189 (w := 0x5403) rfl (by decide) rfl) (a := 0) (n := 84) rfl rfl rfl ?_
  refine g_loadA act (gx gp_189 (w := 0x5503) rfl (by decide) rfl) (a := 0) (n := 85) rfl rfl rfl ?_
  refine r_getf act (gx gp_189 (w := 0x709005804) rfl (by decide) rfl) (n := 88) (ci := 9) (j := 28) (N := 39) rfl rfl rfl rwj.1 (by decide) (v := .int ri) h28 ?_
  refine g_constI act (gx gp_189 (w := 0x40000002c00000029000000005901) rfl (by decide) rfl) (n := 89) (x := (5 : Int32)) (by decide) rfl ?_
  refine g_loadA act (gx gp_189 (w := 0x5a03) rfl (by decide) rfl) (a := 0) (n := 90) rfl rfl rfl ?_
  refine r_getf act (gx gp_189 (w := 0x709005d04) rfl (by decide) rfl) (n := 93) (ci := 9) (j := 28) (N := 39) rfl rfl rfl rwj.1 (by decide) (v := .int ri) h28 ?_
  refine g_iadd act (gx gp_189 (w := 0x5e0a) rfl (by decide) rfl) (n := 94) rfl ?_
  have v_1 := iv_addN (show (5 : Int32).toInt = ((5 : Nat) : Int) from by decide) hri (show (5 + r) < 2147483648 by omega)
  refine g_loadI act (gx gp_189 (w := 0x3005f02) rfl (by decide) rfl) (a := 3) (n := 95) rfl rfl rfl ?_
  refine g_ifEq act (gx gp_189 (w := 0x6800620e) rfl (by decide) rfl) (tgt := 104) (n := 98) rfl rfl (fun q => absurd q (by decide)) (fun _ => ?_)
  refine g_constL act (gx gp_189 (w := 0x3fffffffffffffffa000000006501) rfl (by decide) rfl) (n := 101) (x := (-1 : Int64)) (by decide) rfl ?_
  refine g_goto act (gx gp_189 (w := 0x6907) rfl (by decide) rfl) (n := 105) rfl ?_
  refine g_constL act (gx gp_189 (w := 0x4000000000000000a000000006a01) rfl (by decide) rfl) (n := 106) (x := 1) (by decide) rfl ?_
  refine n_call tb_pres act hEnd (gx (P := G_call) gp_189 (w := 0xa00000000000081c75000100006d0f) rfl (by decide) rfl) (d' := D_256) rfl (as := [.ref 124, .int ri, .int ((5 : Int32) + ri), .long (-1 : Int64), .long (1 : Int64)]) (rest := []) (b_putsQ (R9 := r) (C9 := (5 + r)) rwj hT hri v_1 (by omega) frm1) (show (5 : Nat) = fb 0xa00000000000081c75000100006d0f % 16 by decide) (by show (7 : Nat) ≤ 7; decide) (fun _ => ⟨_, _, rfl, _, shp_at rwj.1, Or.inr (show fb 0xa00000000000081c75000100006d0f >>> 68 = 10 by decide)⟩) (by omega) (by show 8 + (7 + 11) + 0 ≤ R.locals; omega) (by show (0 : Nat) ≤ 8; decide) (by show kc + 0 ≤ _; omega) (by show ks + 0 ≤ _; omega) (fun r9 hs_3 hpo hr9 => ?_) (fun x9 hs9 hx9 hpo => ?_)
  · obtain rfl : r9 = none := hr9.elim (fun q => q.2) (fun q => absurd rfl q.1)
    obtain ⟨-, hT_2, fr_4⟩ := hpo
    have rw_5 := rwj.fr fr_4 W1_rw
    have f_6 := hB.fr (fun j9 _ => fr_4.2.2 141 j9 (by unfold W1; omega))
    have f_7 := rd_fr fr_4 h28 (by unfold W1; omega)
    have fr_8 := hfr.tr (fr_4.mono (fun k9 j9 h9 => by unfold W1 at h9; unfold WC; omega))
    clear rwj hT hB h28 hfr
    show WpN (gp g0 wp) CLS p l e R s m args below meth c Q D_189.2.2.1 kc0 ks0 109 [some (.ref 124), some (.int (0 : Int32)), some (.int si), some (.int (1 : Int32)), none] (hs_3, kc, ks) []
    refine g_loadA act (gx gp_189 (w := 0x6e03) rfl (by decide) rfl) (a := 0) (n := 110) rfl rfl rfl ?_
    refine r_getf act (gx gp_189 (w := 0x30006c9007104) rfl (by decide) rfl) (n := 113) (ci := 9) (j := 27) (N := 39) rfl rfl rfl rw_5.1 (by decide) (rw_5.2 (27, 141, 32, 30) (by decide)).1 ?_
    refine g_loadA act (gx gp_189 (w := 0x7203) rfl (by decide) rfl) (a := 0) (n := 114) rfl rfl rfl ?_
    refine r_getf act (gx gp_189 (w := 0x709007504) rfl (by decide) rfl) (n := 117) (ci := 9) (j := 28) (N := 39) rfl rfl rfl rw_5.1 (by decide) (v := .int ri) f_7 ?_
    refine g_loadI act (gx gp_189 (w := 0x3007602) rfl (by decide) rfl) (a := 3) (n := 118) rfl rfl rfl ?_
    refine g_ifNe act (gx gp_189 (w := 0x7d00791d) rfl (by decide) rfl) (tgt := 125) (n := 121) rfl rfl (fun _ => ?_) (fun q => absurd (by decide) q)
    refine g_constI act (gx gp_189 (w := 0x40000032400000321000000007f01) rfl (by decide) rfl) (n := 127) (x := (100 : Int32)) (by decide) rfl ?_
    refine g_loadA act (gx gp_189 (w := 0x8003) rfl (by decide) rfl) (a := 0) (n := 128) rfl rfl rfl ?_
    refine r_getf act (gx gp_189 (w := 0x709008304) rfl (by decide) rfl) (n := 131) (ci := 9) (j := 28) (N := 39) rfl rfl rfl rw_5.1 (by decide) (v := .int ri) f_7 ?_
    refine g_iadd act (gx gp_189 (w := 0x840a) rfl (by decide) rfl) (n := 132) rfl ?_
    have v_9 := iv_addN (show (100 : Int32).toInt = ((100 : Nat) : Int) from by decide) hri (show (100 + r) < 2147483648 by omega)
    refine g_goto act (gx gp_189 (w := 0x8d07) rfl (by decide) rfl) (n := 141) rfl ?_
    refine r_iast act (gx gp_189 (w := 0x8e24) rfl (by decide) rfl) (n := 142) (j := r) rfl (rw_5.2 (27, 141, 32, 30) (by decide)).2 hri (show r < 30 by omega) ?_
    have rw_10 := RW.wr (k := 141) (j := r) (v := .int ((100 : Int32) + ri)) rw_5 (Or.inl (by decide))
    have f_11 := f_6.put (j := r) (rw_5.2 (27, 141, 32, 30) (by decide)).2 v_9
    have f_12 := (rd_ne hs_3 (k := 141) (j := r) (.int ((100 : Int32) + ri)) (Or.inl (by decide))).trans f_7
    have f_13 := hT_2.ne (k := 141) (j := r) (v := .int ((100 : Int32) + ri)) (by decide) (by decide)
    have fr_14 := fr_8.wr (k := 141) (j := r) (.int ((100 : Int32) + ri)) (by unfold WC; omega)
    clear rw_5 fr_8 f_6 f_7 hT_2
    generalize (wr hs_3 141 r (.int ((100 : Int32) + ri))) = hs_15 at *
    refine g_constI act (gx gp_189 (w := 0x40000000400000001000000008f01) rfl (by decide) rfl) (n := 143) (x := (0 : Int32)) (by decide) rfl ?_
    refine g_storeI act (gx gp_189 (w := 0x4009110) rfl (by decide) rfl) (a := 4) (n := 145) rfl rfl (L2 := [some (.ref 124), some (.int (0 : Int32)), some (.int si), some (.int (1 : Int32)), some (.int (0 : Int32))]) rfl ?_
    exact cls_b01 hri hr hS1 hS2 hneg hf hl hc hsl act hEnd hk1 hk2 0 (by omega) _ _ rfl rw_10 (f_13.cong (fun j _ => by unfold adT; rw [if_neg (by omega)]; rfl)) f_11 f_12 fr_14
  · exact absurd hpo.1 (by omega)

theorem cls_n01 {g0 : GG} {bl : Nat} {xs : Nat → Int32} {l : Launch} {wp : va_W} {p : Program} {e : Env} {R : Room} {s : State} {m : MethodId} {args : Array Value} {below : List Frame} {meth : Method} {c : Code} {Q : State → Prop} {kc0 ks0 kc ks f lam KC KS : Nat} {hs : List CE} {T : Nat → Rat} {bz : Nat → Int} {ri : Int32} {r : Nat} (hri : ri.toInt = (r : Int)) (hr : r < 29) (hS1 : ∀ k, k < 35 → Sml ((cls2 T r true false) (35 * 30 + k))) (hS2 : ∀ k, k < 35 → Sml ((cls2 T r true false) (35 * r + k))) (hneg : (true = true) ↔ T (35 * r + 34) < 0) (hf : 4 ≤ R.frames) (hl : 112 ≤ R.locals) (hc : kc ≤ R.cells + kc0) (hsl : ks ≤ R.slots + ks0) {si : Int32} (hS0 : ∀ k, k < 35 → Sml (T (35 * r + k))) (act : Act SSX TBL (gp g0 wp) CLS bl xs D_189 p l s m args meth c) (hEnd : EndN SSX TBL (gp g0 wp) CLS D_189 p l e R s m args below meth c Q kc0 ks0 f lam KC KS (fun kd _ h2 => kd = 0 ∧ ∃ tr : Bool, (tr = true ↔ T (35 * r + 34) < 0) ∧ QArr h2 139 140 1295 (clsT T r tr false) ∧ IArr h2 141 30 (upI bz r (bif tr || false then 100 + (r : Int) else 5 + (r : Int))) ∧ rd h2 124 28 = .int (ri + (1 : Int32)) ∧ FrS WC hs h2)) (hk1 : kc ≤ KC) (hk2 : ks ≤ KS) : ∀ k : Nat, k ≤ 35 → ∀ (ki : Int32) (hj : List CE), ki.toInt = (k : Int) → RW hj → QArr hj 139 140 1295 (ngT T r k) → IArr hj 141 30 bz → rd hj 124 28 = .int ri → FrS WC hs hj → WpN (gp g0 wp) CLS p l e R s m args below meth c Q D_189.2.2.1 kc0 ks0 31 [some (.ref 124), some (.int (0 : Int32)), some (.int si), some (.int (1 : Int32)), some (.int ki)] (hj, kc, ks) [] := by
  refine dn (fun k hk ih => ?_)
  intro ki hj hki rwj hT hB h28 hfr
  refine g_loadI act (gx gp_189 (w := 0x4002102) rfl (by decide) rfl) (a := 4) (n := 33) rfl rfl rfl ?_
  refine g_constI act (gx gp_189 (w := 0x40000011c00000119000000002301) rfl (by decide) rfl) (n := 35) (x := (35 : Int32)) (by decide) rfl ?_
  refine g_icmpGe act (gx gp_189 (w := 0x4f002608) rfl (by decide) rfl) (tgt := 79) (n := 38) rfl rfl (fun h3 => ?_) (fun h3 => ?_)
  · simp only [i_le, show (35 : Int32).toInt = 35 from by decide] at h3
    obtain rfl : k = 35 := by omega
    exact n_forget (d := D_189) (L2 := [some (.ref 124), some (.int (0 : Int32)), some (.int si), some (.int (1 : Int32)), none]) (fun i v hi => by
      match i, hi with
      | 0, hi => exact hi
      | 1, hi => exact hi
      | 2, hi => exact hi
      | 3, hi => exact hi
      | 4, hi => cases hi
      | i + 5, hi => cases hi) (cls_m01 hri hr hS1 hS2 hneg hf hl hc hsl act hEnd hk1 hk2 hj rwj hT hB h28 hfr)
  · simp only [i_le, show (35 : Int32).toInt = 35 from by decide] at h3
    refine g_loadI act (gx gp_189 (w := 0x3002702) rfl (by decide) rfl) (a := 3) (n := 39) rfl rfl rfl ?_
    refine g_ifEq act (gx gp_189 (w := 0x4f002a0e) rfl (by decide) rfl) (tgt := 79) (n := 42) rfl rfl (fun q => absurd q (by decide)) (fun _ => ?_)
    refine g_loadA act (gx gp_189 (w := 0x2b03) rfl (by decide) rfl) (a := 0) (n := 43) rfl rfl rfl ?_
    refine r_getf act (gx gp_189 (w := 0x3000649002e04) rfl (by decide) rfl) (n := 46) (ci := 9) (j := 25) (N := 39) rfl rfl rfl rwj.1 (by decide) (rwj.2 (25, 139, 33, 1295) (by decide)).1 ?_
    refine g_constI act (gx gp_189 (w := 0x40000011c00000119000000003001) rfl (by decide) rfl) (n := 48) (x := (35 : Int32)) (by decide) rfl ?_
    refine g_loadA act (gx gp_189 (w := 0x3103) rfl (by decide) rfl) (a := 0) (n := 49) rfl rfl rfl ?_
    refine r_getf act (gx gp_189 (w := 0x709003404) rfl (by decide) rfl) (n := 52) (ci := 9) (j := 28) (N := 39) rfl rfl rfl rwj.1 (by decide) (v := .int ri) h28 ?_
    refine g_imul act (gx gp_189 (w := 0x3511) rfl (by decide) rfl) (n := 53) rfl ?_
    have v_1 := iv_mulN (show (35 : Int32).toInt = ((35 : Nat) : Int) from by decide) hri (show (35 * r) < 2147483648 by omega)
    refine g_loadI act (gx gp_189 (w := 0x4003702) rfl (by decide) rfl) (a := 4) (n := 55) rfl rfl rfl ?_
    refine g_iadd act (gx gp_189 (w := 0x380a) rfl (by decide) rfl) (n := 56) rfl ?_
    have v_2 := iv_addN v_1 hki (show ((35 * r) + k) < 2147483648 by omega)
    refine g_loadA act (gx gp_189 (w := 0x3903) rfl (by decide) rfl) (a := 0) (n := 57) rfl rfl rfl ?_
    refine r_getf act (gx gp_189 (w := 0x3000649003c04) rfl (by decide) rfl) (n := 60) (ci := 9) (j := 25) (N := 39) rfl rfl rfl rwj.1 (by decide) (rwj.2 (25, 139, 33, 1295) (by decide)).1 ?_
    refine g_constI act (gx gp_189 (w := 0x40000011c00000119000000003e01) rfl (by decide) rfl) (n := 62) (x := (35 : Int32)) (by decide) rfl ?_
    refine g_loadA act (gx gp_189 (w := 0x3f03) rfl (by decide) rfl) (a := 0) (n := 63) rfl rfl rfl ?_
    refine r_getf act (gx gp_189 (w := 0x709004204) rfl (by decide) rfl) (n := 66) (ci := 9) (j := 28) (N := 39) rfl rfl rfl rwj.1 (by decide) (v := .int ri) h28 ?_
    refine g_imul act (gx gp_189 (w := 0x4311) rfl (by decide) rfl) (n := 67) rfl ?_
    have v_3 := iv_mulN (show (35 : Int32).toInt = ((35 : Nat) : Int) from by decide) hri (show (35 * r) < 2147483648 by omega)
    refine g_loadI act (gx gp_189 (w := 0x4004502) rfl (by decide) rfl) (a := 4) (n := 69) rfl rfl rfl ?_
    refine g_iadd act (gx gp_189 (w := 0x460a) rfl (by decide) rfl) (n := 70) rfl ?_
    have v_4 := iv_addN v_3 hki (show ((35 * r) + k) < 2147483648 by omega)
    obtain ⟨x_5, w_8, e_6, e_9, hx_7⟩ := hT ((35 * r) + k) (by omega)
    rw [show ngT T r k ((35 * r) + k) = T (35 * r + k) from if_neg (by omega)] at hx_7
    refine r_lald act (gx gp_189 (w := 0x470d) rfl (by decide) rfl) (n := 71) (j := ((35 * r) + k)) rfl (rwj.2 (25, 139, 33, 1295) (by decide)).2 v_4 (show ((35 * r) + k) < 1295 by omega) (v := .long x_5) e_6 ?_
    refine g_lneg act (gx gp_189 (w := 0x4825) rfl (by decide) rfl) (n := 72) rfl ?_
    refine r_last act (gx gp_189 (w := 0x4905) rfl (by decide) rfl) (n := 73) (j := ((35 * r) + k)) rfl (rwj.2 (25, 139, 33, 1295) (by decide)).2 v_4 (show ((35 * r) + k) < 1295 by omega) ?_
    have fq_10 := hT.putN (j := ((35 * r) + k)) (Y := -T (35 * r + k)) (rwj.2 (25, 139, 33, 1295) (by decide)).2 (by decide) e_9 (FR.ngS hx_7 (hS0 k (by omega)))
    have rw_11 := RW.wr (k := 139) (j := ((35 * r) + k)) (v := .long (-x_5)) rwj (Or.inl (by decide))
    have f_12 := hB.ne (k := 139) (j := ((35 * r) + k)) (v := .long (-x_5)) (by decide)
    have f_13 := (rd_ne hj (k := 139) (j := ((35 * r) + k)) (.long (-x_5)) (Or.inl (by decide))).trans h28
    have fr_14 := hfr.wr (k := 139) (j := ((35 * r) + k)) (.long (-x_5)) (by unfold WC; omega)
    clear rwj hfr hB h28
    generalize (wr hj 139 ((35 * r) + k) (.long (-x_5))) = hs_15 at *
    refine g_iinc act (gx gp_189 (w := 0x80000001000004004c09) rfl (by decide) rfl) (a := 4) (i := (1 : Int32)) (n := 76) rfl (by decide) rfl rfl (L2 := [some (.ref 124), some (.int (0 : Int32)), some (.int si), some (.int (1 : Int32)), some (.int (ki + (1 : Int32)))]) rfl ?_
    have v_16 := iv_addN hki (show (1 : Int32).toInt = ((1 : Nat) : Int) from by decide) (show (k + 1) < 2147483648 by omega)
    refine g_goto act (gx gp_189 (w := 0x1f07) rfl (by decide) rfl) (n := 31) rfl ?_
    exact ih (k + 1) (by omega) (by omega) _ _ v_16 rw_11 (fq_10.cong (fun j _ => ng_step j)) f_12 f_13 fr_14

theorem cls_b10 {g0 : GG} {bl : Nat} {xs : Nat → Int32} {l : Launch} {wp : va_W} {p : Program} {e : Env} {R : Room} {s : State} {m : MethodId} {args : Array Value} {below : List Frame} {meth : Method} {c : Code} {Q : State → Prop} {kc0 ks0 kc ks f lam KC KS : Nat} {hs : List CE} {T : Nat → Rat} {bz : Nat → Int} {ri : Int32} {r : Nat} (hri : ri.toInt = (r : Int)) (hr : r < 29) (hS1 : ∀ k, k < 35 → Sml ((cls2 T r false true) (35 * 30 + k))) (hS2 : ∀ k, k < 35 → Sml ((cls2 T r false true) (35 * r + k))) (hneg : (false = true) ↔ T (35 * r + 34) < 0) (hf : 4 ≤ R.frames) (hl : 112 ≤ R.locals) (hc : kc ≤ R.cells + kc0) (hsl : ks ≤ R.slots + ks0) {si : Int32} (act : Act SSX TBL (gp g0 wp) CLS bl xs D_189 p l s m args meth c) (hEnd : EndN SSX TBL (gp g0 wp) CLS D_189 p l e R s m args below meth c Q kc0 ks0 f lam KC KS (fun kd _ h2 => kd = 0 ∧ ∃ tr : Bool, (tr = true ↔ T (35 * r + 34) < 0) ∧ QArr h2 139 140 1295 (clsT T r tr true) ∧ IArr h2 141 30 (upI bz r (bif tr || true then 100 + (r : Int) else 5 + (r : Int))) ∧ rd h2 124 28 = .int (ri + (1 : Int32)) ∧ FrS WC hs h2)) (hk1 : kc ≤ KC) (hk2 : ks ≤ KS) : ∀ k : Nat, k ≤ 35 → ∀ (ki : Int32) (hj : List CE), ki.toInt = (k : Int) → RW hj → QArr hj 139 140 1295 (adT (cls2 T r false true) r k) → IArr hj 141 30 (upI bz r (bif false || true then 100 + (r : Int) else 5 + (r : Int))) → rd hj 124 28 = .int ri → FrS WC hs hj → WpN (gp g0 wp) CLS p l e R s m args below meth c Q D_189.2.2.1 kc0 ks0 145 [some (.ref 124), some (.int (1 : Int32)), some (.int si), some (.int (0 : Int32)), some (.int ki)] (hj, kc, ks) [] := by
  refine dn (fun k hk ih => ?_)
  intro ki hj hki rwj hT hB h28 hfr
  refine g_loadI act (gx gp_189 (w := 0x4009302) rfl (by decide) rfl) (a := 4) (n := 147) rfl rfl rfl ?_
  refine g_constI act (gx gp_189 (w := 0x40000011c00000119000000009501) rfl (by decide) rfl) (n := 149) (x := (35 : Int32)) (by decide) rfl ?_
  refine g_icmpGe act (gx gp_189 (w := 0xd3009808) rfl (by decide) rfl) (tgt := 211) (n := 152) rfl rfl (fun h3 => ?_) (fun h3 => ?_)
  · simp only [i_le, show (35 : Int32).toInt = 35 from by decide] at h3
    refine g_loadA act (gx gp_189 (w := 0xd403) rfl (by decide) rfl) (a := 0) (n := 212) rfl rfl rfl ?_
    refine g_dup act (gx gp_189 (w := 0xd522) rfl (by decide) rfl) (n := 213) rfl rfl ?_
    refine r_getf act (gx gp_189 (w := 0x70900d804) rfl (by decide) rfl) (n := 216) (ci := 9) (j := 28) (N := 39) rfl rfl rfl rwj.1 (by decide) (v := .int ri) h28 ?_
    refine g_constI act (gx gp_189 (w := 0x40000000c0000000900000000d901) rfl (by decide) rfl) (n := 217) (x := (1 : Int32)) (by decide) rfl ?_
    refine g_iadd act (gx gp_189 (w := 0xda0a) rfl (by decide) rfl) (n := 218) rfl ?_
    have v_1 := iv_addN hri (show (1 : Int32).toInt = ((1 : Nat) : Int) from by decide) (show (r + 1) < 2147483648 by omega)
    refine r_putf act (gx gp_189 (w := 0x70900dd13) rfl (by decide) rfl) (n := 221) (ci := 9) (j := 28) (N := 39) rfl rfl rfl rwj.1 (by decide) (Or.inl ⟨rfl, _, rfl⟩) ?_
    have rw_2 := RW.wr (k := 124) (j := 28) (v := .int (ri + (1 : Int32))) rwj (Or.inr (by decide))
    have f_3 := hT.ne (k := 124) (j := 28) (v := .int (ri + (1 : Int32))) (by decide) (by decide)
    have f_4 := hB.ne (k := 124) (j := 28) (v := .int (ri + (1 : Int32))) (by decide)
    have f_6 := rd_same (j := 28) (v := .int (ri + (1 : Int32))) rwj.1
    have fr_7 := hfr.wr (k := 124) (j := 28) (.int (ri + (1 : Int32))) (by unfold WC; omega)
    clear rwj hfr hT hB h28
    generalize (wr hj 124 28 (.int (ri + (1 : Int32)))) = hs_8 at *
    exact g_retV hEnd (gx gp_189 (w := 0x18) rfl (by decide) rfl) ⟨rfl, false, hneg, f_3.cong (fun j _ => by rw [show k = 35 by omega]; rfl), f_4, f_6, fr_7⟩ hk1 hk2
  · simp only [i_le, show (35 : Int32).toInt = 35 from by decide] at h3
    refine g_loadA act (gx gp_189 (w := 0x9903) rfl (by decide) rfl) (a := 0) (n := 153) rfl rfl rfl ?_
    refine r_getf act (gx gp_189 (w := 0x30006c9009c04) rfl (by decide) rfl) (n := 156) (ci := 9) (j := 27) (N := 39) rfl rfl rfl rwj.1 (by decide) (rwj.2 (27, 141, 32, 30) (by decide)).1 ?_
    refine g_loadA act (gx gp_189 (w := 0x9d03) rfl (by decide) rfl) (a := 0) (n := 157) rfl rfl rfl ?_
    refine r_getf act (gx gp_189 (w := 0x70900a004) rfl (by decide) rfl) (n := 160) (ci := 9) (j := 28) (N := 39) rfl rfl rfl rwj.1 (by decide) (v := .int ri) h28 ?_
    obtain ⟨x_9, e_10, hx_11⟩ := hB r (by omega)
    refine r_iald act (gx gp_189 (w := 0xa11a) rfl (by decide) rfl) (n := 161) (j := r) rfl (rwj.2 (27, 141, 32, 30) (by decide)).2 hri (show r < 30 by omega) (v := .int x_9) e_10 ?_
    have ub_12 := upI_s bz r (bif false || true then 100 + (r : Int) else 5 + (r : Int))
    simp only [Bool.or_true, Bool.or_false, Bool.true_or, Bool.false_or, cond_true, cond_false] at *
    refine g_constI act (gx gp_189 (w := 0x4000003240000032100000000a301) rfl (by decide) rfl) (n := 163) (x := (100 : Int32)) (by decide) rfl ?_
    refine g_icmpLt act (gx gp_189 (w := 0xd300a620) rfl (by decide) rfl) (tgt := 211) (n := 166) rfl rfl (fun h10 => ?_) (fun h10 => ?_)
    · simp only [i_lt, show (100 : Int32).toInt = 100 from by decide] at h10
      exfalso; omega
    · simp only [i_lt, show (100 : Int32).toInt = 100 from by decide] at h10
      refine g_loadA act (gx gp_189 (w := 0xa703) rfl (by decide) rfl) (a := 0) (n := 167) rfl rfl rfl ?_
      refine g_constI act (gx gp_189 (w := 0x4000000f4000000f100000000a901) rfl (by decide) rfl) (n := 169) (x := (30 : Int32)) (by decide) rfl ?_
      refine g_loadI act (gx gp_189 (w := 0x400ab02) rfl (by decide) rfl) (a := 4) (n := 171) rfl rfl rfl ?_
      refine g_loadA act (gx gp_189 (w := 0xac03) rfl (by decide) rfl) (a := 0) (n := 172) rfl rfl rfl ?_
      refine r_getf act (gx gp_189 (w := 0x300064900af04) rfl (by decide) rfl) (n := 175) (ci := 9) (j := 25) (N := 39) rfl rfl rfl rwj.1 (by decide) (rwj.2 (25, 139, 33, 1295) (by decide)).1 ?_
      refine g_constI act (gx gp_189 (w := 0x40000011c0000011900000000b101) rfl (by decide) rfl) (n := 177) (x := (35 : Int32)) (by decide) rfl ?_
      refine g_loadA act (gx gp_189 (w := 0xb203) rfl (by decide) rfl) (a := 0) (n := 178) rfl rfl rfl ?_
      refine r_getf act (gx gp_189 (w := 0x70900b504) rfl (by decide) rfl) (n := 181) (ci := 9) (j := 28) (N := 39) rfl rfl rfl rwj.1 (by decide) (v := .int ri) h28 ?_
      refine g_imul act (gx gp_189 (w := 0xb611) rfl (by decide) rfl) (n := 182) rfl ?_
      have v_13 := iv_mulN (show (35 : Int32).toInt = ((35 : Nat) : Int) from by decide) hri (show (35 * r) < 2147483648 by omega)
      refine g_loadI act (gx gp_189 (w := 0x400b802) rfl (by decide) rfl) (a := 4) (n := 184) rfl rfl rfl ?_
      refine g_iadd act (gx gp_189 (w := 0xb90a) rfl (by decide) rfl) (n := 185) rfl ?_
      have v_14 := iv_addN v_13 hki (show ((35 * r) + k) < 2147483648 by omega)
      obtain ⟨x_15, w_18, e_16, e_19, hx_17⟩ := hT ((35 * r) + k) (by omega)
      rw [show adT (cls2 T r false true) r k ((35 * r) + k) = (cls2 T r false true) (35 * r + k) from if_neg (by omega)] at hx_17
      refine r_lald act (gx gp_189 (w := 0xba0d) rfl (by decide) rfl) (n := 186) (j := ((35 * r) + k)) rfl (rwj.2 (25, 139, 33, 1295) (by decide)).2 v_14 (show ((35 * r) + k) < 1295 by omega) (v := .long x_15) e_16 ?_
      refine g_lneg act (gx gp_189 (w := 0xbb25) rfl (by decide) rfl) (n := 187) rfl ?_
      refine g_loadA act (gx gp_189 (w := 0xbc03) rfl (by decide) rfl) (a := 0) (n := 188) rfl rfl rfl ?_
      refine r_getf act (gx gp_189 (w := 0x300068900bf04) rfl (by decide) rfl) (n := 191) (ci := 9) (j := 26) (N := 39) rfl rfl rfl rwj.1 (by decide) (rwj.2 (26, 140, 33, 1295) (by decide)).1 ?_
      refine g_constI act (gx gp_189 (w := 0x40000011c0000011900000000c101) rfl (by decide) rfl) (n := 193) (x := (35 : Int32)) (by decide) rfl ?_
      refine g_loadA act (gx gp_189 (w := 0xc203) rfl (by decide) rfl) (a := 0) (n := 194) rfl rfl rfl ?_
      refine r_getf act (gx gp_189 (w := 0x70900c504) rfl (by decide) rfl) (n := 197) (ci := 9) (j := 28) (N := 39) rfl rfl rfl rwj.1 (by decide) (v := .int ri) h28 ?_
      refine g_imul act (gx gp_189 (w := 0xc611) rfl (by decide) rfl) (n := 198) rfl ?_
      have v_20 := iv_mulN (show (35 : Int32).toInt = ((35 : Nat) : Int) from by decide) hri (show (35 * r) < 2147483648 by omega)
      refine g_loadI act (gx gp_189 (w := 0x400c802) rfl (by decide) rfl) (a := 4) (n := 200) rfl rfl rfl ?_
      refine g_iadd act (gx gp_189 (w := 0xc90a) rfl (by decide) rfl) (n := 201) rfl ?_
      have v_21 := iv_addN v_20 hki (show ((35 * r) + k) < 2147483648 by omega)
      refine r_lald act (gx gp_189 (w := 0xca0d) rfl (by decide) rfl) (n := 202) (j := ((35 * r) + k)) rfl (rwj.2 (26, 140, 33, 1295) (by decide)).2 v_21 (show ((35 * r) + k) < 1295 by omega) (v := .long w_18) e_19 ?_
      refine n_call tb_pres act hEnd (gx (P := G_call) gp_189 (w := 0xa000000000000820750000b100cd0f) rfl (by decide) rfl) (d' := D_177) rfl (as := [.ref 124, .int (30 : Int32), .int ki, .long (-x_15), .long w_18]) (rest := []) (b_addsToQ (R9 := 30) (C9 := k) rwj hT (show (30 : Int32).toInt = ((30 : Nat) : Int) from by decide) hki (by omega) (FR.ngS hx_17 (hS2 _ (by omega))) (by rw [show adT (cls2 T r false true) r k (35 * 30 + k) = (cls2 T r false true) (35 * 30 + k) from if_neg (by omega)]; exact hS1 _ (by omega)) (Sml.neg (hS2 _ (by omega)))) (show (5 : Nat) = fb 0xa000000000000820750000b100cd0f % 16 by decide) (by show (7 : Nat) ≤ 8; decide) (fun _ => ⟨_, _, rfl, _, shp_at rwj.1, Or.inr (show fb 0xa000000000000820750000b100cd0f >>> 68 = 10 by decide)⟩) (by omega) (by show 8 + (8 + 11) + 85 ≤ R.locals; omega) (by show (0 : Nat) ≤ 8; decide) (by show kc + 0 ≤ _; omega) (by show ks + 0 ≤ _; omega) (fun r9 hs_28 hpo hr9 => ?_) (fun x9 hs9 hx9 hpo => ?_)
      · obtain rfl : r9 = none := hr9.elim (fun q => q.2) (fun q => absurd rfl q.1)
        obtain ⟨-, hT_27, fr_29⟩ := hpo
        have rw_30 := rwj.fr fr_29 W1_rw
        have f_31 := hB.fr (fun j9 _ => fr_29.2.2 141 j9 (by unfold W1; omega))
        have f_32 := rd_fr fr_29 h28 (by unfold W1; omega)
        have fr_33 := hfr.tr (fr_29.mono (fun k9 j9 h9 => by unfold W1 at h9; unfold WC; omega))
        clear rwj hT hB h28 hfr
        show WpN (gp g0 wp) CLS p l e R s m args below meth c Q D_189.2.2.1 kc0 ks0 205 [some (.ref 124), some (.int (1 : Int32)), some (.int si), some (.int (0 : Int32)), some (.int ki)] (hs_28, kc, ks) []
        refine g_iinc act (gx gp_189 (w := 0x8000000100000400d009) rfl (by decide) rfl) (a := 4) (i := (1 : Int32)) (n := 208) rfl (by decide) rfl rfl (L2 := [some (.ref 124), some (.int (1 : Int32)), some (.int si), some (.int (0 : Int32)), some (.int (ki + (1 : Int32)))]) rfl ?_
        have v_34 := iv_addN hki (show (1 : Int32).toInt = ((1 : Nat) : Int) from by decide) (show (k + 1) < 2147483648 by omega)
        refine g_goto act (gx gp_189 (w := 0x9107) rfl (by decide) rfl) (n := 145) rfl ?_
        exact ih (k + 1) (by omega) (by omega) _ _ v_34 rw_30 (hT_27.cong (fun j _ => (by rw [show adT (cls2 T r false true) r k (35 * 30 + k) = (cls2 T r false true) (35 * 30 + k) from if_neg (by omega)]; exact ad_step j))) f_31 f_32 fr_33
      · exact absurd hpo.1 (by omega)

theorem cls_m10 {g0 : GG} {bl : Nat} {xs : Nat → Int32} {l : Launch} {wp : va_W} {p : Program} {e : Env} {R : Room} {s : State} {m : MethodId} {args : Array Value} {below : List Frame} {meth : Method} {c : Code} {Q : State → Prop} {kc0 ks0 kc ks f lam KC KS : Nat} {hs : List CE} {T : Nat → Rat} {bz : Nat → Int} {ri : Int32} {r : Nat} (hri : ri.toInt = (r : Int)) (hr : r < 29) (hS1 : ∀ k, k < 35 → Sml ((cls2 T r false true) (35 * 30 + k))) (hS2 : ∀ k, k < 35 → Sml ((cls2 T r false true) (35 * r + k))) (hneg : (false = true) ↔ T (35 * r + 34) < 0) (hf : 4 ≤ R.frames) (hl : 112 ≤ R.locals) (hc : kc ≤ R.cells + kc0) (hsl : ks ≤ R.slots + ks0) {si : Int32} (act : Act SSX TBL (gp g0 wp) CLS bl xs D_189 p l s m args meth c) (hEnd : EndN SSX TBL (gp g0 wp) CLS D_189 p l e R s m args below meth c Q kc0 ks0 f lam KC KS (fun kd _ h2 => kd = 0 ∧ ∃ tr : Bool, (tr = true ↔ T (35 * r + 34) < 0) ∧ QArr h2 139 140 1295 (clsT T r tr true) ∧ IArr h2 141 30 (upI bz r (bif tr || true then 100 + (r : Int) else 5 + (r : Int))) ∧ rd h2 124 28 = .int (ri + (1 : Int32)) ∧ FrS WC hs h2)) (hk1 : kc ≤ KC) (hk2 : ks ≤ KS) (hj : List CE) (rwj : RW hj) (hT : QArr hj 139 140 1295 T) (hB : IArr hj 141 30 bz) (h28 : rd hj 124 28 = .int ri) (hfr : FrS WC hs hj) : WpN (gp g0 wp) CLS p l e R s m args below meth c Q D_189.2.2.1 kc0 ks0 79 [some (.ref 124), some (.int (1 : Int32)), some (.int si), some (.int (0 : Int32)), none] (hj, kc, ks) [] := by
  refine g_loadI act (gx gp_189 (w := 0x1005002) rfl (by decide) rfl) (a := 1) (n := 80) rfl rfl rfl ?_
  refine g_ifNe act (gx gp_189 (w := 0x6d00531d) rfl (by decide) rfl) (tgt := 109) (n := 83) rfl rfl (fun _ => ?_) (fun q => absurd (by decide) q)
  refine g_loadA act (gx gp_189 (w := 0x6e03) rfl (by decide) rfl) (a := 0) (n := 110) rfl rfl rfl ?_
  refine r_getf act (gx gp_189 (w := 0x30006c9007104) rfl (by decide) rfl) (n := 113) (ci := 9) (j := 27) (N := 39) rfl rfl rfl rwj.1 (by decide) (rwj.2 (27, 141, 32, 30) (by decide)).1 ?_
  refine g_loadA act (gx gp_189 (w := 0x7203) rfl (by decide) rfl) (a := 0) (n := 114) rfl rfl rfl ?_
  refine r_getf act (gx gp_189 (w := 0x709007504) rfl (by decide) rfl) (n := 117) (ci := 9) (j := 28) (N := 39) rfl rfl rfl rwj.1 (by decide) (v := .int ri) h28 ?_
  refine g_loadI act (gx gp_189 (w := 0x3007602) rfl (by decide) rfl) (a := 3) (n := 118) rfl rfl rfl ?_
  refine g_ifNe act (gx gp_189 (w := 0x7d00791d) rfl (by decide) rfl) (tgt := 125) (n := 121) rfl rfl (fun q => absurd q (by decide)) (fun _ => ?_)
  refine g_loadI act (gx gp_189 (w := 0x1007a02) rfl (by decide) rfl) (a := 1) (n := 122) rfl rfl rfl ?_
  refine g_ifEq act (gx gp_189 (w := 0x87007d0e) rfl (by decide) rfl) (tgt := 135) (n := 125) rfl rfl (fun q => absurd q (by decide)) (fun _ => ?_)
  refine g_constI act (gx gp_189 (w := 0x40000032400000321000000007f01) rfl (by decide) rfl) (n := 127) (x := (100 : Int32)) (by decide) rfl ?_
  refine g_loadA act (gx gp_189 (w := 0x8003) rfl (by decide) rfl) (a := 0) (n := 128) rfl rfl rfl ?_
  refine r_getf act (gx gp_189 (w := 0x709008304) rfl (by decide) rfl) (n := 131) (ci := 9) (j := 28) (N := 39) rfl rfl rfl rwj.1 (by decide) (v := .int ri) h28 ?_
  refine g_iadd act (gx gp_189 (w := 0x840a) rfl (by decide) rfl) (n := 132) rfl ?_
  have v_1 := iv_addN (show (100 : Int32).toInt = ((100 : Nat) : Int) from by decide) hri (show (100 + r) < 2147483648 by omega)
  refine g_goto act (gx gp_189 (w := 0x8d07) rfl (by decide) rfl) (n := 141) rfl ?_
  refine r_iast act (gx gp_189 (w := 0x8e24) rfl (by decide) rfl) (n := 142) (j := r) rfl (rwj.2 (27, 141, 32, 30) (by decide)).2 hri (show r < 30 by omega) ?_
  have rw_2 := RW.wr (k := 141) (j := r) (v := .int ((100 : Int32) + ri)) rwj (Or.inl (by decide))
  have f_3 := hT.ne (k := 141) (j := r) (v := .int ((100 : Int32) + ri)) (by decide) (by decide)
  have f_4 := hB.put (j := r) (rwj.2 (27, 141, 32, 30) (by decide)).2 v_1
  have f_5 := (rd_ne hj (k := 141) (j := r) (.int ((100 : Int32) + ri)) (Or.inl (by decide))).trans h28
  have fr_6 := hfr.wr (k := 141) (j := r) (.int ((100 : Int32) + ri)) (by unfold WC; omega)
  clear rwj hfr hT hB h28
  generalize (wr hj 141 r (.int ((100 : Int32) + ri))) = hs_7 at *
  refine g_constI act (gx gp_189 (w := 0x40000000400000001000000008f01) rfl (by decide) rfl) (n := 143) (x := (0 : Int32)) (by decide) rfl ?_
  refine g_storeI act (gx gp_189 (w := 0x4009110) rfl (by decide) rfl) (a := 4) (n := 145) rfl rfl (L2 := [some (.ref 124), some (.int (1 : Int32)), some (.int si), some (.int (0 : Int32)), some (.int (0 : Int32))]) rfl ?_
  exact cls_b10 hri hr hS1 hS2 hneg hf hl hc hsl act hEnd hk1 hk2 0 (by omega) _ _ rfl rw_2 (f_3.cong (fun j _ => by unfold adT; rw [if_neg (by omega)]; rfl)) f_4 f_5 fr_6

theorem b_closes0 {g0 : GG} {bl : Nat} {xs : Nat → Int32} {l : Launch} {hs : List CE} {T : Nat → Rat} {bz : Nat → Int} {ri : Int32} {r : Nat} (hri : ri.toInt = (r : Int)) (hr : r < 29) (hS0 : ∀ k, k < 35 → Sml (T (35 * r + k))) (hS3 : ∀ k, k < 35 → Sml (T (35 * 30 + k))) (rw0 : RW hs) (hT : QArr hs 139 140 1295 T) (hB : IArr hs 141 30 bz) (h28 : rd hs 124 28 = .int ri) : BodyN SSX TBL g0 CLS bl xs l D_189 4 112 0 0 [.ref 124, .int (0 : Int32)] hs (fun kd _ h2 => kd = 0 ∧ ∃ tr : Bool, (tr = true ↔ T (35 * r + 34) < 0) ∧ QArr h2 139 140 1295 (clsT T r tr false) ∧ IArr h2 141 30 (upI bz r (bif tr || false then 100 + (r : Int) else 5 + (r : Int))) ∧ rd h2 124 28 = .int (ri + (1 : Int32)) ∧ FrS WC hs h2) := by
  intro wp p e R s m args below meth c Q kc0 ks0 kc ks act hf hl hc hsl hEnd
  show WpN (gp g0 wp) CLS p l e R s m args below meth c Q D_189.2.2.1 kc0 ks0 0 [some (.ref 124), some (.int (0 : Int32)), none, none, none] (hs, kc, ks) []
  refine g_constI act (gx gp_189 (w := 0x40000011c00000119000000000201) rfl (by decide) rfl) (n := 2) (x := (35 : Int32)) (by decide) rfl ?_
  refine g_loadA act (gx gp_189 (w := 0x303) rfl (by decide) rfl) (a := 0) (n := 3) rfl rfl rfl ?_
  refine r_getf act (gx gp_189 (w := 0x709000604) rfl (by decide) rfl) (n := 6) (ci := 9) (j := 28) (N := 39) rfl rfl rfl rw0.1 (by decide) (v := .int ri) h28 ?_
  refine g_imul act (gx gp_189 (w := 0x711) rfl (by decide) rfl) (n := 7) rfl ?_
  have v_1 := iv_mulN (show (35 : Int32).toInt = ((35 : Nat) : Int) from by decide) hri (show (35 * r) < 2147483648 by omega)
  refine g_constI act (gx gp_189 (w := 0x40000011400000111000000000901) rfl (by decide) rfl) (n := 9) (x := (34 : Int32)) (by decide) rfl ?_
  refine g_iadd act (gx gp_189 (w := 0xa0a) rfl (by decide) rfl) (n := 10) rfl ?_
  have v_2 := iv_addN v_1 (show (34 : Int32).toInt = ((34 : Nat) : Int) from by decide) (show ((35 * r) + 34) < 2147483648 by omega)
  refine g_storeI act (gx gp_189 (w := 0x2000b10) rfl (by decide) rfl) (a := 2) (n := 11) rfl rfl (L2 := [some (.ref 124), some (.int (0 : Int32)), some (.int (((35 : Int32) * ri) + (34 : Int32))), none, none]) rfl ?_
  refine g_loadA act (gx gp_189 (w := 0xc03) rfl (by decide) rfl) (a := 0) (n := 12) rfl rfl rfl ?_
  refine r_getf act (gx gp_189 (w := 0x3000649000f04) rfl (by decide) rfl) (n := 15) (ci := 9) (j := 25) (N := 39) rfl rfl rfl rw0.1 (by decide) (rw0.2 (25, 139, 33, 1295) (by decide)).1 ?_
  refine g_loadI act (gx gp_189 (w := 0x2001002) rfl (by decide) rfl) (a := 2) (n := 16) rfl rfl rfl ?_
  obtain ⟨x_3, w_6, e_4, e_7, hx_5⟩ := hT ((35 * r) + 34) (by omega)
  refine r_lald act (gx gp_189 (w := 0x110d) rfl (by decide) rfl) (n := 17) (j := ((35 * r) + 34)) rfl (rw0.2 (25, 139, 33, 1295) (by decide)).2 v_2 (show ((35 * r) + 34) < 1295 by omega) (v := .long x_3) e_4 ?_
  refine g_constL act (gx gp_189 (w := 0x40000000000000002000000001201) rfl (by decide) rfl) (n := 18) (x := 0) (by decide) rfl ?_
  refine g_lcmp act (gx gp_189 (w := 0x130c) rfl (by decide) rfl) (n := 19) rfl ?_
  refine g_ifGe act (gx gp_189 (w := 0x1a001614) rfl (by decide) rfl) (tgt := 26) (n := 22) rfl rfl (fun h9 => ?_) (fun h9 => ?_)
  · simp only [cmpGe, show (0 : Int64).toInt = 0 from by decide] at h9
    refine g_constI act (gx gp_189 (w := 0x40000000400000001000000001b01) rfl (by decide) rfl) (n := 27) (x := (0 : Int32)) (by decide) rfl ?_
    refine g_storeI act (gx gp_189 (w := 0x3001c10) rfl (by decide) rfl) (a := 3) (n := 28) rfl rfl (L2 := [some (.ref 124), some (.int (0 : Int32)), some (.int (((35 : Int32) * ri) + (34 : Int32))), some (.int (0 : Int32)), none]) rfl ?_
    refine g_constI act (gx gp_189 (w := 0x40000000400000001000000001d01) rfl (by decide) rfl) (n := 29) (x := (0 : Int32)) (by decide) rfl ?_
    refine g_storeI act (gx gp_189 (w := 0x4001f10) rfl (by decide) rfl) (a := 4) (n := 31) rfl rfl (L2 := [some (.ref 124), some (.int (0 : Int32)), some (.int (((35 : Int32) * ri) + (34 : Int32))), some (.int (0 : Int32)), some (.int (0 : Int32))]) rfl ?_
    have hneg : (false = true) ↔ T (35 * r + 34) < 0 := by have hg := hx_5.ge; constructor <;> intro z <;> first | (exfalso; revert z; decide) | grind
    refine g_loadI act (gx gp_189 (w := 0x4002102) rfl (by decide) rfl) (a := 4) (n := 33) rfl rfl rfl ?_
    refine g_constI act (gx gp_189 (w := 0x40000011c00000119000000002301) rfl (by decide) rfl) (n := 35) (x := (35 : Int32)) (by decide) rfl ?_
    refine g_icmpGe act (gx gp_189 (w := 0x4f002608) rfl (by decide) rfl) (tgt := 79) (n := 38) rfl rfl (fun q => absurd q (by decide)) (fun _ => ?_)
    refine g_loadI act (gx gp_189 (w := 0x3002702) rfl (by decide) rfl) (a := 3) (n := 39) rfl rfl rfl ?_
    refine g_ifEq act (gx gp_189 (w := 0x4f002a0e) rfl (by decide) rfl) (tgt := 79) (n := 42) rfl rfl (fun _ => ?_) (fun q => absurd (by decide) q)
    exact n_forget (d := D_189) (L2 := [some (.ref 124), some (.int (0 : Int32)), some (.int (((35 : Int32) * ri) + (34 : Int32))), some (.int (0 : Int32)), none]) (fun i v hi => by
      match i, hi with
      | 0, hi => exact hi
      | 1, hi => exact hi
      | 2, hi => exact hi
      | 3, hi => exact hi
      | 4, hi => cases hi
      | i + 5, hi => cases hi) (cls_m00 hri hr (fun k hk => by rw [cls2_g hr _ _ (Or.inr (by omega))]; exact hS3 k hk) (cls2_sm hr _ _ hS0) hneg hf hl hc hsl act hEnd (by omega) (by omega) hs rw0 hT hB h28 (FrS.rf _ _))
  · simp only [cmpGe, show (0 : Int64).toInt = 0 from by decide] at h9
    refine g_constI act (gx gp_189 (w := 0x40000000c00000009000000001701) rfl (by decide) rfl) (n := 23) (x := (1 : Int32)) (by decide) rfl ?_
    refine g_goto act (gx gp_189 (w := 0x1b07) rfl (by decide) rfl) (n := 27) rfl ?_
    refine g_storeI act (gx gp_189 (w := 0x3001c10) rfl (by decide) rfl) (a := 3) (n := 28) rfl rfl (L2 := [some (.ref 124), some (.int (0 : Int32)), some (.int (((35 : Int32) * ri) + (34 : Int32))), some (.int (1 : Int32)), none]) rfl ?_
    refine g_constI act (gx gp_189 (w := 0x40000000400000001000000001d01) rfl (by decide) rfl) (n := 29) (x := (0 : Int32)) (by decide) rfl ?_
    refine g_storeI act (gx gp_189 (w := 0x4001f10) rfl (by decide) rfl) (a := 4) (n := 31) rfl rfl (L2 := [some (.ref 124), some (.int (0 : Int32)), some (.int (((35 : Int32) * ri) + (34 : Int32))), some (.int (1 : Int32)), some (.int (0 : Int32))]) rfl ?_
    have hneg : (true = true) ↔ T (35 * r + 34) < 0 := by have hg := hx_5.ge; constructor <;> intro z <;> first | (exfalso; revert z; decide) | grind
    exact cls_n01 hri hr (fun k hk => by rw [cls2_g hr _ _ (Or.inr (by omega))]; exact hS3 k hk) (cls2_sm hr _ _ hS0) hneg hf hl hc hsl hS0 act hEnd (by omega) (by omega) 0 (by omega) _ hs rfl rw0 (hT.cong (fun j _ => (if_neg (by omega)).symm)) hB h28 (FrS.rf _ _)

theorem b_closes1 {g0 : GG} {bl : Nat} {xs : Nat → Int32} {l : Launch} {hs : List CE} {T : Nat → Rat} {bz : Nat → Int} {ri : Int32} {r : Nat} (hri : ri.toInt = (r : Int)) (hr : r < 29) (hpos : 0 ≤ T (35 * r + 34)) (hS0 : ∀ k, k < 35 → Sml (T (35 * r + k))) (hS3 : ∀ k, k < 35 → Sml (T (35 * 30 + k))) (rw0 : RW hs) (hT : QArr hs 139 140 1295 T) (hB : IArr hs 141 30 bz) (h28 : rd hs 124 28 = .int ri) : BodyN SSX TBL g0 CLS bl xs l D_189 4 112 0 0 [.ref 124, .int (1 : Int32)] hs (fun kd _ h2 => kd = 0 ∧ ∃ tr : Bool, (tr = true ↔ T (35 * r + 34) < 0) ∧ QArr h2 139 140 1295 (clsT T r tr true) ∧ IArr h2 141 30 (upI bz r (bif tr || true then 100 + (r : Int) else 5 + (r : Int))) ∧ rd h2 124 28 = .int (ri + (1 : Int32)) ∧ FrS WC hs h2) := by
  intro wp p e R s m args below meth c Q kc0 ks0 kc ks act hf hl hc hsl hEnd
  show WpN (gp g0 wp) CLS p l e R s m args below meth c Q D_189.2.2.1 kc0 ks0 0 [some (.ref 124), some (.int (1 : Int32)), none, none, none] (hs, kc, ks) []
  refine g_constI act (gx gp_189 (w := 0x40000011c00000119000000000201) rfl (by decide) rfl) (n := 2) (x := (35 : Int32)) (by decide) rfl ?_
  refine g_loadA act (gx gp_189 (w := 0x303) rfl (by decide) rfl) (a := 0) (n := 3) rfl rfl rfl ?_
  refine r_getf act (gx gp_189 (w := 0x709000604) rfl (by decide) rfl) (n := 6) (ci := 9) (j := 28) (N := 39) rfl rfl rfl rw0.1 (by decide) (v := .int ri) h28 ?_
  refine g_imul act (gx gp_189 (w := 0x711) rfl (by decide) rfl) (n := 7) rfl ?_
  have v_1 := iv_mulN (show (35 : Int32).toInt = ((35 : Nat) : Int) from by decide) hri (show (35 * r) < 2147483648 by omega)
  refine g_constI act (gx gp_189 (w := 0x40000011400000111000000000901) rfl (by decide) rfl) (n := 9) (x := (34 : Int32)) (by decide) rfl ?_
  refine g_iadd act (gx gp_189 (w := 0xa0a) rfl (by decide) rfl) (n := 10) rfl ?_
  have v_2 := iv_addN v_1 (show (34 : Int32).toInt = ((34 : Nat) : Int) from by decide) (show ((35 * r) + 34) < 2147483648 by omega)
  refine g_storeI act (gx gp_189 (w := 0x2000b10) rfl (by decide) rfl) (a := 2) (n := 11) rfl rfl (L2 := [some (.ref 124), some (.int (1 : Int32)), some (.int (((35 : Int32) * ri) + (34 : Int32))), none, none]) rfl ?_
  refine g_loadA act (gx gp_189 (w := 0xc03) rfl (by decide) rfl) (a := 0) (n := 12) rfl rfl rfl ?_
  refine r_getf act (gx gp_189 (w := 0x3000649000f04) rfl (by decide) rfl) (n := 15) (ci := 9) (j := 25) (N := 39) rfl rfl rfl rw0.1 (by decide) (rw0.2 (25, 139, 33, 1295) (by decide)).1 ?_
  refine g_loadI act (gx gp_189 (w := 0x2001002) rfl (by decide) rfl) (a := 2) (n := 16) rfl rfl rfl ?_
  obtain ⟨x_3, w_6, e_4, e_7, hx_5⟩ := hT ((35 * r) + 34) (by omega)
  refine r_lald act (gx gp_189 (w := 0x110d) rfl (by decide) rfl) (n := 17) (j := ((35 * r) + 34)) rfl (rw0.2 (25, 139, 33, 1295) (by decide)).2 v_2 (show ((35 * r) + 34) < 1295 by omega) (v := .long x_3) e_4 ?_
  refine g_constL act (gx gp_189 (w := 0x40000000000000002000000001201) rfl (by decide) rfl) (n := 18) (x := 0) (by decide) rfl ?_
  refine g_lcmp act (gx gp_189 (w := 0x130c) rfl (by decide) rfl) (n := 19) rfl ?_
  refine g_ifGe act (gx gp_189 (w := 0x1a001614) rfl (by decide) rfl) (tgt := 26) (n := 22) rfl rfl (fun h9 => ?_) (fun h9 => ?_)
  · simp only [cmpGe, show (0 : Int64).toInt = 0 from by decide] at h9
    refine g_constI act (gx gp_189 (w := 0x40000000400000001000000001b01) rfl (by decide) rfl) (n := 27) (x := (0 : Int32)) (by decide) rfl ?_
    refine g_storeI act (gx gp_189 (w := 0x3001c10) rfl (by decide) rfl) (a := 3) (n := 28) rfl rfl (L2 := [some (.ref 124), some (.int (1 : Int32)), some (.int (((35 : Int32) * ri) + (34 : Int32))), some (.int (0 : Int32)), none]) rfl ?_
    refine g_constI act (gx gp_189 (w := 0x40000000400000001000000001d01) rfl (by decide) rfl) (n := 29) (x := (0 : Int32)) (by decide) rfl ?_
    refine g_storeI act (gx gp_189 (w := 0x4001f10) rfl (by decide) rfl) (a := 4) (n := 31) rfl rfl (L2 := [some (.ref 124), some (.int (1 : Int32)), some (.int (((35 : Int32) * ri) + (34 : Int32))), some (.int (0 : Int32)), some (.int (0 : Int32))]) rfl ?_
    have hneg : (false = true) ↔ T (35 * r + 34) < 0 := by have hg := hx_5.ge; constructor <;> intro z <;> first | (exfalso; revert z; decide) | grind
    refine g_loadI act (gx gp_189 (w := 0x4002102) rfl (by decide) rfl) (a := 4) (n := 33) rfl rfl rfl ?_
    refine g_constI act (gx gp_189 (w := 0x40000011c00000119000000002301) rfl (by decide) rfl) (n := 35) (x := (35 : Int32)) (by decide) rfl ?_
    refine g_icmpGe act (gx gp_189 (w := 0x4f002608) rfl (by decide) rfl) (tgt := 79) (n := 38) rfl rfl (fun q => absurd q (by decide)) (fun _ => ?_)
    refine g_loadI act (gx gp_189 (w := 0x3002702) rfl (by decide) rfl) (a := 3) (n := 39) rfl rfl rfl ?_
    refine g_ifEq act (gx gp_189 (w := 0x4f002a0e) rfl (by decide) rfl) (tgt := 79) (n := 42) rfl rfl (fun _ => ?_) (fun q => absurd (by decide) q)
    exact n_forget (d := D_189) (L2 := [some (.ref 124), some (.int (1 : Int32)), some (.int (((35 : Int32) * ri) + (34 : Int32))), some (.int (0 : Int32)), none]) (fun i v hi => by
      match i, hi with
      | 0, hi => exact hi
      | 1, hi => exact hi
      | 2, hi => exact hi
      | 3, hi => exact hi
      | 4, hi => cases hi
      | i + 5, hi => cases hi) (cls_m10 hri hr (fun k hk => by rw [cls2_g hr _ _ (Or.inr (by omega))]; exact hS3 k hk) (cls2_sm hr _ _ hS0) hneg hf hl hc hsl act hEnd (by omega) (by omega) hs rw0 hT hB h28 (FrS.rf _ _))
  · simp only [cmpGe, show (0 : Int64).toInt = 0 from by decide] at h9
    refine g_constI act (gx gp_189 (w := 0x40000000c00000009000000001701) rfl (by decide) rfl) (n := 23) (x := (1 : Int32)) (by decide) rfl ?_
    refine g_goto act (gx gp_189 (w := 0x1b07) rfl (by decide) rfl) (n := 27) rfl ?_
    refine g_storeI act (gx gp_189 (w := 0x3001c10) rfl (by decide) rfl) (a := 3) (n := 28) rfl rfl (L2 := [some (.ref 124), some (.int (1 : Int32)), some (.int (((35 : Int32) * ri) + (34 : Int32))), some (.int (1 : Int32)), none]) rfl ?_
    refine g_constI act (gx gp_189 (w := 0x40000000400000001000000001d01) rfl (by decide) rfl) (n := 29) (x := (0 : Int32)) (by decide) rfl ?_
    refine g_storeI act (gx gp_189 (w := 0x4001f10) rfl (by decide) rfl) (a := 4) (n := 31) rfl rfl (L2 := [some (.ref 124), some (.int (1 : Int32)), some (.int (((35 : Int32) * ri) + (34 : Int32))), some (.int (1 : Int32)), some (.int (0 : Int32))]) rfl ?_
    exfalso
    have hg := hx_5.ge
    rw [← hg] at hpos
    omega
