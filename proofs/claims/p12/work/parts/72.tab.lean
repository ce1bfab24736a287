/-! The tableau's cells. -/
theorem b_puts {g0 : GG} {bl : Nat} {xs : Nat → Int32} {l : Launch} {hs : List CE} {r c9 : Int32} {R9 C9 : Nat} {x y : Int64} (rw0 : RW hs) (hr : r.toInt = (R9 : Int)) (hc9 : c9.toInt = (C9 : Int)) (hlt : 35 * R9 + C9 < 1295) : BodyN SSX TBL g0 CLS bl xs l D_256 0 0 0 0 [.ref 124, .int r, .int c9, .long x, .long y] hs (fun kd r h2 => kd = 0 ∧ h2 = wr (wr hs 139 (35 * R9 + C9) (.long x)) 140 (35 * R9 + C9) (.long y)) := by
  intro wp p e R s m args below meth c Q kc0 ks0 kc ks act hf hl hc hsl hEnd
  have hix := idx35 hr hc9 hlt
  show WpN (gp g0 wp) CLS p l e R s m args below meth c Q D_256.2.2.1 kc0 ks0 0 [some (.ref 124), some (.int r), some (.int c9), some (.long x), none, some (.long y), none] (hs, kc, ks) []
  refine g_loadA act (gx gp_256 (w := 0x103) rfl (by decide) rfl) (a := 0) (n := 1) rfl rfl rfl ?_
  refine r_getf act (gx gp_256 (w := 0x3000649000404) rfl (by decide) rfl) (n := 4) (ci := 9) (j := 25) (N := 39) rfl rfl rfl rw0.1 (by decide) (rw0.2 (25, 139, 33, 1295) (by decide)).1 ?_
  refine g_constI act (gx gp_256 (w := 0x40000011c00000119000000000601) rfl (by decide) rfl) (n := 6) (x := (35 : Int32)) (by decide) rfl ?_
  refine g_loadI act (gx gp_256 (w := 0x1000702) rfl (by decide) rfl) (a := 1) (n := 7) rfl rfl rfl ?_
  refine g_imul act (gx gp_256 (w := 0x811) rfl (by decide) rfl) (n := 8) rfl ?_
  refine g_loadI act (gx gp_256 (w := 0x2000902) rfl (by decide) rfl) (a := 2) (n := 9) rfl rfl rfl ?_
  refine g_iadd act (gx gp_256 (w := 0xa0a) rfl (by decide) rfl) (n := 10) rfl ?_
  refine g_loadL act (gx gp_256 (w := 0x3000b06) rfl (by decide) rfl) (a := 3) (n := 11) rfl rfl rfl ?_
  refine r_last act (gx gp_256 (w := 0xc05) rfl (by decide) rfl) (n := 12) (j := (35 * R9 + C9)) rfl (rw0.2 (25, 139, 33, 1295) (by decide)).2 hix hlt ?_
  have rw1 := RW.wr (k := 139) (j := (35 * R9 + C9)) (v := .long x) rw0 (Or.inl (by decide))
  refine g_loadA act (gx gp_256 (w := 0xd03) rfl (by decide) rfl) (a := 0) (n := 13) rfl rfl rfl ?_
  refine r_getf act (gx gp_256 (w := 0x3000689001004) rfl (by decide) rfl) (n := 16) (ci := 9) (j := 26) (N := 39) rfl rfl rfl rw1.1 (by decide) (rw1.2 (26, 140, 33, 1295) (by decide)).1 ?_
  refine g_constI act (gx gp_256 (w := 0x40000011c00000119000000001201) rfl (by decide) rfl) (n := 18) (x := (35 : Int32)) (by decide) rfl ?_
  refine g_loadI act (gx gp_256 (w := 0x1001302) rfl (by decide) rfl) (a := 1) (n := 19) rfl rfl rfl ?_
  refine g_imul act (gx gp_256 (w := 0x1411) rfl (by decide) rfl) (n := 20) rfl ?_
  refine g_loadI act (gx gp_256 (w := 0x2001502) rfl (by decide) rfl) (a := 2) (n := 21) rfl rfl rfl ?_
  refine g_iadd act (gx gp_256 (w := 0x160a) rfl (by decide) rfl) (n := 22) rfl ?_
  refine g_loadL act (gx gp_256 (w := 0x5001806) rfl (by decide) rfl) (a := 5) (n := 24) rfl rfl rfl ?_
  refine r_last act (gx gp_256 (w := 0x1905) rfl (by decide) rfl) (n := 25) (j := (35 * R9 + C9)) rfl (rw1.2 (26, 140, 33, 1295) (by decide)).2 hix hlt ?_
  have rw2 := RW.wr (k := 140) (j := (35 * R9 + C9)) (v := .long y) rw1 (Or.inl (by decide))
  exact g_retV hEnd (gx gp_256 (w := 0x18) rfl (by decide) rfl) ⟨rfl, rfl⟩ (by show kc ≤ kc + 0; omega) (by show ks ≤ ks + 0; omega)
theorem b_addsTo {g0 : GG} {bl : Nat} {xs : Nat → Int32} {l : Launch} {hs : List CE} {r c9 : Int32} {R9 C9 : Nat} {x y t0 w0 : Int64} {q1 q2 : Rat} (rw0 : RW hs) (hr : r.toInt = (R9 : Int)) (hc9 : c9.toInt = (C9 : Int)) (hlt : 35 * R9 + C9 < 1295) (e1 : rd hs 139 (35 * R9 + C9) = .long t0) (e2 : rd hs 140 (35 * R9 + C9) = .long w0) (hF1 : FR t0 w0 q1) (hF2 : FR x y q2) (hB1 : (t0.toInt.natAbs : Int) * y.toInt + (x.toInt.natAbs : Int) * w0.toInt < 9223372036854775808) (hB2 : (y.toInt.natAbs : Int) * w0.toInt < 9223372036854775808) : BodyN SSX TBL g0 CLS bl xs l D_177 3 85 0 0 [.ref 124, .int r, .int c9, .long x, .long y] hs (fun kd r h2 => kd = 0 ∧ ∃ t w : Int64, h2 = wr (wr (wr (wr hs 124 7 (.long t)) 124 8 (.long w)) 139 (35 * R9 + C9) (.long t)) 140 (35 * R9 + C9) (.long w) ∧ FR t w (q1 + q2)) := by
  intro wp p e R s m args below meth c Q kc0 ks0 kc ks act hf hl hc hsl hEnd
  have hix := idx35 hr hc9 hlt
  show WpN (gp g0 wp) CLS p l e R s m args below meth c Q D_177.2.2.1 kc0 ks0 0 [some (.ref 124), some (.int r), some (.int c9), some (.long x), none, some (.long y), none, none] (hs, kc, ks) []
  refine g_constI act (gx gp_177 (w := 0x40000011c00000119000000000201) rfl (by decide) rfl) (n := 2) (x := (35 : Int32)) (by decide) rfl ?_
  refine g_loadI act (gx gp_177 (w := 0x1000302) rfl (by decide) rfl) (a := 1) (n := 3) rfl rfl rfl ?_
  refine g_imul act (gx gp_177 (w := 0x411) rfl (by decide) rfl) (n := 4) rfl ?_
  refine g_loadI act (gx gp_177 (w := 0x2000502) rfl (by decide) rfl) (a := 2) (n := 5) rfl rfl rfl ?_
  refine g_iadd act (gx gp_177 (w := 0x60a) rfl (by decide) rfl) (n := 6) rfl ?_
  refine g_storeI act (gx gp_177 (w := 0x7000810) rfl (by decide) rfl) (a := 7) (n := 8) rfl rfl (L2 := [some (.ref 124), some (.int r), some (.int c9), some (.long x), none, some (.long y), none, some (.int (((35 : Int32) * r) + c9))]) rfl ?_
  refine g_loadA act (gx gp_177 (w := 0x903) rfl (by decide) rfl) (a := 0) (n := 9) rfl rfl rfl ?_
  refine g_loadA act (gx gp_177 (w := 0xa03) rfl (by decide) rfl) (a := 0) (n := 10) rfl rfl rfl ?_
  refine r_getf act (gx gp_177 (w := 0x3000649000d04) rfl (by decide) rfl) (n := 13) (ci := 9) (j := 25) (N := 39) rfl rfl rfl rw0.1 (by decide) (rw0.2 (25, 139, 33, 1295) (by decide)).1 ?_
  refine g_loadI act (gx gp_177 (w := 0x7000f02) rfl (by decide) rfl) (a := 7) (n := 15) rfl rfl rfl ?_
  refine r_lald act (gx gp_177 (w := 0x100d) rfl (by decide) rfl) (n := 16) (j := (35 * R9 + C9)) rfl (rw0.2 (25, 139, 33, 1295) (by decide)).2 hix hlt (v := .long t0) e1 ?_
  refine g_loadA act (gx gp_177 (w := 0x1103) rfl (by decide) rfl) (a := 0) (n := 17) rfl rfl rfl ?_
  refine r_getf act (gx gp_177 (w := 0x3000689001404) rfl (by decide) rfl) (n := 20) (ci := 9) (j := 26) (N := 39) rfl rfl rfl rw0.1 (by decide) (rw0.2 (26, 140, 33, 1295) (by decide)).1 ?_
  refine g_loadI act (gx gp_177 (w := 0x7001602) rfl (by decide) rfl) (a := 7) (n := 22) rfl rfl rfl ?_
  refine r_lald act (gx gp_177 (w := 0x170d) rfl (by decide) rfl) (n := 23) (j := (35 * R9 + C9)) rfl (rw0.2 (26, 140, 33, 1295) (by decide)).2 hix hlt (v := .long w0) e2 ?_
  refine g_loadL act (gx gp_177 (w := 0x3001806) rfl (by decide) rfl) (a := 3) (n := 24) rfl rfl rfl ?_
  refine g_loadL act (gx gp_177 (w := 0x5001a06) rfl (by decide) rfl) (a := 5) (n := 26) rfl rfl rfl ?_
  refine n_call tb_pres act hEnd (gx (P := G_call) gp_177 (w := 0xa00000000000082c950000fc001d0f) rfl (by decide) rfl) (d' := D_252) rfl (as := [.ref 124, .long t0, .long w0, .long x, .long y]) (rest := []) (b_plus rw0.1 hF1 hF2 hB1 hB2) (show (5 : Nat) = fb 0xa00000000000082c950000fc001d0f % 16 by decide) (by show (9 : Nat) ≤ 11; decide) (fun _ => ⟨_, _, rfl, _, shp_at rw0.1, Or.inr (show fb 0xa00000000000082c950000fc001d0f >>> 68 = 10 by decide)⟩) (by omega) (by show 8 + (11 + 11) + 55 ≤ R.locals; omega) (by show (0 : Nat) ≤ 8; decide) (by show kc + 0 ≤ _; omega) (by show ks + 0 ≤ _; omega) (fun r9 hs9 hpo hr9 => ?_) (fun x9 hs9 hx9 hpo => ?_)
  · obtain rfl : r9 = none := hr9.elim (fun q => q.2) (fun q => absurd rfl q.1)
    obtain ⟨-, t9, w9, rfl, hf9⟩ := hpo
    have rw1 := RW.wr (k := 124) (j := 7) (v := .long t9) rw0 (Or.inr (by decide))
    have rw2 := RW.wr (k := 124) (j := 8) (v := .long w9) rw1 (Or.inr (by decide))
    show WpN (gp g0 wp) CLS p l e R s m args below meth c Q D_177.2.2.1 kc0 ks0 29 [some (.ref 124), some (.int r), some (.int c9), some (.long x), none, some (.long y), none, some (.int (((35 : Int32) * r) + c9))] ((wr (wr hs 124 7 (.long t9)) 124 8 (.long w9)), kc, ks) []
    refine g_loadA act (gx gp_177 (w := 0x1e03) rfl (by decide) rfl) (a := 0) (n := 30) rfl rfl rfl ?_
    refine r_getf act (gx gp_177 (w := 0x3000649002104) rfl (by decide) rfl) (n := 33) (ci := 9) (j := 25) (N := 39) rfl rfl rfl rw2.1 (by decide) (rw2.2 (25, 139, 33, 1295) (by decide)).1 ?_
    refine g_loadI act (gx gp_177 (w := 0x7002302) rfl (by decide) rfl) (a := 7) (n := 35) rfl rfl rfl ?_
    refine g_loadA act (gx gp_177 (w := 0x2403) rfl (by decide) rfl) (a := 0) (n := 36) rfl rfl rfl ?_
    refine r_getf act (gx gp_177 (w := 0x20001c9002704) rfl (by decide) rfl) (n := 39) (ci := 9) (j := 7) (N := 39) rfl rfl rfl rw2.1 (by decide) (v := .long t9) (by first | (rw [rd_ne _ _ (Or.inl (by decide)), rd_ne _ _ (Or.inr (by decide))]; exact rd_same rw0.1) | (rw [rd_ne _ _ (Or.inr (by decide))]; exact rd_same rw0.1)) ?_
    refine r_last act (gx gp_177 (w := 0x2805) rfl (by decide) rfl) (n := 40) (j := (35 * R9 + C9)) rfl (rw2.2 (25, 139, 33, 1295) (by decide)).2 hix hlt ?_
    have rw3 := RW.wr (k := 139) (j := (35 * R9 + C9)) (v := .long t9) rw2 (Or.inl (by decide))
    refine g_loadA act (gx gp_177 (w := 0x2903) rfl (by decide) rfl) (a := 0) (n := 41) rfl rfl rfl ?_
    refine r_getf act (gx gp_177 (w := 0x3000689002c04) rfl (by decide) rfl) (n := 44) (ci := 9) (j := 26) (N := 39) rfl rfl rfl rw3.1 (by decide) (rw3.2 (26, 140, 33, 1295) (by decide)).1 ?_
    refine g_loadI act (gx gp_177 (w := 0x7002e02) rfl (by decide) rfl) (a := 7) (n := 46) rfl rfl rfl ?_
    refine g_loadA act (gx gp_177 (w := 0x2f03) rfl (by decide) rfl) (a := 0) (n := 47) rfl rfl rfl ?_
    refine r_getf act (gx gp_177 (w := 0x2000209003204) rfl (by decide) rfl) (n := 50) (ci := 9) (j := 8) (N := 39) rfl rfl rfl rw3.1 (by decide) (v := .long w9) (by first | (rw [rd_ne _ _ (Or.inl (by decide))]; exact rd_same (by rw [shp_wr]; exact rw0.1)) | exact rd_same (by rw [shp_wr]; exact rw0.1)) ?_
    refine r_last act (gx gp_177 (w := 0x3305) rfl (by decide) rfl) (n := 51) (j := (35 * R9 + C9)) rfl (rw3.2 (26, 140, 33, 1295) (by decide)).2 hix hlt ?_
    have rw4 := RW.wr (k := 140) (j := (35 * R9 + C9)) (v := .long w9) rw3 (Or.inl (by decide))
    exact g_retV hEnd (gx gp_177 (w := 0x18) rfl (by decide) rfl) ⟨rfl, t9, w9, rfl, hf9⟩ (by show kc ≤ kc + 0; omega) (by show ks ≤ ks + 0; omega)
  · exact absurd hpo.1 (by omega)
