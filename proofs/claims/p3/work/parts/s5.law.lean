/-! The law's branches of append, truncate, load. -/
theorem br_thrown {g0 : GG} {bl : Nat} {xs : Nat → Int32} {l : Launch} {hs : List CE} {x : Int32} (hk : shp hs 124 = some (9, 39)) (e0 : rd hs 124 0 = .int x) : BodyN SSX TBL g0 CLS bl xs l D_281 0 0 0 0 [.ref 124] hs (fun kd r h2 => kd = 0 ∧ hs = h2 ∧ r = some (.int x)) := by
  intro wp p e R s m args below meth c Q kc0 ks0 kc ks act hf hl hc hsl hEnd
  show WpN (gp g0 wp) CLS p l e R s m args below meth c Q D_281.2.2.1 kc0 ks0 0 [some (.ref 124)] (hs, kc, ks) []
  refine g_loadA act (gx gp_281 (w := 0x103) rfl (by decide) rfl) (a := 0) (n := 1) rfl rfl rfl ?_
  refine r_getf act (gx gp_281 (w := 0x9000404) rfl (by decide) rfl) (n := 4) (ci := 9) (j := 0) (N := 39) rfl rfl rfl hk (by decide) (v := .int x) e0 ?_
  exact g_retI hEnd (gx gp_281 (w := 0x2f) rfl (by decide) rfl) ⟨rfl, rfl, rfl⟩ (by show kc ≤ kc + 0; omega) (by show ks ≤ ks + 0; omega)
theorem pt_app {kc ks n n2 t : Nat} {A : Int} (h : PT kc ks n A t) (hn : n2 ≤ n + 1) : PT (kc + 1) (ks + 11) n2 (A + 20) (t + 1) := by
  obtain ⟨h1, h2, h3, h4⟩ := h
  exact ⟨by omega, by omega, by omega, fun q => by omega⟩
theorem pt_trc {kc ks n n2 t : Nat} {A A2 : Int} (h : PT kc ks n A t) (hn : n2 ≤ n + 1) (hA : A2 ≤ A) : PT (kc + 1) (ks + 11) n2 A2 (t + 1) := by
  obtain ⟨h1, h2, h3, h4⟩ := h
  exact ⟨by omega, by omega, by omega, fun q => by have := h4 (by omega); omega⟩
theorem pt_ld {kc ks n n2 t : Nat} {A : Int} (h : PT kc ks n A t) (hn : n2 ≤ n + 2302) (hA : 0 < A) : PT (kc + 2302) (ks + 25322) n2 0 (t + 1) := by
  obtain ⟨h1, h2, h3, h4⟩ := h
  have := h4 hA
  exact ⟨by omega, by omega, by omega, fun q => by omega⟩
theorem pt_ld0 {kc ks n n2 t : Nat} {A : Int} (h : PT kc ks n A t) (hn : n2 ≤ n + 23) : PT (kc + 23) (ks + 253) n2 0 (t + 1) := by
  obtain ⟨h1, h2, h3, h4⟩ := h
  exact ⟨by omega, by omega, by omega, fun q => by omega⟩
theorem b_ld1 {g0 : GG} {bl : Nat} {xs : Nat → Int32} {l : Launch} {hs : List CE} {R0 : List Nat} (hTY : TYg g0) (hT : HTy KC R0 hs) (hInv : InvC R0 hs) (hlen : hs.length + 2302 ≤ 6999999999999) (hkp : R0[0]? = some 1) (hko : R0[146]? = some 55) : BodyN SSX TBL g0 CLS bl xs l D_154 14 252 2302 25322 [.ref 0, .ref 146] hs (fun kd r h2 => kd = 0 ∧ (∃ x : Int32, r = some (.int x)) ∧ ∃ R2 : List Nat, HX KC InvC R0 hs R2 h2 ∧ h2.length ≤ hs.length + 2302 ∧ ∃ x : Int32, rd h2 54 0 = .int x ∧ x.toInt = 0) := by
  refine (sem_use (c := c154_0) (es := []) (vs := []) (ws := [.ref 0, .ref 146]) (sc154_0 handsC_KC) (d := D_154) rfl rfl rfl rfl (by decide) hTY hT hInv hlen (fun i hi => absurd hi (Nat.not_lt_zero _)) (Or.inl ⟨rfl, ⟨0, 1, rfl, hkp, by decide, by decide⟩, Or.inl ⟨rfl, ⟨146, 55, rfl, hko, by decide, by decide⟩, trivial⟩⟩)).imp ?_
  rintro kd r h2 ⟨R', pt, hm, hk, hX, hln, h1, hn, h0⟩
  obtain rfl := List.mem_singleton.mp hm
  obtain ⟨-, x, ex, x0, x1⟩ := h0 8 0 rfl
  exact ⟨hk.symm, h1 (1, 7, 0, 0) rfl rfl, R', hX, hln, x, ex, by have x0 : (0 : Int) + 0 ≤ x.toInt := x0; have x1 : x.toInt ≤ (0 : Int) + 0 := x1; omega⟩
theorem b_ld0 {g0 : GG} {bl : Nat} {xs : Nat → Int32} {l : Launch} {hs : List CE} {R0 : List Nat} {L9 : Int32} (hTY : TYg g0) (hT : HTy KC R0 hs) (hInv : InvC R0 hs) (hlen : hs.length + 23 ≤ 6999999999999) (hkp : R0[0]? = some 1) (hko : R0[146]? = some 55) (e0 : rd hs 54 0 = .int L9) (hL : L9.toInt = 0) : BodyN SSX TBL g0 CLS bl xs l D_154 13 223 23 253 [.ref 0, .ref 146] hs (fun kd r h2 => kd = 0 ∧ (∃ x : Int32, r = some (.int x)) ∧ ∃ R2 : List Nat, HX KC InvC R0 hs R2 h2 ∧ h2.length ≤ hs.length + 23 ∧ ∃ x : Int32, rd h2 54 0 = .int x ∧ x.toInt = 0) := by
  obtain ⟨d', hd', -, hb⟩ := se154_0 handsC_KC
  obtain rfl : D_154 = d' := Option.some.inj hd'
  obtain ⟨σ, s1, s2, s3, y, ey, sy⟩ := reg_sig hT [] [] rfl (fun i hi => absurd hi (Nat.not_lt_zero _))
  obtain rfl : L9 = y := by rw [ey] at e0; cases e0; rfl
  have sy : σ 0 = L9.toInt := sy
  have hA : AVs R0 e154_0.2.1.2.1 [.ref 0, .ref 146] [] 0 := Or.inl ⟨rfl, ⟨0, 1, rfl, hkp, by decide, by decide⟩, Or.inl ⟨rfl, ⟨146, 55, rfl, hko, by decide, by decide⟩, trivial⟩⟩
  have hE0 : EM e154_0.2.1.1 σ := fun s hs9 => by
    by_cases q : s = 0
    · subst q
      exact ⟨by show (0 : Int) ≤ σ 0; omega, by show σ 0 ≤ (0 : Int); omega, fun h => by cases h⟩
    · have := s2 s hs9
      obtain ⟨s', rfl⟩ : ∃ s', s = s' + 1 := ⟨s - 1, by omega⟩
      exact this
  refine (hb g0 bl xs l hs R0 σ _ hTY hT hInv hlen hE0 (hA.sv (n := 7) (fun j hj => absurd hj (Nat.not_lt_zero _)) (by decide)) s3).imp ?_
  rintro kd r h2 ⟨R', σ', pt, hm, hk, hX, hln, hσ, hpl, hE, hS, hRg⟩
  obtain rfl := List.mem_singleton.mp hm
  obtain ⟨v, S', e1, h2', h3⟩ := hS
  obtain ⟨x, rfl, -, -⟩ := h2'.int rfl
  obtain ⟨x', ex, -, hx'⟩ := (hRg 0 (6, 54, 0) (1, 8, 0, 0) rfl rfl).int rfl
  have ex : rd h2 54 0 = .int x' := ex
  have hx' : x'.toInt = σ' 8 + 0 := hx'
  have q := hE 8 (by decide)
  have q1 : (0 : Int) ≤ σ' 8 := q.1
  have q2 : σ' 8 ≤ (0 : Int) := q.2.1
  refine ⟨hk.symm, ⟨x, ?_⟩, R', hX, hln, x', ex, by omega⟩
  have h3 : S' = [] := h3
  subst h3
  cases r with
  | none => cases e1
  | some z => cases e1; rfl
section LAWC
variable {g0 : GG} {bl : Nat} {xs : Nat → Int32} {l : Launch} {wp : va_W} {p : Program} {e : Env} {R : Room} {s : State} {m : MethodId} {args : Array Value} {below : List Frame} {meth : Method} {c : Code} {Q : State → Prop} {kc0 ks0 KC9 KS9 kc ks t : Nat} {hs : List CE} {R0 : List Nat} {A : Int} {i : Int32} {v6 v7 v8 : Option Value}
theorem lb_220 (hTY : TYg g0) (act : Act SSX TBL (gp g0 wp) CLS bl xs D_0 p l s m args meth c) (hEnd : EndN SSX TBL (gp g0 wp) CLS D_0 p l e R s m args below meth c Q kc0 ks0 15 616 KC9 KS9 PE) (hf : 15 ≤ R.frames) (hl : 616 ≤ R.locals) (hc : 638008 ≤ R.cells + kc0) (hsl : 7182079 ≤ R.slots + ks0) (hI : LI hs R0 A A) (hP : PT kc ks hs.length A t) (ht : t ≤ 511) (hi : i.toInt = 6 * (t : Int)) (hib : i.toInt + 6 ≤ (bl : Int)) (K : ∀ (h2 : List CE) (R2 : List Nat) (A2 : Int) (kc2 ks2 : Nat) (v6 v7 v8 : Option Value), LI h2 R2 A2 A2 → PT kc2 ks2 h2.length A2 (t + 1) → WpN (gp g0 wp) CLS p l e R s m args below meth c Q D_0.2.2.1 kc0 ks0 1829 [some (.ref 7000000000003), some (.ref 0), some (.ref 124), some (.ref 146), some (.ref 147), some (.int i), v6, v7, v8] (h2, kc2, ks2) []) : WpN (gp g0 wp) CLS p l e R s m args below meth c Q D_0.2.2.1 kc0 ks0 220 [some (.ref 7000000000003), some (.ref 0), some (.ref 124), some (.ref 146), some (.ref 147), some (.int i), v6, v7, v8] (hs, kc, ks) [] := by
  have hTY9 : TYg (gp g0 wp) := hTY
  obtain ⟨p1, p2, p3, p4⟩ := id hP
  have j1 := i_k (i := i) (k := 1) (by omega) (by omega) (by decide) (by decide)
  have j2 := i_k (i := i) (k := 2) (by omega) (by omega) (by decide) (by decide)
  have j3 := i_k (i := i) (k := 3) (by omega) (by omega) (by decide) (by decide)
  have j4 := i_k (i := i) (k := 4) (by omega) (by omega) (by decide) (by decide)
  have j5 := i_k (i := i) (k := 5) (by omega) (by omega) (by decide) (by decide)
  rw [show (1 : Int32).toInt = 1 from rfl] at j1
  rw [show (2 : Int32).toInt = 2 from rfl] at j2
  rw [show (3 : Int32).toInt = 3 from rfl] at j3
  rw [show (4 : Int32).toInt = 4 from rfl] at j4
  rw [show (5 : Int32).toInt = 5 from rfl] at j5
  obtain ⟨L9, e0, eA⟩ := hI.2.2.2.2.2.2.2
  have hA0 : 0 ≤ A := by
    obtain ⟨tl, wl, pv, nl, n, ng, nr, np, hB, hPa, e6, h10, hN, hP9, hM, ⟨-, -, hL0, -⟩⟩ := hI.2.2.2.2.2.2.1
    exact hL0
  by_cases h20 : A + 20 ≤ 700
  · refine g_loadA act (gx gp_0 (w := 0x100dd03) rfl (by decide) rfl) (a := 1) (n := 221) rfl rfl rfl ?_
    refine g_loadA act (gx gp_0 (w := 0xde03) rfl (by decide) rfl) (a := 0) (n := 222) rfl rfl rfl ?_
    refine g_loadI act (gx gp_0 (w := 0x500e002) rfl (by decide) rfl) (a := 5) (n := 224) rfl rfl rfl ?_
    refine g_constI act (gx gp_0 (w := 0x40000000c0000000900000000e101) rfl (by decide) rfl) (n := 225) (x := (1 : Int32)) (by decide) rfl ?_
    refine g_iadd act (gx gp_0 (w := 0xe20a) rfl (by decide) rfl) (n := 226) rfl ?_
    refine g_sald act (gx gp_0 (w := 0xe31a) rfl (by decide) rfl) (n := 227) rfl (by omega) (by omega) ?_
    refine g_loadA act (gx gp_0 (w := 0xe403) rfl (by decide) rfl) (a := 0) (n := 228) rfl rfl rfl ?_
    refine g_loadI act (gx gp_0 (w := 0x500e602) rfl (by decide) rfl) (a := 5) (n := 230) rfl rfl rfl ?_
    refine g_constI act (gx gp_0 (w := 0x4000000140000001100000000e701) rfl (by decide) rfl) (n := 231) (x := (2 : Int32)) (by decide) rfl ?_
    refine g_iadd act (gx gp_0 (w := 0xe80a) rfl (by decide) rfl) (n := 232) rfl ?_
    refine g_sald act (gx gp_0 (w := 0xe91a) rfl (by decide) rfl) (n := 233) rfl (by omega) (by omega) ?_
    refine g_loadA act (gx gp_0 (w := 0xea03) rfl (by decide) rfl) (a := 0) (n := 234) rfl rfl rfl ?_
    refine g_loadI act (gx gp_0 (w := 0x500ec02) rfl (by decide) rfl) (a := 5) (n := 236) rfl rfl rfl ?_
    refine g_constI act (gx gp_0 (w := 0x40000001c0000001900000000ed01) rfl (by decide) rfl) (n := 237) (x := (3 : Int32)) (by decide) rfl ?_
    refine g_iadd act (gx gp_0 (w := 0xee0a) rfl (by decide) rfl) (n := 238) rfl ?_
    refine g_sald act (gx gp_0 (w := 0xef1a) rfl (by decide) rfl) (n := 239) rfl (by omega) (by omega) ?_
    refine g_loadA act (gx gp_0 (w := 0xf003) rfl (by decide) rfl) (a := 0) (n := 240) rfl rfl rfl ?_
    refine g_loadI act (gx gp_0 (w := 0x500f202) rfl (by decide) rfl) (a := 5) (n := 242) rfl rfl rfl ?_
    refine g_constI act (gx gp_0 (w := 0x4000000240000002100000000f301) rfl (by decide) rfl) (n := 243) (x := (4 : Int32)) (by decide) rfl ?_
    refine g_iadd act (gx gp_0 (w := 0xf40a) rfl (by decide) rfl) (n := 244) rfl ?_
    refine g_sald act (gx gp_0 (w := 0xf51a) rfl (by decide) rfl) (n := 245) rfl (by omega) (by omega) ?_
    refine g_loadA act (gx gp_0 (w := 0xf603) rfl (by decide) rfl) (a := 0) (n := 246) rfl rfl rfl ?_
    refine g_loadI act (gx gp_0 (w := 0x500f802) rfl (by decide) rfl) (a := 5) (n := 248) rfl rfl rfl ?_
    refine g_constI act (gx gp_0 (w := 0x40000002c0000002900000000f901) rfl (by decide) rfl) (n := 249) (x := (5 : Int32)) (by decide) rfl ?_
    refine g_iadd act (gx gp_0 (w := 0xfa0a) rfl (by decide) rfl) (n := 250) rfl ?_
    refine g_sald act (gx gp_0 (w := 0xfb1a) rfl (by decide) rfl) (n := 251) rfl (by omega) (by omega) ?_
    refine g_loadA act (gx gp_0 (w := 0x300fc03) rfl (by decide) rfl) (a := 3) (n := 252) rfl rfl rfl ?_
    refine n_call tb_pres act hEnd (gx (P := G_call) gp_0 (w := 0x400000000000004207700008b00ff0f) rfl (by decide) rfl) (d' := D_139) rfl (f' := 9) (lam' := 145) (mc := 1) (ms := 11) (as := [.ref 0, .int (xs (i + (1 : Int32)).toInt.toNat), .int (xs (i + (2 : Int32)).toInt.toNat), .int (xs (i + (3 : Int32)).toInt.toNat), .int (xs (i + (4 : Int32)).toInt.toNat), .int (xs (i + (5 : Int32)).toInt.toNat), .ref 146]) (rest := []) (b_wApp hTY9 hI.1 hI.2.1 (by show hs.length + 1 ≤ _; omega) hI.2.2.1 hI.2.2.2.2.1 e0) (show (7 : Nat) = fb 0x400000000000004207700008b00ff0f % 16 by decide) (by show (7 : Nat) ≤ 8; decide) (fun q => absurd q (by decide)) (by omega) (by show 8 + (8 + 11) + 145 ≤ R.locals; omega) (by show (0 : Nat) ≤ 8; decide) (by show kc + 1 ≤ _; omega) (by show ks + 11 ≤ _; omega) (fun r9 h2 hpo hr9 => ?_) (fun x9 hs9 hx9 hpo => ?_)
    · obtain ⟨-, R2, hX, hln, hcs⟩ := hpo
      obtain ⟨-, rfl, y6, eo, hy6, ey⟩ := hcs.resolve_right (fun z => by have := z.1; omega)
      have hI2 := hI.hx hX (A2 := A + 20) ⟨y6, ey, by omega⟩
      show WpN (gp g0 wp) CLS p l e R s m args below meth c Q D_0.2.2.1 kc0 ks0 255 [some (.ref 7000000000003), some (.ref 0), some (.ref 124), some (.ref 146), some (.ref 147), some (.int i), v6, v7, v8] (h2, kc + 1, ks + 11) [.int (0 : Int32)]
      refine g_storeI act (gx gp_0 (w := 0x6010110) rfl (by decide) rfl) (a := 6) (n := 257) rfl rfl (L2 := [some (.ref 7000000000003), some (.ref 0), some (.ref 124), some (.ref 146), some (.ref 147), some (.int i), some (.int (0 : Int32)), v7, v8]) rfl ?_
      refine g_loadA act (gx gp_0 (w := 0x2010203) rfl (by decide) rfl) (a := 2) (n := 258) rfl rfl rfl ?_
      refine g_loadA act (gx gp_0 (w := 0x10303) rfl (by decide) rfl) (a := 0) (n := 259) rfl rfl rfl ?_
      refine g_loadI act (gx gp_0 (w := 0x5010502) rfl (by decide) rfl) (a := 5) (n := 261) rfl rfl rfl ?_
      refine g_constI act (gx gp_0 (w := 0x40000000c00000009000000010601) rfl (by decide) rfl) (n := 262) (x := (1 : Int32)) (by decide) rfl ?_
      refine g_iadd act (gx gp_0 (w := 0x1070a) rfl (by decide) rfl) (n := 263) rfl ?_
      refine g_sald act (gx gp_0 (w := 0x1081a) rfl (by decide) rfl) (n := 264) rfl (by omega) (by omega) ?_
      refine g_loadA act (gx gp_0 (w := 0x10903) rfl (by decide) rfl) (a := 0) (n := 265) rfl rfl rfl ?_
      refine g_loadI act (gx gp_0 (w := 0x5010b02) rfl (by decide) rfl) (a := 5) (n := 267) rfl rfl rfl ?_
      refine g_constI act (gx gp_0 (w := 0x40000001400000011000000010c01) rfl (by decide) rfl) (n := 268) (x := (2 : Int32)) (by decide) rfl ?_
      refine g_iadd act (gx gp_0 (w := 0x10d0a) rfl (by decide) rfl) (n := 269) rfl ?_
      refine g_sald act (gx gp_0 (w := 0x10e1a) rfl (by decide) rfl) (n := 270) rfl (by omega) (by omega) ?_
      refine g_loadA act (gx gp_0 (w := 0x10f03) rfl (by decide) rfl) (a := 0) (n := 271) rfl rfl rfl ?_
      refine g_loadI act (gx gp_0 (w := 0x5011102) rfl (by decide) rfl) (a := 5) (n := 273) rfl rfl rfl ?_
      refine g_constI act (gx gp_0 (w := 0x40000001c00000019000000011201) rfl (by decide) rfl) (n := 274) (x := (3 : Int32)) (by decide) rfl ?_
      refine g_iadd act (gx gp_0 (w := 0x1130a) rfl (by decide) rfl) (n := 275) rfl ?_
      refine g_sald act (gx gp_0 (w := 0x1141a) rfl (by decide) rfl) (n := 276) rfl (by omega) (by omega) ?_
      refine g_loadA act (gx gp_0 (w := 0x11503) rfl (by decide) rfl) (a := 0) (n := 277) rfl rfl rfl ?_
      refine g_loadI act (gx gp_0 (w := 0x5011702) rfl (by decide) rfl) (a := 5) (n := 279) rfl rfl rfl ?_
      refine g_constI act (gx gp_0 (w := 0x40000002400000021000000011801) rfl (by decide) rfl) (n := 280) (x := (4 : Int32)) (by decide) rfl ?_
      refine g_iadd act (gx gp_0 (w := 0x1190a) rfl (by decide) rfl) (n := 281) rfl ?_
      refine g_sald act (gx gp_0 (w := 0x11a1a) rfl (by decide) rfl) (n := 282) rfl (by omega) (by omega) ?_
      refine g_loadA act (gx gp_0 (w := 0x11b03) rfl (by decide) rfl) (a := 0) (n := 283) rfl rfl rfl ?_
      refine g_loadI act (gx gp_0 (w := 0x5011d02) rfl (by decide) rfl) (a := 5) (n := 285) rfl rfl rfl ?_
      refine g_constI act (gx gp_0 (w := 0x40000002c00000029000000011e01) rfl (by decide) rfl) (n := 286) (x := (5 : Int32)) (by decide) rfl ?_
      refine g_iadd act (gx gp_0 (w := 0x11f0a) rfl (by decide) rfl) (n := 287) rfl ?_
      refine g_sald act (gx gp_0 (w := 0x1201a) rfl (by decide) rfl) (n := 288) rfl (by omega) (by omega) ?_
      obtain ⟨tl, wl, nl, n, ng, nr, hNW, hL1, hB, hM⟩ := num_use hI2
      have hs124 := hB.1.1
      refine n_call tb_pres act hEnd (gx (P := G_call) gp_0 (w := 0xa000000000000c18660000b401230f) rfl (by decide) rfl) (d' := D_180) rfl (f' := 1) (lam' := 22) (mc := 0) (ms := 0) (as := [.ref 124, .int (xs (i + (1 : Int32)).toInt.toNat), .int (xs (i + (2 : Int32)).toInt.toNat), .int (xs (i + (3 : Int32)).toInt.toNat), .int (xs (i + (4 : Int32)).toInt.toNat), .int (xs (i + (5 : Int32)).toInt.toNat)]) (rest := []) (br_append hI2.2.2.2.2.2.2.1) (show (6 : Nat) = fb 0xa000000000000c18660000b401230f % 16 by decide) (by show (6 : Nat) ≤ 6; decide) (fun _ => ⟨_, _, rfl, _, shp_at hs124, Or.inr (show fb 0xa000000000000c18660000b401230f >>> 68 = 10 by decide)⟩) (by omega) (by show 8 + (6 + 11) + 22 ≤ R.locals; omega) (by show (0 : Nat) ≤ 8; decide) (by show kc + 1 + 0 ≤ _; omega) (by show ks + 11 + 0 ≤ _; omega) (fun r9 h3 hpo hr9 => ?_) (fun x9 hs9 hx9 hpo => ?_)
      · obtain ⟨-, hcs2, f3⟩ := hpo
        obtain ⟨-, ⟨b7, rfl, hb7⟩, e3, hR3⟩ := hcs2.resolve_right (fun z => by have := z.1; omega)
        have hI3 := hI2.wr0 f3 hR3
        have ln3 : h3.length = h2.length := f3.1
        obtain rfl : y6 = b7 := i_same (by omega)
        show WpN (gp g0 wp) CLS p l e R s m args below meth c Q D_0.2.2.1 kc0 ks0 291 [some (.ref 7000000000003), some (.ref 0), some (.ref 124), some (.ref 146), some (.ref 147), some (.int i), some (.int (0 : Int32)), v7, v8] (h3, kc + 1, ks + 11) [.int y6]
        refine g_storeI act (gx gp_0 (w := 0x7012510) rfl (by decide) rfl) (a := 7) (n := 293) rfl rfl (L2 := [some (.ref 7000000000003), some (.ref 0), some (.ref 124), some (.ref 146), some (.ref 147), some (.int i), some (.int (0 : Int32)), some (.int y6), v8]) rfl ?_
        refine g_goto act (gx gp_0 (w := 0x72507) rfl (by decide) rfl) (n := 1829) rfl ?_
        exact K _ _ _ _ _ _ _ _ hI3 (pt_app hP (by rw [ln3]; exact hln))
      · exact absurd hpo.1 (by omega)
    · exact absurd hpo.1 (by omega)
  · refine g_loadA act (gx gp_0 (w := 0x100dd03) rfl (by decide) rfl) (a := 1) (n := 221) rfl rfl rfl ?_
    refine g_loadA act (gx gp_0 (w := 0xde03) rfl (by decide) rfl) (a := 0) (n := 222) rfl rfl rfl ?_
    refine g_loadI act (gx gp_0 (w := 0x500e002) rfl (by decide) rfl) (a := 5) (n := 224) rfl rfl rfl ?_
    refine g_constI act (gx gp_0 (w := 0x40000000c0000000900000000e101) rfl (by decide) rfl) (n := 225) (x := (1 : Int32)) (by decide) rfl ?_
    refine g_iadd act (gx gp_0 (w := 0xe20a) rfl (by decide) rfl) (n := 226) rfl ?_
    refine g_sald act (gx gp_0 (w := 0xe31a) rfl (by decide) rfl) (n := 227) rfl (by omega) (by omega) ?_
    refine g_loadA act (gx gp_0 (w := 0xe403) rfl (by decide) rfl) (a := 0) (n := 228) rfl rfl rfl ?_
    refine g_loadI act (gx gp_0 (w := 0x500e602) rfl (by decide) rfl) (a := 5) (n := 230) rfl rfl rfl ?_
    refine g_constI act (gx gp_0 (w := 0x4000000140000001100000000e701) rfl (by decide) rfl) (n := 231) (x := (2 : Int32)) (by decide) rfl ?_
    refine g_iadd act (gx gp_0 (w := 0xe80a) rfl (by decide) rfl) (n := 232) rfl ?_
    refine g_sald act (gx gp_0 (w := 0xe91a) rfl (by decide) rfl) (n := 233) rfl (by omega) (by omega) ?_
    refine g_loadA act (gx gp_0 (w := 0xea03) rfl (by decide) rfl) (a := 0) (n := 234) rfl rfl rfl ?_
    refine g_loadI act (gx gp_0 (w := 0x500ec02) rfl (by decide) rfl) (a := 5) (n := 236) rfl rfl rfl ?_
    refine g_constI act (gx gp_0 (w := 0x40000001c0000001900000000ed01) rfl (by decide) rfl) (n := 237) (x := (3 : Int32)) (by decide) rfl ?_
    refine g_iadd act (gx gp_0 (w := 0xee0a) rfl (by decide) rfl) (n := 238) rfl ?_
    refine g_sald act (gx gp_0 (w := 0xef1a) rfl (by decide) rfl) (n := 239) rfl (by omega) (by omega) ?_
    refine g_loadA act (gx gp_0 (w := 0xf003) rfl (by decide) rfl) (a := 0) (n := 240) rfl rfl rfl ?_
    refine g_loadI act (gx gp_0 (w := 0x500f202) rfl (by decide) rfl) (a := 5) (n := 242) rfl rfl rfl ?_
    refine g_constI act (gx gp_0 (w := 0x4000000240000002100000000f301) rfl (by decide) rfl) (n := 243) (x := (4 : Int32)) (by decide) rfl ?_
    refine g_iadd act (gx gp_0 (w := 0xf40a) rfl (by decide) rfl) (n := 244) rfl ?_
    refine g_sald act (gx gp_0 (w := 0xf51a) rfl (by decide) rfl) (n := 245) rfl (by omega) (by omega) ?_
    refine g_loadA act (gx gp_0 (w := 0xf603) rfl (by decide) rfl) (a := 0) (n := 246) rfl rfl rfl ?_
    refine g_loadI act (gx gp_0 (w := 0x500f802) rfl (by decide) rfl) (a := 5) (n := 248) rfl rfl rfl ?_
    refine g_constI act (gx gp_0 (w := 0x40000002c0000002900000000f901) rfl (by decide) rfl) (n := 249) (x := (5 : Int32)) (by decide) rfl ?_
    refine g_iadd act (gx gp_0 (w := 0xfa0a) rfl (by decide) rfl) (n := 250) rfl ?_
    refine g_sald act (gx gp_0 (w := 0xfb1a) rfl (by decide) rfl) (n := 251) rfl (by omega) (by omega) ?_
    refine g_loadA act (gx gp_0 (w := 0x300fc03) rfl (by decide) rfl) (a := 3) (n := 252) rfl rfl rfl ?_
    refine n_call tb_pres act hEnd (gx (P := G_call) gp_0 (w := 0x400000000000004207700008b00ff0f) rfl (by decide) rfl) (d' := D_139) rfl (f' := 9) (lam' := 145) (mc := 1) (ms := 11) (as := [.ref 0, .int (xs (i + (1 : Int32)).toInt.toNat), .int (xs (i + (2 : Int32)).toInt.toNat), .int (xs (i + (3 : Int32)).toInt.toNat), .int (xs (i + (4 : Int32)).toInt.toNat), .int (xs (i + (5 : Int32)).toInt.toNat), .ref 146]) (rest := []) (b_wApp hTY9 hI.1 hI.2.1 (by show hs.length + 1 ≤ _; omega) hI.2.2.1 hI.2.2.2.2.1 e0) (show (7 : Nat) = fb 0x400000000000004207700008b00ff0f % 16 by decide) (by show (7 : Nat) ≤ 8; decide) (fun q => absurd q (by decide)) (by omega) (by show 8 + (8 + 11) + 145 ≤ R.locals; omega) (by show (0 : Nat) ≤ 8; decide) (by show kc + 1 ≤ _; omega) (by show ks + 11 ≤ _; omega) (fun r9 h2 hpo hr9 => ?_) (fun x9 hs9 hx9 hpo => ?_)
    · obtain ⟨-, R2, hX, hln, hcs⟩ := hpo
      obtain ⟨-, rfl, ey⟩ := hcs.resolve_left (fun z => by have := z.1; omega)
      have hI2 := hI.hx hX (A2 := A) ⟨L9, ey, eA⟩
      show WpN (gp g0 wp) CLS p l e R s m args below meth c Q D_0.2.2.1 kc0 ks0 255 [some (.ref 7000000000003), some (.ref 0), some (.ref 124), some (.ref 146), some (.ref 147), some (.int i), v6, v7, v8] (h2, kc + 1, ks + 11) [.int (1 : Int32)]
      refine g_storeI act (gx gp_0 (w := 0x6010110) rfl (by decide) rfl) (a := 6) (n := 257) rfl rfl (L2 := [some (.ref 7000000000003), some (.ref 0), some (.ref 124), some (.ref 146), some (.ref 147), some (.int i), some (.int (1 : Int32)), v7, v8]) rfl ?_
      refine g_loadA act (gx gp_0 (w := 0x2010203) rfl (by decide) rfl) (a := 2) (n := 258) rfl rfl rfl ?_
      refine g_loadA act (gx gp_0 (w := 0x10303) rfl (by decide) rfl) (a := 0) (n := 259) rfl rfl rfl ?_
      refine g_loadI act (gx gp_0 (w := 0x5010502) rfl (by decide) rfl) (a := 5) (n := 261) rfl rfl rfl ?_
      refine g_constI act (gx gp_0 (w := 0x40000000c00000009000000010601) rfl (by decide) rfl) (n := 262) (x := (1 : Int32)) (by decide) rfl ?_
      refine g_iadd act (gx gp_0 (w := 0x1070a) rfl (by decide) rfl) (n := 263) rfl ?_
      refine g_sald act (gx gp_0 (w := 0x1081a) rfl (by decide) rfl) (n := 264) rfl (by omega) (by omega) ?_
      refine g_loadA act (gx gp_0 (w := 0x10903) rfl (by decide) rfl) (a := 0) (n := 265) rfl rfl rfl ?_
      refine g_loadI act (gx gp_0 (w := 0x5010b02) rfl (by decide) rfl) (a := 5) (n := 267) rfl rfl rfl ?_
      refine g_constI act (gx gp_0 (w := 0x40000001400000011000000010c01) rfl (by decide) rfl) (n := 268) (x := (2 : Int32)) (by decide) rfl ?_
      refine g_iadd act (gx gp_0 (w := 0x10d0a) rfl (by decide) rfl) (n := 269) rfl ?_
      refine g_sald act (gx gp_0 (w := 0x10e1a) rfl (by decide) rfl) (n := 270) rfl (by omega) (by omega) ?_
      refine g_loadA act (gx gp_0 (w := 0x10f03) rfl (by decide) rfl) (a := 0) (n := 271) rfl rfl rfl ?_
      refine g_loadI act (gx gp_0 (w := 0x5011102) rfl (by decide) rfl) (a := 5) (n := 273) rfl rfl rfl ?_
      refine g_constI act (gx gp_0 (w := 0x40000001c00000019000000011201) rfl (by decide) rfl) (n := 274) (x := (3 : Int32)) (by decide) rfl ?_
      refine g_iadd act (gx gp_0 (w := 0x1130a) rfl (by decide) rfl) (n := 275) rfl ?_
      refine g_sald act (gx gp_0 (w := 0x1141a) rfl (by decide) rfl) (n := 276) rfl (by omega) (by omega) ?_
      refine g_loadA act (gx gp_0 (w := 0x11503) rfl (by decide) rfl) (a := 0) (n := 277) rfl rfl rfl ?_
      refine g_loadI act (gx gp_0 (w := 0x5011702) rfl (by decide) rfl) (a := 5) (n := 279) rfl rfl rfl ?_
      refine g_constI act (gx gp_0 (w := 0x40000002400000021000000011801) rfl (by decide) rfl) (n := 280) (x := (4 : Int32)) (by decide) rfl ?_
      refine g_iadd act (gx gp_0 (w := 0x1190a) rfl (by decide) rfl) (n := 281) rfl ?_
      refine g_sald act (gx gp_0 (w := 0x11a1a) rfl (by decide) rfl) (n := 282) rfl (by omega) (by omega) ?_
      refine g_loadA act (gx gp_0 (w := 0x11b03) rfl (by decide) rfl) (a := 0) (n := 283) rfl rfl rfl ?_
      refine g_loadI act (gx gp_0 (w := 0x5011d02) rfl (by decide) rfl) (a := 5) (n := 285) rfl rfl rfl ?_
      refine g_constI act (gx gp_0 (w := 0x40000002c00000029000000011e01) rfl (by decide) rfl) (n := 286) (x := (5 : Int32)) (by decide) rfl ?_
      refine g_iadd act (gx gp_0 (w := 0x11f0a) rfl (by decide) rfl) (n := 287) rfl ?_
      refine g_sald act (gx gp_0 (w := 0x1201a) rfl (by decide) rfl) (n := 288) rfl (by omega) (by omega) ?_
      obtain ⟨tl, wl, nl, n, ng, nr, hNW, hL1, hB, hM⟩ := num_use hI2
      have hs124 := hB.1.1
      refine n_call tb_pres act hEnd (gx (P := G_call) gp_0 (w := 0xa000000000000c18660000b401230f) rfl (by decide) rfl) (d' := D_180) rfl (f' := 1) (lam' := 22) (mc := 0) (ms := 0) (as := [.ref 124, .int (xs (i + (1 : Int32)).toInt.toNat), .int (xs (i + (2 : Int32)).toInt.toNat), .int (xs (i + (3 : Int32)).toInt.toNat), .int (xs (i + (4 : Int32)).toInt.toNat), .int (xs (i + (5 : Int32)).toInt.toNat)]) (rest := []) (br_append hI2.2.2.2.2.2.2.1) (show (6 : Nat) = fb 0xa000000000000c18660000b401230f % 16 by decide) (by show (6 : Nat) ≤ 6; decide) (fun _ => ⟨_, _, rfl, _, shp_at hs124, Or.inr (show fb 0xa000000000000c18660000b401230f >>> 68 = 10 by decide)⟩) (by omega) (by show 8 + (6 + 11) + 22 ≤ R.locals; omega) (by show (0 : Nat) ≤ 8; decide) (by show kc + 1 + 0 ≤ _; omega) (by show ks + 11 + 0 ≤ _; omega) (fun r9 h3 hpo hr9 => ?_) (fun x9 hs9 hx9 hpo => ?_)
      · obtain ⟨-, hcs2, f3⟩ := hpo
        obtain ⟨-, rfl, e3, hR3⟩ := hcs2.resolve_left (fun z => by have := z.1; omega)
        have hI3 := hI2.wr0 f3 hR3
        have ln3 : h3.length = h2.length := f3.1
        show WpN (gp g0 wp) CLS p l e R s m args below meth c Q D_0.2.2.1 kc0 ks0 291 [some (.ref 7000000000003), some (.ref 0), some (.ref 124), some (.ref 146), some (.ref 147), some (.int i), some (.int (1 : Int32)), v7, v8] (h3, kc + 1, ks + 11) [.int (0 : Int32)]
        refine g_storeI act (gx gp_0 (w := 0x7012510) rfl (by decide) rfl) (a := 7) (n := 293) rfl rfl (L2 := [some (.ref 7000000000003), some (.ref 0), some (.ref 124), some (.ref 146), some (.ref 147), some (.int i), some (.int (1 : Int32)), some (.int (0 : Int32)), v8]) rfl ?_
        refine g_goto act (gx gp_0 (w := 0x72507) rfl (by decide) rfl) (n := 1829) rfl ?_
        exact K _ _ _ _ _ _ _ _ hI3 (pt_step hP (by decide) (by decide) (by rw [ln3]; exact hln))
      · exact absurd hpo.1 (by omega)
    · exact absurd hpo.1 (by omega)

theorem lb_296 (hTY : TYg g0) (act : Act SSX TBL (gp g0 wp) CLS bl xs D_0 p l s m args meth c) (hEnd : EndN SSX TBL (gp g0 wp) CLS D_0 p l e R s m args below meth c Q kc0 ks0 15 616 KC9 KS9 PE) (hf : 15 ≤ R.frames) (hl : 616 ≤ R.locals) (hc : 638008 ≤ R.cells + kc0) (hsl : 7182079 ≤ R.slots + ks0) (hI : LI hs R0 A A) (hP : PT kc ks hs.length A t) (ht : t ≤ 511) (hi : i.toInt = 6 * (t : Int)) (hib : i.toInt + 6 ≤ (bl : Int)) (K : ∀ (h2 : List CE) (R2 : List Nat) (A2 : Int) (kc2 ks2 : Nat) (v6 v7 v8 : Option Value), LI h2 R2 A2 A2 → PT kc2 ks2 h2.length A2 (t + 1) → WpN (gp g0 wp) CLS p l e R s m args below meth c Q D_0.2.2.1 kc0 ks0 1829 [some (.ref 7000000000003), some (.ref 0), some (.ref 124), some (.ref 146), some (.ref 147), some (.int i), v6, v7, v8] (h2, kc2, ks2) []) : WpN (gp g0 wp) CLS p l e R s m args below meth c Q D_0.2.2.1 kc0 ks0 296 [some (.ref 7000000000003), some (.ref 0), some (.ref 124), some (.ref 146), some (.ref 147), some (.int i), v6, v7, v8] (hs, kc, ks) [] := by
  have hTY9 : TYg (gp g0 wp) := hTY
  obtain ⟨p1, p2, p3, p4⟩ := id hP
  have j1 := i_k (i := i) (k := 1) (by omega) (by omega) (by decide) (by decide)
  have j2 := i_k (i := i) (k := 2) (by omega) (by omega) (by decide) (by decide)
  have j3 := i_k (i := i) (k := 3) (by omega) (by omega) (by decide) (by decide)
  have j4 := i_k (i := i) (k := 4) (by omega) (by omega) (by decide) (by decide)
  have j5 := i_k (i := i) (k := 5) (by omega) (by omega) (by decide) (by decide)
  rw [show (1 : Int32).toInt = 1 from rfl] at j1
  rw [show (2 : Int32).toInt = 2 from rfl] at j2
  rw [show (3 : Int32).toInt = 3 from rfl] at j3
  rw [show (4 : Int32).toInt = 4 from rfl] at j4
  rw [show (5 : Int32).toInt = 5 from rfl] at j5
  obtain ⟨L9, e0, eA⟩ := hI.2.2.2.2.2.2.2
  have hA0 : 0 ≤ A := by
    obtain ⟨tl, wl, pv, nl, n, ng, nr, np, hB, hPa, e6, h10, hN, hP9, hM, ⟨-, -, hL0, -⟩⟩ := hI.2.2.2.2.2.2.1
    exact hL0
  by_cases h20 : 0 ≤ (xs (i + (1 : Int32)).toInt.toNat).toInt ∧ (xs (i + (1 : Int32)).toInt.toNat).toInt ≤ A
  · refine g_loadA act (gx gp_0 (w := 0x1012903) rfl (by decide) rfl) (a := 1) (n := 297) rfl rfl rfl ?_
    refine g_loadA act (gx gp_0 (w := 0x12a03) rfl (by decide) rfl) (a := 0) (n := 298) rfl rfl rfl ?_
    refine g_loadI act (gx gp_0 (w := 0x5012c02) rfl (by decide) rfl) (a := 5) (n := 300) rfl rfl rfl ?_
    refine g_constI act (gx gp_0 (w := 0x40000000c00000009000000012d01) rfl (by decide) rfl) (n := 301) (x := (1 : Int32)) (by decide) rfl ?_
    refine g_iadd act (gx gp_0 (w := 0x12e0a) rfl (by decide) rfl) (n := 302) rfl ?_
    refine g_sald act (gx gp_0 (w := 0x12f1a) rfl (by decide) rfl) (n := 303) rfl (by omega) (by omega) ?_
    refine g_loadA act (gx gp_0 (w := 0x3013003) rfl (by decide) rfl) (a := 3) (n := 304) rfl rfl rfl ?_
    refine n_call tb_pres act hEnd (gx (P := G_call) gp_0 (w := 0x40000000000000410330000ad01330f) rfl (by decide) rfl) (d' := D_173) rfl (f' := 9) (lam' := 141) (mc := 1) (ms := 11) (as := [.ref 0, .int (xs (i + (1 : Int32)).toInt.toNat), .ref 146]) (rest := []) (b_wTrc hTY9 hI.1 hI.2.1 (by show hs.length + 1 ≤ _; omega) hI.2.2.1 hI.2.2.2.2.1 e0) (show (3 : Nat) = fb 0x40000000000000410330000ad01330f % 16 by decide) (by show (3 : Nat) ≤ 4; decide) (fun q => absurd q (by decide)) (by omega) (by show 8 + (4 + 11) + 141 ≤ R.locals; omega) (by show (0 : Nat) ≤ 8; decide) (by show kc + 1 ≤ _; omega) (by show ks + 11 ≤ _; omega) (fun r9 h2 hpo hr9 => ?_) (fun x9 hs9 hx9 hpo => ?_)
    · obtain ⟨-, R2, hX, hln, hcs⟩ := hpo
      obtain ⟨-, rfl, eo, ey⟩ := hcs.resolve_right (fun z => z.1 (by omega))
      have hI2 := hI.hx hX (A2 := (xs (i + (1 : Int32)).toInt.toNat).toInt) ⟨_, ey, rfl⟩
      show WpN (gp g0 wp) CLS p l e R s m args below meth c Q D_0.2.2.1 kc0 ks0 307 [some (.ref 7000000000003), some (.ref 0), some (.ref 124), some (.ref 146), some (.ref 147), some (.int i), v6, v7, v8] (h2, kc + 1, ks + 11) [.int (0 : Int32)]
      refine g_storeI act (gx gp_0 (w := 0x6013510) rfl (by decide) rfl) (a := 6) (n := 309) rfl rfl (L2 := [some (.ref 7000000000003), some (.ref 0), some (.ref 124), some (.ref 146), some (.ref 147), some (.int i), some (.int (0 : Int32)), v7, v8]) rfl ?_
      refine g_loadA act (gx gp_0 (w := 0x2013603) rfl (by decide) rfl) (a := 2) (n := 310) rfl rfl rfl ?_
      refine g_loadA act (gx gp_0 (w := 0x13703) rfl (by decide) rfl) (a := 0) (n := 311) rfl rfl rfl ?_
      refine g_loadI act (gx gp_0 (w := 0x5013902) rfl (by decide) rfl) (a := 5) (n := 313) rfl rfl rfl ?_
      refine g_constI act (gx gp_0 (w := 0x40000000c00000009000000013a01) rfl (by decide) rfl) (n := 314) (x := (1 : Int32)) (by decide) rfl ?_
      refine g_iadd act (gx gp_0 (w := 0x13b0a) rfl (by decide) rfl) (n := 315) rfl ?_
      refine g_sald act (gx gp_0 (w := 0x13c1a) rfl (by decide) rfl) (n := 316) rfl (by omega) (by omega) ?_
      obtain ⟨tl, wl, nl, n, ng, nr, hNW, hL1, hB, hM⟩ := num_use hI2
      have hs124 := hB.1.1
      refine n_call tb_pres act hEnd (gx (P := G_call) gp_0 (w := 0xa000000000000c082200011c013f0f) rfl (by decide) rfl) (d' := D_284) rfl (f' := 1) (lam' := 22) (mc := 0) (ms := 0) (as := [.ref 124, .int (xs (i + (1 : Int32)).toInt.toNat)]) (rest := []) (br_truncate hI2.2.2.2.2.2.2.1) (show (2 : Nat) = fb 0xa000000000000c082200011c013f0f % 16 by decide) (by show (2 : Nat) ≤ 2; decide) (fun _ => ⟨_, _, rfl, _, shp_at hs124, Or.inr (show fb 0xa000000000000c082200011c013f0f >>> 68 = 10 by decide)⟩) (by omega) (by show 8 + (2 + 11) + 22 ≤ R.locals; omega) (by show (0 : Nat) ≤ 8; decide) (by show kc + 1 + 0 ≤ _; omega) (by show ks + 11 + 0 ≤ _; omega) (fun r9 h3 hpo hr9 => ?_) (fun x9 hs9 hx9 hpo => ?_)
      · obtain ⟨-, hcs2, f3⟩ := hpo
        obtain ⟨-, ⟨b7, rfl, hb7⟩, e3, hR3⟩ := hcs2.resolve_right (fun z => z.1 h20)
        obtain rfl : b7 = xs (i + (1 : Int32)).toInt.toNat := i_same hb7
        have hI3 := hI2.wr0 f3 hR3
        have ln3 : h3.length = h2.length := f3.1
        show WpN (gp g0 wp) CLS p l e R s m args below meth c Q D_0.2.2.1 kc0 ks0 319 [some (.ref 7000000000003), some (.ref 0), some (.ref 124), some (.ref 146), some (.ref 147), some (.int i), some (.int (0 : Int32)), v7, v8] (h3, kc + 1, ks + 11) [.int (xs (i + (1 : Int32)).toInt.toNat)]
        refine g_storeI act (gx gp_0 (w := 0x7014110) rfl (by decide) rfl) (a := 7) (n := 321) rfl rfl (L2 := [some (.ref 7000000000003), some (.ref 0), some (.ref 124), some (.ref 146), some (.ref 147), some (.int i), some (.int (0 : Int32)), some (.int (xs (i + (1 : Int32)).toInt.toNat)), v8]) rfl ?_
        refine g_loadA act (gx gp_0 (w := 0x2014203) rfl (by decide) rfl) (a := 2) (n := 322) rfl rfl rfl ?_
        refine n_call tb_pres act hEnd (gx (P := G_call) gp_0 (w := 0xa000000000000c041100011901450f) rfl (by decide) rfl) (d' := D_281) rfl (f' := 0) (lam' := 0) (mc := 0) (ms := 0) (as := [.ref 124]) (rest := []) (br_thrown ((f3.2.1 124).trans hs124) e3) (show (1 : Nat) = fb 0xa000000000000c041100011901450f % 16 by decide) (by show (1 : Nat) ≤ 1; decide) (fun _ => ⟨_, _, rfl, _, shp_at ((f3.2.1 124).trans hs124), Or.inr (show fb 0xa000000000000c041100011901450f >>> 68 = 10 by decide)⟩) (by omega) (by show 8 + (1 + 11) + 0 ≤ R.locals; omega) (by show (0 : Nat) ≤ 8; decide) (by show kc + 1 + 0 ≤ _; omega) (by show ks + 11 + 0 ≤ _; omega) (fun r9 hs9 hpo hr9 => ?_) (fun x9 hs9 hx9 hpo => ?_)
        · obtain ⟨-, rfl, rfl⟩ := hpo
          show WpN (gp g0 wp) CLS p l e R s m args below meth c Q D_0.2.2.1 kc0 ks0 325 [some (.ref 7000000000003), some (.ref 0), some (.ref 124), some (.ref 146), some (.ref 147), some (.int i), some (.int (0 : Int32)), some (.int (xs (i + (1 : Int32)).toInt.toNat)), v8] (h3, kc + 1, ks + 11) [.int (0 : Int32)]
          refine g_loadI act (gx gp_0 (w := 0x6014702) rfl (by decide) rfl) (a := 6) (n := 327) rfl rfl rfl ?_
          refine g_icmpEq act (gx gp_0 (w := 0x14c014a2e) rfl (by decide) rfl) (tgt := 332) (n := 330) rfl rfl (fun _ => ?_) (fun q => absurd rfl q)
          refine g_loadI act (gx gp_0 (w := 0x6014e02) rfl (by decide) rfl) (a := 6) (n := 334) rfl rfl rfl ?_
          refine g_ifNe act (gx gp_0 (w := 0x15d01511d) rfl (by decide) rfl) (tgt := 349) (n := 337) rfl rfl (fun q => absurd q (by decide)) (fun _ => ?_)
          refine g_loadA act (gx gp_0 (w := 0x3015203) rfl (by decide) rfl) (a := 3) (n := 338) rfl rfl rfl ?_
          refine g_constI act (gx gp_0 (w := 0x40000000400000001000000015301) rfl (by decide) rfl) (n := 339) (x := (0 : Int32)) (by decide) rfl ?_
          refine r_lald act (gx gp_0 (w := 0x1540d) rfl (by decide) rfl) (n := 340) (N := 1) (j := 0) rfl (ty_shp hI3.1 hI3.2.2.2.2.1 (by decide) (a := 33) (b := 1) rfl rfl) rfl (by decide) (v := .long (xs (i + (1 : Int32)).toInt.toNat).toInt64) ((f3.2.2 146 0 (by unfold WR0; omega)).trans eo) ?_
          refine g_loadI act (gx gp_0 (w := 0x7015602) rfl (by decide) rfl) (a := 7) (n := 342) rfl rfl rfl ?_
          refine g_i2l act (gx gp_0 (w := 0x1572c) rfl (by decide) rfl) (n := 343) rfl ?_
          refine g_lcmp act (gx gp_0 (w := 0x1580c) rfl (by decide) rfl) (n := 344) rfl ?_
          refine g_ifEq act (gx gp_0 (w := 0x15d015b0e) rfl (by decide) rfl) (tgt := 349) (n := 347) rfl rfl (fun _ => ?_) (fun q => absurd (cmpEq.mpr rfl) q)
          refine g_goto act (gx gp_0 (w := 0x72507) rfl (by decide) rfl) (n := 1829) rfl ?_
          exact K _ _ _ _ _ _ _ _ hI3 (pt_trc hP (by rw [ln3]; exact hln) h20.2)
        · exact absurd hpo.1 (by omega)
      · exact absurd hpo.1 (by omega)
    · exact absurd hpo.1 (by omega)
  · refine g_loadA act (gx gp_0 (w := 0x1012903) rfl (by decide) rfl) (a := 1) (n := 297) rfl rfl rfl ?_
    refine g_loadA act (gx gp_0 (w := 0x12a03) rfl (by decide) rfl) (a := 0) (n := 298) rfl rfl rfl ?_
    refine g_loadI act (gx gp_0 (w := 0x5012c02) rfl (by decide) rfl) (a := 5) (n := 300) rfl rfl rfl ?_
    refine g_constI act (gx gp_0 (w := 0x40000000c00000009000000012d01) rfl (by decide) rfl) (n := 301) (x := (1 : Int32)) (by decide) rfl ?_
    refine g_iadd act (gx gp_0 (w := 0x12e0a) rfl (by decide) rfl) (n := 302) rfl ?_
    refine g_sald act (gx gp_0 (w := 0x12f1a) rfl (by decide) rfl) (n := 303) rfl (by omega) (by omega) ?_
    refine g_loadA act (gx gp_0 (w := 0x3013003) rfl (by decide) rfl) (a := 3) (n := 304) rfl rfl rfl ?_
    refine n_call tb_pres act hEnd (gx (P := G_call) gp_0 (w := 0x40000000000000410330000ad01330f) rfl (by decide) rfl) (d' := D_173) rfl (f' := 9) (lam' := 141) (mc := 1) (ms := 11) (as := [.ref 0, .int (xs (i + (1 : Int32)).toInt.toNat), .ref 146]) (rest := []) (b_wTrc hTY9 hI.1 hI.2.1 (by show hs.length + 1 ≤ _; omega) hI.2.2.1 hI.2.2.2.2.1 e0) (show (3 : Nat) = fb 0x40000000000000410330000ad01330f % 16 by decide) (by show (3 : Nat) ≤ 4; decide) (fun q => absurd q (by decide)) (by omega) (by show 8 + (4 + 11) + 141 ≤ R.locals; omega) (by show (0 : Nat) ≤ 8; decide) (by show kc + 1 ≤ _; omega) (by show ks + 11 ≤ _; omega) (fun r9 h2 hpo hr9 => ?_) (fun x9 hs9 hx9 hpo => ?_)
    · obtain ⟨-, R2, hX, hln, hcs⟩ := hpo
      obtain ⟨-, rfl, ey⟩ := hcs.resolve_left (fun z => h20 (by have := z.1; omega))
      have hI2 := hI.hx hX (A2 := A) ⟨L9, ey, eA⟩
      show WpN (gp g0 wp) CLS p l e R s m args below meth c Q D_0.2.2.1 kc0 ks0 307 [some (.ref 7000000000003), some (.ref 0), some (.ref 124), some (.ref 146), some (.ref 147), some (.int i), v6, v7, v8] (h2, kc + 1, ks + 11) [.int (1 : Int32)]
      refine g_storeI act (gx gp_0 (w := 0x6013510) rfl (by decide) rfl) (a := 6) (n := 309) rfl rfl (L2 := [some (.ref 7000000000003), some (.ref 0), some (.ref 124), some (.ref 146), some (.ref 147), some (.int i), some (.int (1 : Int32)), v7, v8]) rfl ?_
      refine g_loadA act (gx gp_0 (w := 0x2013603) rfl (by decide) rfl) (a := 2) (n := 310) rfl rfl rfl ?_
      refine g_loadA act (gx gp_0 (w := 0x13703) rfl (by decide) rfl) (a := 0) (n := 311) rfl rfl rfl ?_
      refine g_loadI act (gx gp_0 (w := 0x5013902) rfl (by decide) rfl) (a := 5) (n := 313) rfl rfl rfl ?_
      refine g_constI act (gx gp_0 (w := 0x40000000c00000009000000013a01) rfl (by decide) rfl) (n := 314) (x := (1 : Int32)) (by decide) rfl ?_
      refine g_iadd act (gx gp_0 (w := 0x13b0a) rfl (by decide) rfl) (n := 315) rfl ?_
      refine g_sald act (gx gp_0 (w := 0x13c1a) rfl (by decide) rfl) (n := 316) rfl (by omega) (by omega) ?_
      obtain ⟨tl, wl, nl, n, ng, nr, hNW, hL1, hB, hM⟩ := num_use hI2
      have hs124 := hB.1.1
      refine n_call tb_pres act hEnd (gx (P := G_call) gp_0 (w := 0xa000000000000c082200011c013f0f) rfl (by decide) rfl) (d' := D_284) rfl (f' := 1) (lam' := 22) (mc := 0) (ms := 0) (as := [.ref 124, .int (xs (i + (1 : Int32)).toInt.toNat)]) (rest := []) (br_truncate hI2.2.2.2.2.2.2.1) (show (2 : Nat) = fb 0xa000000000000c082200011c013f0f % 16 by decide) (by show (2 : Nat) ≤ 2; decide) (fun _ => ⟨_, _, rfl, _, shp_at hs124, Or.inr (show fb 0xa000000000000c082200011c013f0f >>> 68 = 10 by decide)⟩) (by omega) (by show 8 + (2 + 11) + 22 ≤ R.locals; omega) (by show (0 : Nat) ≤ 8; decide) (by show kc + 1 + 0 ≤ _; omega) (by show ks + 11 + 0 ≤ _; omega) (fun r9 h3 hpo hr9 => ?_) (fun x9 hs9 hx9 hpo => ?_)
      · obtain ⟨-, hcs2, f3⟩ := hpo
        obtain ⟨-, rfl, e3, hR3⟩ := hcs2.resolve_left (fun z => h20 z.1)
        have hI3 := hI2.wr0 f3 hR3
        have ln3 : h3.length = h2.length := f3.1
        show WpN (gp g0 wp) CLS p l e R s m args below meth c Q D_0.2.2.1 kc0 ks0 319 [some (.ref 7000000000003), some (.ref 0), some (.ref 124), some (.ref 146), some (.ref 147), some (.int i), some (.int (1 : Int32)), v7, v8] (h3, kc + 1, ks + 11) [.int (0 : Int32)]
        refine g_storeI act (gx gp_0 (w := 0x7014110) rfl (by decide) rfl) (a := 7) (n := 321) rfl rfl (L2 := [some (.ref 7000000000003), some (.ref 0), some (.ref 124), some (.ref 146), some (.ref 147), some (.int i), some (.int (1 : Int32)), some (.int (0 : Int32)), v8]) rfl ?_
        refine g_loadA act (gx gp_0 (w := 0x2014203) rfl (by decide) rfl) (a := 2) (n := 322) rfl rfl rfl ?_
        refine n_call tb_pres act hEnd (gx (P := G_call) gp_0 (w := 0xa000000000000c041100011901450f) rfl (by decide) rfl) (d' := D_281) rfl (f' := 0) (lam' := 0) (mc := 0) (ms := 0) (as := [.ref 124]) (rest := []) (br_thrown ((f3.2.1 124).trans hs124) e3) (show (1 : Nat) = fb 0xa000000000000c041100011901450f % 16 by decide) (by show (1 : Nat) ≤ 1; decide) (fun _ => ⟨_, _, rfl, _, shp_at ((f3.2.1 124).trans hs124), Or.inr (show fb 0xa000000000000c041100011901450f >>> 68 = 10 by decide)⟩) (by omega) (by show 8 + (1 + 11) + 0 ≤ R.locals; omega) (by show (0 : Nat) ≤ 8; decide) (by show kc + 1 + 0 ≤ _; omega) (by show ks + 11 + 0 ≤ _; omega) (fun r9 hs9 hpo hr9 => ?_) (fun x9 hs9 hx9 hpo => ?_)
        · obtain ⟨-, rfl, rfl⟩ := hpo
          show WpN (gp g0 wp) CLS p l e R s m args below meth c Q D_0.2.2.1 kc0 ks0 325 [some (.ref 7000000000003), some (.ref 0), some (.ref 124), some (.ref 146), some (.ref 147), some (.int i), some (.int (1 : Int32)), some (.int (0 : Int32)), v8] (h3, kc + 1, ks + 11) [.int (1 : Int32)]
          refine g_loadI act (gx gp_0 (w := 0x6014702) rfl (by decide) rfl) (a := 6) (n := 327) rfl rfl rfl ?_
          refine g_icmpEq act (gx gp_0 (w := 0x14c014a2e) rfl (by decide) rfl) (tgt := 332) (n := 330) rfl rfl (fun _ => ?_) (fun q => absurd rfl q)
          refine g_loadI act (gx gp_0 (w := 0x6014e02) rfl (by decide) rfl) (a := 6) (n := 334) rfl rfl rfl ?_
          refine g_ifNe act (gx gp_0 (w := 0x15d01511d) rfl (by decide) rfl) (tgt := 349) (n := 337) rfl rfl (fun _ => ?_) (fun q => absurd (by decide) q)
          refine g_goto act (gx gp_0 (w := 0x72507) rfl (by decide) rfl) (n := 1829) rfl ?_
          exact K _ _ _ _ _ _ _ _ hI3 (pt_step hP (by decide) (by decide) (by rw [ln3]; exact hln))
        · exact absurd hpo.1 (by omega)
      · exact absurd hpo.1 (by omega)
    · exact absurd hpo.1 (by omega)

theorem lb_352 (hTY : TYg g0) (act : Act SSX TBL (gp g0 wp) CLS bl xs D_0 p l s m args meth c) (hEnd : EndN SSX TBL (gp g0 wp) CLS D_0 p l e R s m args below meth c Q kc0 ks0 15 616 KC9 KS9 PE) (hf : 15 ≤ R.frames) (hl : 616 ≤ R.locals) (hc : 638008 ≤ R.cells + kc0) (hsl : 7182079 ≤ R.slots + ks0) (hI : LI hs R0 A A) (hP : PT kc ks hs.length A t) (ht : t ≤ 511) (hi : i.toInt = 6 * (t : Int)) (hib : i.toInt + 6 ≤ (bl : Int)) (K : ∀ (h2 : List CE) (R2 : List Nat) (A2 : Int) (kc2 ks2 : Nat) (v6 v7 v8 : Option Value), LI h2 R2 A2 A2 → PT kc2 ks2 h2.length A2 (t + 1) → WpN (gp g0 wp) CLS p l e R s m args below meth c Q D_0.2.2.1 kc0 ks0 1829 [some (.ref 7000000000003), some (.ref 0), some (.ref 124), some (.ref 146), some (.ref 147), some (.int i), v6, v7, v8] (h2, kc2, ks2) []) : WpN (gp g0 wp) CLS p l e R s m args below meth c Q D_0.2.2.1 kc0 ks0 352 [some (.ref 7000000000003), some (.ref 0), some (.ref 124), some (.ref 146), some (.ref 147), some (.int i), v6, v7, v8] (hs, kc, ks) [] := by
  have hTY9 : TYg (gp g0 wp) := hTY
  obtain ⟨p1, p2, p3, p4⟩ := id hP
  have j1 := i_k (i := i) (k := 1) (by omega) (by omega) (by decide) (by decide)
  have j2 := i_k (i := i) (k := 2) (by omega) (by omega) (by decide) (by decide)
  have j3 := i_k (i := i) (k := 3) (by omega) (by omega) (by decide) (by decide)
  have j4 := i_k (i := i) (k := 4) (by omega) (by omega) (by decide) (by decide)
  have j5 := i_k (i := i) (k := 5) (by omega) (by omega) (by decide) (by decide)
  rw [show (1 : Int32).toInt = 1 from rfl] at j1
  rw [show (2 : Int32).toInt = 2 from rfl] at j2
  rw [show (3 : Int32).toInt = 3 from rfl] at j3
  rw [show (4 : Int32).toInt = 4 from rfl] at j4
  rw [show (5 : Int32).toInt = 5 from rfl] at j5
  obtain ⟨L9, e0, eA⟩ := hI.2.2.2.2.2.2.2
  have hA0 : 0 ≤ A := by
    obtain ⟨tl, wl, pv, nl, n, ng, nr, np, hB, hPa, e6, h10, hN, hP9, hM, ⟨-, -, hL0, -⟩⟩ := hI.2.2.2.2.2.2.1
    exact hL0
  by_cases h20 : 0 < A
  · refine g_loadA act (gx gp_0 (w := 0x1016103) rfl (by decide) rfl) (a := 1) (n := 353) rfl rfl rfl ?_
    refine g_loadA act (gx gp_0 (w := 0x3016203) rfl (by decide) rfl) (a := 3) (n := 354) rfl rfl rfl ?_
    refine n_call tb_pres act hEnd (gx (P := G_call) gp_0 (w := 0x4000000000000040c2200009a01650f) rfl (by decide) rfl) (d' := D_154) rfl (f' := 14) (lam' := 252) (mc := 2302) (ms := 25322) (as := [.ref 0, .ref 146]) (rest := []) (b_ld1 hTY9 hI.1 hI.2.1 (by show hs.length + 2302 ≤ _; omega) hI.2.2.1 hI.2.2.2.2.1) (show (2 : Nat) = fb 0x4000000000000040c2200009a01650f % 16 by decide) (by show (2 : Nat) ≤ 3; decide) (fun q => absurd q (by decide)) (by omega) (by show 8 + (3 + 11) + 252 ≤ R.locals; omega) (by show (0 : Nat) ≤ 8; decide) (by show kc + 2302 ≤ _; omega) (by show ks + 25322 ≤ _; omega) (fun r9 h2 hpo hr9 => ?_) (fun x9 hs9 hx9 hpo => ?_)
    · obtain ⟨-, ⟨a6, rfl⟩, R2, hX, hln, hrg⟩ := hpo
      have hI2 := hI.hx hX hrg
      show WpN (gp g0 wp) CLS p l e R s m args below meth c Q D_0.2.2.1 kc0 ks0 357 [some (.ref 7000000000003), some (.ref 0), some (.ref 124), some (.ref 146), some (.ref 147), some (.int i), v6, v7, v8] (h2, kc + 2302, ks + 25322) [.int a6]
      refine g_storeI act (gx gp_0 (w := 0x6016710) rfl (by decide) rfl) (a := 6) (n := 359) rfl rfl (L2 := [some (.ref 7000000000003), some (.ref 0), some (.ref 124), some (.ref 146), some (.ref 147), some (.int i), some (.int a6), v7, v8]) rfl ?_
      refine g_loadA act (gx gp_0 (w := 0x2016803) rfl (by decide) rfl) (a := 2) (n := 360) rfl rfl rfl ?_
      obtain ⟨tl, wl, nl, n, ng, nr, hNW, hL1, hB, hM⟩ := num_use hI2
      have hs124 := hB.1.1
      refine n_call tb_pres act hEnd (gx (P := G_call) gp_0 (w := 0xa000000000000c08110000ef016b0f) rfl (by decide) rfl) (d' := D_239) rfl (f' := 6) (lam' := 132) (mc := 0) (ms := 0) (as := [.ref 124]) (rest := []) (br_load hI2.2.2.2.2.2.2.1) (show (1 : Nat) = fb 0xa000000000000c08110000ef016b0f % 16 by decide) (by show (1 : Nat) ≤ 2; decide) (fun _ => ⟨_, _, rfl, _, shp_at hs124, Or.inr (show fb 0xa000000000000c08110000ef016b0f >>> 68 = 10 by decide)⟩) (by omega) (by show 8 + (2 + 11) + 132 ≤ R.locals; omega) (by show (0 : Nat) ≤ 8; decide) (by show kc + 2302 + 0 ≤ _; omega) (by show ks + 25322 + 0 ≤ _; omega) (fun r9 h3 hpo hr9 => ?_) (fun x9 hs9 hx9 hpo => ?_)
      · obtain ⟨-, ⟨b7, rfl⟩, hR3, f3⟩ := hpo
        have hI3 := hI2.wr0 f3 hR3
        have ln3 : h3.length = h2.length := f3.1
        show WpN (gp g0 wp) CLS p l e R s m args below meth c Q D_0.2.2.1 kc0 ks0 363 [some (.ref 7000000000003), some (.ref 0), some (.ref 124), some (.ref 146), some (.ref 147), some (.int i), some (.int a6), v7, v8] (h3, kc + 2302, ks + 25322) [.int b7]
        refine g_storeI act (gx gp_0 (w := 0x7016d10) rfl (by decide) rfl) (a := 7) (n := 365) rfl rfl (L2 := [some (.ref 7000000000003), some (.ref 0), some (.ref 124), some (.ref 146), some (.ref 147), some (.int i), some (.int a6), some (.int b7), v8]) rfl ?_
        refine g_goto act (gx gp_0 (w := 0x72507) rfl (by decide) rfl) (n := 1829) rfl ?_
        exact K _ _ _ _ _ _ _ _ hI3 (pt_ld hP (by rw [ln3]; exact hln) h20)
      · exact absurd hpo.1 (by omega)
    · exact absurd hpo.1 (by omega)
  · refine g_loadA act (gx gp_0 (w := 0x1016103) rfl (by decide) rfl) (a := 1) (n := 353) rfl rfl rfl ?_
    refine g_loadA act (gx gp_0 (w := 0x3016203) rfl (by decide) rfl) (a := 3) (n := 354) rfl rfl rfl ?_
    refine n_call tb_pres act hEnd (gx (P := G_call) gp_0 (w := 0x4000000000000040c2200009a01650f) rfl (by decide) rfl) (d' := D_154) rfl (f' := 13) (lam' := 223) (mc := 23) (ms := 253) (as := [.ref 0, .ref 146]) (rest := []) (b_ld0 hTY9 hI.1 hI.2.1 (by show hs.length + 23 ≤ _; omega) hI.2.2.1 hI.2.2.2.2.1 e0 (by omega)) (show (2 : Nat) = fb 0x4000000000000040c2200009a01650f % 16 by decide) (by show (2 : Nat) ≤ 3; decide) (fun q => absurd q (by decide)) (by omega) (by show 8 + (3 + 11) + 223 ≤ R.locals; omega) (by show (0 : Nat) ≤ 8; decide) (by show kc + 23 ≤ _; omega) (by show ks + 253 ≤ _; omega) (fun r9 h2 hpo hr9 => ?_) (fun x9 hs9 hx9 hpo => ?_)
    · obtain ⟨-, ⟨a6, rfl⟩, R2, hX, hln, hrg⟩ := hpo
      have hI2 := hI.hx hX hrg
      show WpN (gp g0 wp) CLS p l e R s m args below meth c Q D_0.2.2.1 kc0 ks0 357 [some (.ref 7000000000003), some (.ref 0), some (.ref 124), some (.ref 146), some (.ref 147), some (.int i), v6, v7, v8] (h2, kc + 23, ks + 253) [.int a6]
      refine g_storeI act (gx gp_0 (w := 0x6016710) rfl (by decide) rfl) (a := 6) (n := 359) rfl rfl (L2 := [some (.ref 7000000000003), some (.ref 0), some (.ref 124), some (.ref 146), some (.ref 147), some (.int i), some (.int a6), v7, v8]) rfl ?_
      refine g_loadA act (gx gp_0 (w := 0x2016803) rfl (by decide) rfl) (a := 2) (n := 360) rfl rfl rfl ?_
      obtain ⟨tl, wl, nl, n, ng, nr, hNW, hL1, hB, hM⟩ := num_use hI2
      have hs124 := hB.1.1
      refine n_call tb_pres act hEnd (gx (P := G_call) gp_0 (w := 0xa000000000000c08110000ef016b0f) rfl (by decide) rfl) (d' := D_239) rfl (f' := 6) (lam' := 132) (mc := 0) (ms := 0) (as := [.ref 124]) (rest := []) (br_load hI2.2.2.2.2.2.2.1) (show (1 : Nat) = fb 0xa000000000000c08110000ef016b0f % 16 by decide) (by show (1 : Nat) ≤ 2; decide) (fun _ => ⟨_, _, rfl, _, shp_at hs124, Or.inr (show fb 0xa000000000000c08110000ef016b0f >>> 68 = 10 by decide)⟩) (by omega) (by show 8 + (2 + 11) + 132 ≤ R.locals; omega) (by show (0 : Nat) ≤ 8; decide) (by show kc + 23 + 0 ≤ _; omega) (by show ks + 253 + 0 ≤ _; omega) (fun r9 h3 hpo hr9 => ?_) (fun x9 hs9 hx9 hpo => ?_)
      · obtain ⟨-, ⟨b7, rfl⟩, hR3, f3⟩ := hpo
        have hI3 := hI2.wr0 f3 hR3
        have ln3 : h3.length = h2.length := f3.1
        show WpN (gp g0 wp) CLS p l e R s m args below meth c Q D_0.2.2.1 kc0 ks0 363 [some (.ref 7000000000003), some (.ref 0), some (.ref 124), some (.ref 146), some (.ref 147), some (.int i), some (.int a6), v7, v8] (h3, kc + 23, ks + 253) [.int b7]
        refine g_storeI act (gx gp_0 (w := 0x7016d10) rfl (by decide) rfl) (a := 7) (n := 365) rfl rfl (L2 := [some (.ref 7000000000003), some (.ref 0), some (.ref 124), some (.ref 146), some (.ref 147), some (.int i), some (.int a6), some (.int b7), v8]) rfl ?_
        refine g_goto act (gx gp_0 (w := 0x72507) rfl (by decide) rfl) (n := 1829) rfl ?_
        exact K _ _ _ _ _ _ _ _ hI3 (pt_ld0 hP (by rw [ln3]; exact hln))
      · exact absurd hpo.1 (by omega)
    · exact absurd hpo.1 (by omega)

end LAWC
