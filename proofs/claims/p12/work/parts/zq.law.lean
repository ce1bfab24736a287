/-! The law's branches. -/
def PE : Nat → Option Value → List CE → Prop := fun kd r _ => kd = 0 ∧ r = some (.int 1)
/-- the room that is used before the call t -/
def PT (kc ks n t : Nat) : Prop := kc ≤ 2000 + 1200 * t ∧ ks ≤ 100000 + 13200 * t ∧ n ≤ kc + 1000 + 2 * t
theorem pt_step {kc ks n n2 mc ms t : Nat} (h : PT kc ks n t) (hm : mc ≤ 1200) (hs : ms ≤ 13200) (hn : n2 ≤ n + mc + 2) : PT (kc + mc) (ks + ms) n2 (t + 1) := by
  obtain ⟨h1, h2, h3⟩ := h
  exact ⟨by omega, by omega, by omega⟩
theorem pt_step0 {kc ks n n2 t : Nat} (h : PT kc ks n t) (hn : n2 ≤ n + 0 + 2) : PT kc ks n2 (t + 1) := pt_step (mc := 0) (ms := 0) h (by decide) (by decide) hn
theorem hvF {es : List EV} {vs : List Int32} (h : es.all (fun e => decide (e = (-2147483648, 2147483647, false))) = true) (hl : es.length = vs.length) : ∀ i, i < vs.length → (es.getD i (0, 0, false)).1 ≤ (vs.getD i 0).toInt ∧ (vs.getD i 0).toInt ≤ (es.getD i (0, 0, false)).2.1 ∧ (es.getD i (0, 0, false)).2.2 = false := fun i hi => by
  have hm : es.getD i (0, 0, false) ∈ es := by
    rw [List.getD_eq_getElem?_getD, List.getElem?_eq_getElem (by omega)]
    exact List.getElem_mem _
  have := of_decide_eq_true (List.all_eq_true.mp h _ hm)
  rw [this]
  exact ⟨Int32.le_toInt _, Int32.toInt_le _, rfl⟩
theorem i_k {i k : Int32} (h0 : 0 ≤ i.toInt) (h1 : i.toInt ≤ 100000) (k0 : 0 ≤ k.toInt) (k1 : k.toInt ≤ 6) : (i + k).toInt = i.toInt + k.toInt := i_add (by omega) (by omega)
/-- a wrapper's contract: it returns an int -/
def wOQ (c : CT9) : Bool := c.2.2.1.all fun pt => decide (pt.1 = 0) && decide (pt.2.2.1.length = 1) && decide ((pt.2.2.1.getD 0 (0, 0, 0, 0)).1 = 1)
def POWX (R : List Nat) (hs : List CE) (n : Nat) : Nat → Option Value → List CE → Prop := fun kd r h2 => kd = 0 ∧ (∃ x : Int32, r = some (.int x)) ∧ ∃ R2 : List Nat, HX KCQ InvCQ R hs R2 h2 ∧ h2.length ≤ hs.length + n
theorem w_useX {c : CT9} (hw : wOQ c = true) {R : List Nat} {hs h2 : List CE} {kd : Nat} {r : Option Value} (h : PoUQ c R hs kd r h2) : POWX R hs c.2.2.2.2.2.1 kd r h2 := by
  obtain ⟨R', pt, hm, hk, hX, hl, h1, hn, h0⟩ := h
  have hw := List.all_eq_true.mp hw pt hm
  simp only [Bool.and_eq_true, decide_eq_true_eq] at hw
  obtain ⟨⟨w1, w2⟩, w3⟩ := hw
  obtain ⟨a, ha⟩ := List.length_eq_one_iff.mp w2
  rw [ha] at w3
  have w3 : a.1 = 1 := w3
  exact ⟨hk.symm.trans w1, h1 a ha w3, R', hX, hl⟩
theorem br_thrown {g0 : GG} {bl : Nat} {xs : Nat → Int32} {l : Launch} {hs : List CE} {x : Int32} (hk : shp hs 124 = some (9, 39)) (e0 : rd hs 124 0 = .int x) : BodyN SSX TBL g0 CLS bl xs l D_281 0 0 0 0 [.ref 124] hs (fun kd r h2 => kd = 0 ∧ hs = h2 ∧ r = some (.int x)) := by
  intro wp p e R s m args below meth c Q kc0 ks0 kc ks act hf hl hc hsl hEnd
  show WpN (gp g0 wp) CLS p l e R s m args below meth c Q D_281.2.2.1 kc0 ks0 0 [some (.ref 124)] (hs, kc, ks) []
  refine g_loadA act (gx gp_281 (w := 0x103) rfl (by decide) rfl) (a := 0) (n := 1) rfl rfl rfl ?_
  refine r_getf act (gx gp_281 (w := 0x9000404) rfl (by decide) rfl) (n := 4) (ci := 9) (j := 0) (N := 39) rfl rfl rfl hk (by decide) (v := .int x) e0 ?_
  exact g_retI hEnd (gx gp_281 (w := 0x2f) rfl (by decide) rfl) ⟨rfl, rfl, rfl⟩ (by show kc ≤ kc + 0; omega) (by show ks ≤ ks + 0; omega)
theorem wLim38 {w : Nat → Int} {i : Nat} {v : Int} (h : i < 6) : wLim w i v 38 = w 38 := by
  unfold wLim
  split
  · rw [upI_ne9 (by omega), upI_ne9 (by omega)]
  · rw [upI_ne9 (by omega)]
section LAWB
variable {g0 : GG} {bl : Nat} {xs : Nat → Int32} {l : Launch} {wp : va_W} {p : Program} {e : Env} {R : Room} {s : State} {m : MethodId} {args : Array Value} {below : List Frame} {meth : Method} {c : Code} {Q : State → Prop} {kc0 ks0 KC9 KS9 kc ks t : Nat} {hs : List CE} {R0 : List Nat} {tx : Nat → Int} {L : Nat} {ec ep : Int} {i : Int32} {v6 v7 v8 : Option Value}
theorem lb_220 (hTY : TYg g0) (act : Act SSX TBL (gp g0 wp) CLS bl xs D_0 p l s m args meth c) (hEnd : EndN SSX TBL (gp g0 wp) CLS D_0 p l e R s m args below meth c Q kc0 ks0 15 616 KC9 KS9 PE) (hf : 15 ≤ R.frames) (hl : 616 ≤ R.locals) (hc : 638008 ≤ R.cells + kc0) (hsl : 7182079 ≤ R.slots + ks0) (hI : LJ hs R0 tx L ec ep) (hP : PT kc ks hs.length t) (ht : t ≤ 511) (hi : i.toInt = 6 * (t : Int)) (hib : i.toInt + 6 ≤ (bl : Int)) (K : ∀ (h2 : List CE) (R2 : List Nat) (tx2 : Nat → Int) (L2 : Nat) (ec2 ep2 : Int) (kc2 ks2 : Nat) (v6 v7 v8 : Option Value), LJ h2 R2 tx2 L2 ec2 ep2 → PT kc2 ks2 h2.length (t + 1) → WpN (gp g0 wp) CLS p l e R s m args below meth c Q D_0.2.2.1 kc0 ks0 1829 [some (.ref 7000000000003), some (.ref 0), some (.ref 124), some (.ref 146), some (.ref 147), some (.int i), v6, v7, v8] (h2, kc2, ks2) []) : WpN (gp g0 wp) CLS p l e R s m args below meth c Q D_0.2.2.1 kc0 ks0 220 [some (.ref 7000000000003), some (.ref 0), some (.ref 124), some (.ref 146), some (.ref 147), some (.int i), v6, v7, v8] (hs, kc, ks) [] := by
  have hTY9 : TYg (gp g0 wp) := hTY
  obtain ⟨p1, p2, p3⟩ := id hP
  have j1 := i_k (i := i) (k := 1) (by omega) (by omega) (by decide) (by decide)
  have j2 := i_k (i := i) (k := 2) (by omega) (by omega) (by decide) (by decide)
  have j3 := i_k (i := i) (k := 3) (by omega) (by omega) (by decide) (by decide)
  have j4 := i_k (i := i) (k := 4) (by omega) (by omega) (by decide) (by decide)
  have j5 := i_k (i := i) (k := 5) (by omega) (by omega) (by decide) (by decide)
  rw [show (1 : Int32).toInt = 1 from rfl] at j1
  rw [show (2 : Int32).toInt = 2 from rfl] at j2
  rw [show (3 : Int32).toInt = 3 from rfl] at j3
  rw [show (4 : Int32).toInt = 4 from rfl] at j4
  rw [show (5 : Int32).toInt = 5 from rfl] at j5
  obtain ⟨hT, hI9, hr, fv, w, pv, nl, n, ng, nr, np, ch, g, hS, hJ, hM, hX⟩ := id hI
  obtain ⟨F, hC⟩ := id hJ.1
  obtain ⟨w0, w1, w2, w3, w4, w5, w6, w7, w8, w9, wa, wb, wc, wd, we⟩ := id hC.2.2.2.2.2.1
  have h148 : 148 ≤ hs.length := by
    rw [← hT.1]
    have := (List.getElem?_eq_some_iff.mp hr.2.2.2.2.2.2.2.2).1
    omega
  have hl40 : hs.length + 40 ≤ 6999999999999 := by omega
  have hl3 : hs.length + 3 ≤ 6999999999999 := by omega
  have hl0 : hs.length ≤ 6999999999999 := by omega
  refine g_loadA act (gx gp_0 (w := 0x100dd03) rfl (by decide) rfl) (a := 1) (n := 221) rfl rfl rfl ?_
  refine g_loadA act (gx gp_0 (w := 0xde03) rfl (by decide) rfl) (a := 0) (n := 222) rfl rfl rfl ?_
  refine g_loadI act (gx gp_0 (w := 0x500e002) rfl (by decide) rfl) (a := 5) (n := 224) rfl rfl rfl ?_
  refine g_constI act (gx gp_0 (w := 0x40000000c0000000900000000e101) rfl (by decide) rfl) (n := 225) (x := (1 : Int32)) (by decide) rfl ?_
  refine g_iadd act (gx gp_0 (w := 0xe20a) rfl (by decide) rfl) (n := 226) rfl ?_
  refine g_sald act (gx gp_0 (w := 0xe31a) rfl (by decide) rfl) (n := 227) rfl (by omega) (by omega) ?_
  refine g_loadA act (gx gp_0 (w := 0xe403) rfl (by decide) rfl) (a := 0) (n := 228) rfl rfl rfl ?_
  refine g_loadI act (gx gp_0 (w := 0x500e602) rfl (by decide) rfl) (a := 5) (n := 230) rfl rfl rfl ?_
  refine g_constI act (gx gp_0 (w := 0x4000000140000001100000000e701) rfl (by decide) rfl) (n := 231) (x := (2 : Int32)) (by decide) rfl ?_
  refine g_iadd act (gx gp_0 (w := 0xe80a) rfl (by decide) rfl) (n := 232) rfl ?_
  refine g_sald act (gx gp_0 (w := 0xe91a) rfl (by decide) rfl) (n := 233) rfl (by omega) (by omega) ?_
  refine g_loadA act (gx gp_0 (w := 0xea03) rfl (by decide) rfl) (a := 0) (n := 234) rfl rfl rfl ?_
  refine g_loadI act (gx gp_0 (w := 0x500ec02) rfl (by decide) rfl) (a := 5) (n := 236) rfl rfl rfl ?_
  refine g_constI act (gx gp_0 (w := 0x40000001c0000001900000000ed01) rfl (by decide) rfl) (n := 237) (x := (3 : Int32)) (by decide) rfl ?_
  refine g_iadd act (gx gp_0 (w := 0xee0a) rfl (by decide) rfl) (n := 238) rfl ?_
  refine g_sald act (gx gp_0 (w := 0xef1a) rfl (by decide) rfl) (n := 239) rfl (by omega) (by omega) ?_
  refine g_loadA act (gx gp_0 (w := 0xf003) rfl (by decide) rfl) (a := 0) (n := 240) rfl rfl rfl ?_
  refine g_loadI act (gx gp_0 (w := 0x500f202) rfl (by decide) rfl) (a := 5) (n := 242) rfl rfl rfl ?_
  refine g_constI act (gx gp_0 (w := 0x4000000240000002100000000f301) rfl (by decide) rfl) (n := 243) (x := (4 : Int32)) (by decide) rfl ?_
  refine g_iadd act (gx gp_0 (w := 0xf40a) rfl (by decide) rfl) (n := 244) rfl ?_
  refine g_sald act (gx gp_0 (w := 0xf51a) rfl (by decide) rfl) (n := 245) rfl (by omega) (by omega) ?_
  refine g_loadA act (gx gp_0 (w := 0xf603) rfl (by decide) rfl) (a := 0) (n := 246) rfl rfl rfl ?_
  refine g_loadI act (gx gp_0 (w := 0x500f802) rfl (by decide) rfl) (a := 5) (n := 248) rfl rfl rfl ?_
  refine g_constI act (gx gp_0 (w := 0x40000002c0000002900000000f901) rfl (by decide) rfl) (n := 249) (x := (5 : Int32)) (by decide) rfl ?_
  refine g_iadd act (gx gp_0 (w := 0xfa0a) rfl (by decide) rfl) (n := 250) rfl ?_
  refine g_sald act (gx gp_0 (w := 0xfb1a) rfl (by decide) rfl) (n := 251) rfl (by omega) (by omega) ?_
  refine g_loadA act (gx gp_0 (w := 0x300fc03) rfl (by decide) rfl) (a := 3) (n := 252) rfl rfl rfl ?_
  refine n_call tb_pres act hEnd (gx (P := G_call) gp_0 (w := 0x400000000000004207700008b00ff0f) rfl (by decide) rfl) (d' := D_139) rfl (f' := 9) (lam' := 145) (mc := 1) (ms := 11) (as := [.ref 0, .int (xs (i + (1 : Int32)).toInt.toNat), .int (xs (i + (2 : Int32)).toInt.toNat), .int (xs (i + (3 : Int32)).toInt.toNat), .int (xs (i + (4 : Int32)).toInt.toNat), .int (xs (i + (5 : Int32)).toInt.toNat), .ref 146]) (rest := []) (wx_append (PO := TPO 1 hs (L + 20 ≤ 700) ((L + 20 : Nat) : Int) (wA tx L (xs (i + (1 : Int32)).toInt.toNat) (xs (i + (2 : Int32)).toInt.toNat) (xs (i + (3 : Int32)).toInt.toNat) (xs (i + (4 : Int32)).toInt.toNat) (xs (i + (5 : Int32)).toInt.toNat)) (L + 20)) (fun g0 q => ((cx_append hS.2.1 (grt_of hC)).imp (fun kd r h2 h => h.imp id (fun z => ⟨z.1, z.2.1, Nat.not_le.mpr z.2.2.1, z.2.2.2⟩)))) hTY9 hC.1.1 (txt_h0 (by decide) hT hr) txt_hx) (show (7 : Nat) = fb 0x400000000000004207700008b00ff0f % 16 by decide) (by show (7 : Nat) ≤ 8; decide) (fun q => absurd q (by decide)) (by omega) (by show 8 + (8 + 11) + 145 ≤ R.locals; omega) (by show (0 : Nat) ≤ 8; decide) (by show kc + 1 ≤ _; omega) (by show ks + 11 ≤ _; omega) (fun r9 h2 hpo hr9 => ?_) (fun x9 hs9 hx9 hpo => ?_)
  · refine n_al9 (fun hA9 => ?_)
    have hA9 : AL9 h2 := hA9
    obtain ⟨a6, rfl, hln, hM2, hX2, hcc⟩ := txt_c1 (by decide) hT hI9 hr hJ hM hX (fun a => a) (show PW1 1 (TPO 1 hs (L + 20 ≤ 700) ((L + 20 : Nat) : Int) (wA tx L (xs (i + (1 : Int32)).toInt.toNat) (xs (i + (2 : Int32)).toInt.toNat) (xs (i + (3 : Int32)).toInt.toNat) (xs (i + (4 : Int32)).toInt.toNat) (xs (i + (5 : Int32)).toInt.toNat)) (L + 20)) 0 _ h2 from hpo)
    have hln : h2.length ≤ hs.length + 1 := Nat.le_trans hln (Nat.le_add_right _ _)
    have hs124 := hM2.1.1.1
    show WpN (gp g0 wp) CLS p l e R s m args below meth c Q D_0.2.2.1 kc0 ks0 255 [some (.ref 7000000000003), some (.ref 0), some (.ref 124), some (.ref 146), some (.ref 147), some (.int i), v6, v7, v8] (h2, kc + 1, ks + 11) [.int a6]
    refine g_storeI act (gx gp_0 (w := 0x6010110) rfl (by decide) rfl) (a := 6) (n := 257) rfl rfl (L2 := [some (.ref 7000000000003), some (.ref 0), some (.ref 124), some (.ref 146), some (.ref 147), some (.int i), some (.int a6), v7, v8]) rfl ?_
    refine g_loadA act (gx gp_0 (w := 0x2010203) rfl (by decide) rfl) (a := 2) (n := 258) rfl rfl rfl ?_
    refine g_loadA act (gx gp_0 (w := 0x10303) rfl (by decide) rfl) (a := 0) (n := 259) rfl rfl rfl ?_
    refine g_loadI act (gx gp_0 (w := 0x5010502) rfl (by decide) rfl) (a := 5) (n := 261) rfl rfl rfl ?_
    refine g_constI act (gx gp_0 (w := 0x40000000c00000009000000010601) rfl (by decide) rfl) (n := 262) (x := (1 : Int32)) (by decide) rfl ?_
    refine g_iadd act (gx gp_0 (w := 0x1070a) rfl (by decide) rfl) (n := 263) rfl ?_
    refine g_sald act (gx gp_0 (w := 0x1081a) rfl (by decide) rfl) (n := 264) rfl (by omega) (by omega) ?_
    refine g_loadA act (gx gp_0 (w := 0x10903) rfl (by decide) rfl) (a := 0) (n := 265) rfl rfl rfl ?_
    refine g_loadI act (gx gp_0 (w := 0x5010b02) rfl (by decide) rfl) (a := 5) (n := 267) rfl rfl rfl ?_
    refine g_constI act (gx gp_0 (w := 0x40000001400000011000000010c01) rfl (by decide) rfl) (n := 268) (x := (2 : Int32)) (by decide) rfl ?_
    refine g_iadd act (gx gp_0 (w := 0x10d0a) rfl (by decide) rfl) (n := 269) rfl ?_
    refine g_sald act (gx gp_0 (w := 0x10e1a) rfl (by decide) rfl) (n := 270) rfl (by omega) (by omega) ?_
    refine g_loadA act (gx gp_0 (w := 0x10f03) rfl (by decide) rfl) (a := 0) (n := 271) rfl rfl rfl ?_
    refine g_loadI act (gx gp_0 (w := 0x5011102) rfl (by decide) rfl) (a := 5) (n := 273) rfl rfl rfl ?_
    refine g_constI act (gx gp_0 (w := 0x40000001c00000019000000011201) rfl (by decide) rfl) (n := 274) (x := (3 : Int32)) (by decide) rfl ?_
    refine g_iadd act (gx gp_0 (w := 0x1130a) rfl (by decide) rfl) (n := 275) rfl ?_
    refine g_sald act (gx gp_0 (w := 0x1141a) rfl (by decide) rfl) (n := 276) rfl (by omega) (by omega) ?_
    refine g_loadA act (gx gp_0 (w := 0x11503) rfl (by decide) rfl) (a := 0) (n := 277) rfl rfl rfl ?_
    refine g_loadI act (gx gp_0 (w := 0x5011702) rfl (by decide) rfl) (a := 5) (n := 279) rfl rfl rfl ?_
    refine g_constI act (gx gp_0 (w := 0x40000002400000021000000011801) rfl (by decide) rfl) (n := 280) (x := (4 : Int32)) (by decide) rfl ?_
    refine g_iadd act (gx gp_0 (w := 0x1190a) rfl (by decide) rfl) (n := 281) rfl ?_
    refine g_sald act (gx gp_0 (w := 0x11a1a) rfl (by decide) rfl) (n := 282) rfl (by omega) (by omega) ?_
    refine g_loadA act (gx gp_0 (w := 0x11b03) rfl (by decide) rfl) (a := 0) (n := 283) rfl rfl rfl ?_
    refine g_loadI act (gx gp_0 (w := 0x5011d02) rfl (by decide) rfl) (a := 5) (n := 285) rfl rfl rfl ?_
    refine g_constI act (gx gp_0 (w := 0x40000002c00000029000000011e01) rfl (by decide) rfl) (n := 286) (x := (5 : Int32)) (by decide) rfl ?_
    refine g_iadd act (gx gp_0 (w := 0x11f0a) rfl (by decide) rfl) (n := 287) rfl ?_
    refine g_sald act (gx gp_0 (w := 0x1201a) rfl (by decide) rfl) (n := 288) rfl (by omega) (by omega) ?_
    refine n_call tb_pres act hEnd (gx (P := G_call) gp_0 (w := 0xa000000000000c18660000b401230f) rfl (by decide) rfl) (d' := D_180) rfl (f' := 1) (lam' := 22) (mc := 0) (ms := 0) (as := [.ref 124, .int (xs (i + (1 : Int32)).toInt.toNat), .int (xs (i + (2 : Int32)).toInt.toNat), .int (xs (i + (3 : Int32)).toInt.toNat), .int (xs (i + (4 : Int32)).toInt.toNat), .int (xs (i + (5 : Int32)).toInt.toNat)]) (rest := []) (bx_append hM2.1.1 hS.2.1 (m0_of hM2) (mrt_of hX2)) (show (6 : Nat) = fb 0xa000000000000c18660000b401230f % 16 by decide) (by show (6 : Nat) ≤ 6; decide) (fun _ => ⟨_, _, rfl, _, shp_at hs124, Or.inr (show fb 0xa000000000000c18660000b401230f >>> 68 = 10 by decide)⟩) (by omega) (by show 8 + (6 + 11) + 22 ≤ R.locals; omega) (by show (0 : Nat) ≤ 8; decide) (by show kc + 1 + 0 ≤ _; omega) (by show ks + 11 + 0 ≤ _; omega) (fun r9 h3 hpo hr9 => ?_) (fun x9 hs9 hx9 hpo => ?_)
    · obtain ⟨⟨tx3, L3, hI3⟩, ln3, e3, b7, rfl, ho3⟩ := txt_c2 (A := (L + 20 ≤ 700)) (v := ((L + 20 : Nat) : Int)) (tx2 := (wA tx L (xs (i + (1 : Int32)).toInt.toNat) (xs (i + (2 : Int32)).toInt.toNat) (xs (i + (3 : Int32)).toInt.toNat) (xs (i + (4 : Int32)).toInt.toNat) (xs (i + (5 : Int32)).toInt.toNat))) (L2 := (L + 20)) hT hI9 hr hJ hM hX hS (fun a => a) (wA_nn hS.1) hcc ⟨hpo.2.1.imp id (fun z => ⟨Nat.not_le.mpr z.1, z.2⟩), hpo.2.2⟩
      have ln3 : h3.length = h2.length := ln3
      obtain ⟨_, _, _, _, _, _, _, _, hB3, _⟩ := hI3.num
      have hs3 := hB3.1.1
      show WpN (gp g0 wp) CLS p l e R s m args below meth c Q D_0.2.2.1 kc0 ks0 291 [some (.ref 7000000000003), some (.ref 0), some (.ref 124), some (.ref 146), some (.ref 147), some (.int i), some (.int a6), v7, v8] (h3, kc + 1, ks + 11) [.int b7]
      refine g_storeI act (gx gp_0 (w := 0x7012510) rfl (by decide) rfl) (a := 7) (n := 293) rfl rfl (L2 := [some (.ref 7000000000003), some (.ref 0), some (.ref 124), some (.ref 146), some (.ref 147), some (.int i), some (.int a6), some (.int b7), v8]) rfl ?_
      refine g_goto act (gx gp_0 (w := 0x72507) rfl (by decide) rfl) (n := 1829) rfl ?_
      exact K _ _ _ _ _ _ _ _ _ _ _ hI3 (pt_step hP (by decide) (by decide) (by rw [ln3]; omega))
    · exact absurd hpo.1 (by omega)
  · exact absurd hpo.1 (by omega)

theorem lb_296 (hTY : TYg g0) (act : Act SSX TBL (gp g0 wp) CLS bl xs D_0 p l s m args meth c) (hEnd : EndN SSX TBL (gp g0 wp) CLS D_0 p l e R s m args below meth c Q kc0 ks0 15 616 KC9 KS9 PE) (hf : 15 ≤ R.frames) (hl : 616 ≤ R.locals) (hc : 638008 ≤ R.cells + kc0) (hsl : 7182079 ≤ R.slots + ks0) (hI : LJ hs R0 tx L ec ep) (hP : PT kc ks hs.length t) (ht : t ≤ 511) (hi : i.toInt = 6 * (t : Int)) (hib : i.toInt + 6 ≤ (bl : Int)) (K : ∀ (h2 : List CE) (R2 : List Nat) (tx2 : Nat → Int) (L2 : Nat) (ec2 ep2 : Int) (kc2 ks2 : Nat) (v6 v7 v8 : Option Value), LJ h2 R2 tx2 L2 ec2 ep2 → PT kc2 ks2 h2.length (t + 1) → WpN (gp g0 wp) CLS p l e R s m args below meth c Q D_0.2.2.1 kc0 ks0 1829 [some (.ref 7000000000003), some (.ref 0), some (.ref 124), some (.ref 146), some (.ref 147), some (.int i), v6, v7, v8] (h2, kc2, ks2) []) : WpN (gp g0 wp) CLS p l e R s m args below meth c Q D_0.2.2.1 kc0 ks0 296 [some (.ref 7000000000003), some (.ref 0), some (.ref 124), some (.ref 146), some (.ref 147), some (.int i), v6, v7, v8] (hs, kc, ks) [] := by
  have hTY9 : TYg (gp g0 wp) := hTY
  obtain ⟨p1, p2, p3⟩ := id hP
  have j1 := i_k (i := i) (k := 1) (by omega) (by omega) (by decide) (by decide)
  have j2 := i_k (i := i) (k := 2) (by omega) (by omega) (by decide) (by decide)
  have j3 := i_k (i := i) (k := 3) (by omega) (by omega) (by decide) (by decide)
  have j4 := i_k (i := i) (k := 4) (by omega) (by omega) (by decide) (by decide)
  have j5 := i_k (i := i) (k := 5) (by omega) (by omega) (by decide) (by decide)
  rw [show (1 : Int32).toInt = 1 from rfl] at j1
  rw [show (2 : Int32).toInt = 2 from rfl] at j2
  rw [show (3 : Int32).toInt = 3 from rfl] at j3
  rw [show (4 : Int32).toInt = 4 from rfl] at j4
  rw [show (5 : Int32).toInt = 5 from rfl] at j5
  obtain ⟨hT, hI9, hr, fv, w, pv, nl, n, ng, nr, np, ch, g, hS, hJ, hM, hX⟩ := id hI
  obtain ⟨F, hC⟩ := id hJ.1
  obtain ⟨w0, w1, w2, w3, w4, w5, w6, w7, w8, w9, wa, wb, wc, wd, we⟩ := id hC.2.2.2.2.2.1
  have h148 : 148 ≤ hs.length := by
    rw [← hT.1]
    have := (List.getElem?_eq_some_iff.mp hr.2.2.2.2.2.2.2.2).1
    omega
  have hl40 : hs.length + 40 ≤ 6999999999999 := by omega
  have hl3 : hs.length + 3 ≤ 6999999999999 := by omega
  have hl0 : hs.length ≤ 6999999999999 := by omega
  refine g_loadA act (gx gp_0 (w := 0x1012903) rfl (by decide) rfl) (a := 1) (n := 297) rfl rfl rfl ?_
  refine g_loadA act (gx gp_0 (w := 0x12a03) rfl (by decide) rfl) (a := 0) (n := 298) rfl rfl rfl ?_
  refine g_loadI act (gx gp_0 (w := 0x5012c02) rfl (by decide) rfl) (a := 5) (n := 300) rfl rfl rfl ?_
  refine g_constI act (gx gp_0 (w := 0x40000000c00000009000000012d01) rfl (by decide) rfl) (n := 301) (x := (1 : Int32)) (by decide) rfl ?_
  refine g_iadd act (gx gp_0 (w := 0x12e0a) rfl (by decide) rfl) (n := 302) rfl ?_
  refine g_sald act (gx gp_0 (w := 0x12f1a) rfl (by decide) rfl) (n := 303) rfl (by omega) (by omega) ?_
  refine g_loadA act (gx gp_0 (w := 0x3013003) rfl (by decide) rfl) (a := 3) (n := 304) rfl rfl rfl ?_
  refine n_call tb_pres act hEnd (gx (P := G_call) gp_0 (w := 0x40000000000000410330000ad01330f) rfl (by decide) rfl) (d' := D_173) rfl (f' := 9) (lam' := 141) (mc := 1) (ms := 11) (as := [.ref 0, .int (xs (i + (1 : Int32)).toInt.toNat), .ref 146]) (rest := []) (wx_truncate (PO := TPO 2 hs (0 ≤ (xs (i + (1 : Int32)).toInt.toNat).toInt ∧ (xs (i + (1 : Int32)).toInt.toNat).toInt ≤ (L : Int)) (((xs (i + (1 : Int32)).toInt.toNat).toInt.toNat : Nat) : Int) tx ((xs (i + (1 : Int32)).toInt.toNat).toInt.toNat)) (fun g0 q => ((cx_trunc hS.2.1 (grt_of hC)).imp (fun kd r h2 h => h.imp (fun z => ⟨z.1, z.2.1, ⟨_, z.2.2.1, (Int.toNat_of_nonneg z.2.1.1).symm⟩, z.2.2.2⟩) id))) hTY9 hC.1.1 (txt_h0 (by decide) hT hr) txt_hx) (show (3 : Nat) = fb 0x40000000000000410330000ad01330f % 16 by decide) (by show (3 : Nat) ≤ 4; decide) (fun q => absurd q (by decide)) (by omega) (by show 8 + (4 + 11) + 141 ≤ R.locals; omega) (by show (0 : Nat) ≤ 8; decide) (by show kc + 1 ≤ _; omega) (by show ks + 11 ≤ _; omega) (fun r9 h2 hpo hr9 => ?_) (fun x9 hs9 hx9 hpo => ?_)
  · refine n_al9 (fun hA9 => ?_)
    have hA9 : AL9 h2 := hA9
    obtain ⟨a6, rfl, hln, hM2, hX2, hcc⟩ := txt_c1 (by decide) hT hI9 hr hJ hM hX (fun a => by have := hS.2.1; omega) (show PW1 2 (TPO 2 hs (0 ≤ (xs (i + (1 : Int32)).toInt.toNat).toInt ∧ (xs (i + (1 : Int32)).toInt.toNat).toInt ≤ (L : Int)) (((xs (i + (1 : Int32)).toInt.toNat).toInt.toNat : Nat) : Int) tx ((xs (i + (1 : Int32)).toInt.toNat).toInt.toNat)) 0 _ h2 from hpo)
    have hln : h2.length ≤ hs.length + 1 := Nat.le_trans hln (Nat.le_add_right _ _)
    have hs124 := hM2.1.1.1
    show WpN (gp g0 wp) CLS p l e R s m args below meth c Q D_0.2.2.1 kc0 ks0 307 [some (.ref 7000000000003), some (.ref 0), some (.ref 124), some (.ref 146), some (.ref 147), some (.int i), v6, v7, v8] (h2, kc + 1, ks + 11) [.int a6]
    refine g_storeI act (gx gp_0 (w := 0x6013510) rfl (by decide) rfl) (a := 6) (n := 309) rfl rfl (L2 := [some (.ref 7000000000003), some (.ref 0), some (.ref 124), some (.ref 146), some (.ref 147), some (.int i), some (.int a6), v7, v8]) rfl ?_
    refine g_loadA act (gx gp_0 (w := 0x2013603) rfl (by decide) rfl) (a := 2) (n := 310) rfl rfl rfl ?_
    refine g_loadA act (gx gp_0 (w := 0x13703) rfl (by decide) rfl) (a := 0) (n := 311) rfl rfl rfl ?_
    refine g_loadI act (gx gp_0 (w := 0x5013902) rfl (by decide) rfl) (a := 5) (n := 313) rfl rfl rfl ?_
    refine g_constI act (gx gp_0 (w := 0x40000000c00000009000000013a01) rfl (by decide) rfl) (n := 314) (x := (1 : Int32)) (by decide) rfl ?_
    refine g_iadd act (gx gp_0 (w := 0x13b0a) rfl (by decide) rfl) (n := 315) rfl ?_
    refine g_sald act (gx gp_0 (w := 0x13c1a) rfl (by decide) rfl) (n := 316) rfl (by omega) (by omega) ?_
    refine n_call tb_pres act hEnd (gx (P := G_call) gp_0 (w := 0xa000000000000c082200011c013f0f) rfl (by decide) rfl) (d' := D_284) rfl (f' := 1) (lam' := 22) (mc := 0) (ms := 0) (as := [.ref 124, .int (xs (i + (1 : Int32)).toInt.toNat)]) (rest := []) (bx_trunc hM2.1.1 hS.2.1 (m0_of hM2) (mrt_of hX2)) (show (2 : Nat) = fb 0xa000000000000c082200011c013f0f % 16 by decide) (by show (2 : Nat) ≤ 2; decide) (fun _ => ⟨_, _, rfl, _, shp_at hs124, Or.inr (show fb 0xa000000000000c082200011c013f0f >>> 68 = 10 by decide)⟩) (by omega) (by show 8 + (2 + 11) + 22 ≤ R.locals; omega) (by show (0 : Nat) ≤ 8; decide) (by show kc + 1 + 0 ≤ _; omega) (by show ks + 11 + 0 ≤ _; omega) (fun r9 h3 hpo hr9 => ?_) (fun x9 hs9 hx9 hpo => ?_)
    · obtain ⟨⟨tx3, L3, hI3⟩, ln3, e3, b7, rfl, ho3⟩ := txt_c2 (A := (0 ≤ (xs (i + (1 : Int32)).toInt.toNat).toInt ∧ (xs (i + (1 : Int32)).toInt.toNat).toInt ≤ (L : Int))) (v := (((xs (i + (1 : Int32)).toInt.toNat).toInt.toNat : Nat) : Int)) (tx2 := tx) (L2 := (xs (i + (1 : Int32)).toInt.toNat).toInt.toNat) hT hI9 hr hJ hM hX hS (fun a => by have := hS.2.1; omega) hS.1 hcc hpo.2
      have ln3 : h3.length = h2.length := ln3
      obtain ⟨_, _, _, _, _, _, _, _, hB3, _⟩ := hI3.num
      have hs3 := hB3.1.1
      show WpN (gp g0 wp) CLS p l e R s m args below meth c Q D_0.2.2.1 kc0 ks0 319 [some (.ref 7000000000003), some (.ref 0), some (.ref 124), some (.ref 146), some (.ref 147), some (.int i), some (.int a6), v7, v8] (h3, kc + 1, ks + 11) [.int b7]
      refine g_storeI act (gx gp_0 (w := 0x7014110) rfl (by decide) rfl) (a := 7) (n := 321) rfl rfl (L2 := [some (.ref 7000000000003), some (.ref 0), some (.ref 124), some (.ref 146), some (.ref 147), some (.int i), some (.int a6), some (.int b7), v8]) rfl ?_
      refine g_goto act (gx gp_0 (w := 0x72507) rfl (by decide) rfl) (n := 1829) rfl ?_
      exact K _ _ _ _ _ _ _ _ _ _ _ hI3 (pt_step hP (by decide) (by decide) (by rw [ln3]; omega))
    · exact absurd hpo.1 (by omega)
  · exact absurd hpo.1 (by omega)

theorem lb_324 (hTY : TYg g0) (act : Act SSX TBL (gp g0 wp) CLS bl xs D_0 p l s m args meth c) (hEnd : EndN SSX TBL (gp g0 wp) CLS D_0 p l e R s m args below meth c Q kc0 ks0 15 616 KC9 KS9 PE) (hf : 15 ≤ R.frames) (hl : 616 ≤ R.locals) (hc : 638008 ≤ R.cells + kc0) (hsl : 7182079 ≤ R.slots + ks0) (hI : LJ hs R0 tx L ec ep) (hP : PT kc ks hs.length t) (ht : t ≤ 511) (hi : i.toInt = 6 * (t : Int)) (hib : i.toInt + 6 ≤ (bl : Int)) (K : ∀ (h2 : List CE) (R2 : List Nat) (tx2 : Nat → Int) (L2 : Nat) (ec2 ep2 : Int) (kc2 ks2 : Nat) (v6 v7 v8 : Option Value), LJ h2 R2 tx2 L2 ec2 ep2 → PT kc2 ks2 h2.length (t + 1) → WpN (gp g0 wp) CLS p l e R s m args below meth c Q D_0.2.2.1 kc0 ks0 1829 [some (.ref 7000000000003), some (.ref 0), some (.ref 124), some (.ref 146), some (.ref 147), some (.int i), v6, v7, v8] (h2, kc2, ks2) []) : WpN (gp g0 wp) CLS p l e R s m args below meth c Q D_0.2.2.1 kc0 ks0 324 [some (.ref 7000000000003), some (.ref 0), some (.ref 124), some (.ref 146), some (.ref 147), some (.int i), v6, v7, v8] (hs, kc, ks) [] := by
  have hTY9 : TYg (gp g0 wp) := hTY
  obtain ⟨p1, p2, p3⟩ := id hP
  have j1 := i_k (i := i) (k := 1) (by omega) (by omega) (by decide) (by decide)
  have j2 := i_k (i := i) (k := 2) (by omega) (by omega) (by decide) (by decide)
  have j3 := i_k (i := i) (k := 3) (by omega) (by omega) (by decide) (by decide)
  have j4 := i_k (i := i) (k := 4) (by omega) (by omega) (by decide) (by decide)
  have j5 := i_k (i := i) (k := 5) (by omega) (by omega) (by decide) (by decide)
  rw [show (1 : Int32).toInt = 1 from rfl] at j1
  rw [show (2 : Int32).toInt = 2 from rfl] at j2
  rw [show (3 : Int32).toInt = 3 from rfl] at j3
  rw [show (4 : Int32).toInt = 4 from rfl] at j4
  rw [show (5 : Int32).toInt = 5 from rfl] at j5
  obtain ⟨hT, hI9, hr, fv, w, pv, nl, n, ng, nr, np, ch, g, hS, hJ, hM, hX⟩ := id hI
  obtain ⟨F, hC⟩ := id hJ.1
  obtain ⟨w0, w1, w2, w3, w4, w5, w6, w7, w8, w9, wa, wb, wc, wd, we⟩ := id hC.2.2.2.2.2.1
  have h148 : 148 ≤ hs.length := by
    rw [← hT.1]
    have := (List.getElem?_eq_some_iff.mp hr.2.2.2.2.2.2.2.2).1
    omega
  have hl40 : hs.length + 40 ≤ 6999999999999 := by omega
  have hl3 : hs.length + 3 ≤ 6999999999999 := by omega
  have hl0 : hs.length ≤ 6999999999999 := by omega
  refine g_loadA act (gx gp_0 (w := 0x1014503) rfl (by decide) rfl) (a := 1) (n := 325) rfl rfl rfl ?_
  refine g_loadA act (gx gp_0 (w := 0x3014603) rfl (by decide) rfl) (a := 3) (n := 326) rfl rfl rfl ?_
  refine n_call tb_pres act hEnd (gx (P := G_call) gp_0 (w := 0x4000000000000040c2200009a01490f) rfl (by decide) rfl) (d' := D_154) rfl (f' := 14) (lam' := 252) (mc := 730) (ms := 8050) (as := [.ref 0, .ref 146]) (rest := []) (wx_load (PO := LPO hs tx L) (fun g0 q => cx_load q h148 hl40 hC.2.2.1 hC.1 hC.2.2.2.2.2.2.1 hC.2.2.2.2.2.2.2.1 hC.2.2.2.2.2.2.2.2 hJ.2.2.f) hTY9 hC.1.1 (ld_h0 hT hr hJ.2.2) ld_hx) (show (2 : Nat) = fb 0x4000000000000040c2200009a01490f % 16 by decide) (by show (2 : Nat) ≤ 3; decide) (fun q => absurd q (by decide)) (by omega) (by show 8 + (3 + 11) + 252 ≤ R.locals; omega) (by show (0 : Nat) ≤ 8; decide) (by show kc + 730 ≤ _; omega) (by show ks + 8050 ≤ _; omega) (fun r9 h2 hpo hr9 => ?_) (fun x9 hs9 hx9 hpo => ?_)
  · refine n_al9 (fun hA9 => ?_)
    have hA9 : AL9 h2 := hA9
    obtain ⟨a6, rfl, hln, hM2, hX2, hcc⟩ := ld_c1 hT hr hJ hM hX (show PW1 3 (LPO hs tx L) 0 _ h2 from hpo)
    have hln : h2.length ≤ hs.length + 730 := by omega
    have hs124 := hM2.1.1.1
    show WpN (gp g0 wp) CLS p l e R s m args below meth c Q D_0.2.2.1 kc0 ks0 329 [some (.ref 7000000000003), some (.ref 0), some (.ref 124), some (.ref 146), some (.ref 147), some (.int i), v6, v7, v8] (h2, kc + 730, ks + 8050) [.int a6]
    refine g_storeI act (gx gp_0 (w := 0x6014b10) rfl (by decide) rfl) (a := 6) (n := 331) rfl rfl (L2 := [some (.ref 7000000000003), some (.ref 0), some (.ref 124), some (.ref 146), some (.ref 147), some (.int i), some (.int a6), v7, v8]) rfl ?_
    refine g_loadA act (gx gp_0 (w := 0x2014c03) rfl (by decide) rfl) (a := 2) (n := 332) rfl rfl rfl ?_
    refine n_call tb_pres act hEnd (gx (P := G_call) gp_0 (w := 0xa000000000000c08110000ef014f0f) rfl (by decide) rfl) (d' := D_239) rfl (f' := 6) (lam' := 132) (mc := 0) (ms := 0) (as := [.ref 124]) (rest := []) (bx_ld hM2 hX2 hS.1 hS.2.1) (show (1 : Nat) = fb 0xa000000000000c08110000ef014f0f % 16 by decide) (by show (1 : Nat) ≤ 2; decide) (fun _ => ⟨_, _, rfl, _, shp_at hs124, Or.inr (show fb 0xa000000000000c08110000ef014f0f >>> 68 = 10 by decide)⟩) (by omega) (by show 8 + (2 + 11) + 132 ≤ R.locals; omega) (by show (0 : Nat) ≤ 8; decide) (by show kc + 730 + 0 ≤ _; omega) (by show ks + 8050 + 0 ≤ _; omega) (fun r9 h3 hpo hr9 => ?_) (fun x9 hs9 hx9 hpo => ?_)
    · obtain ⟨⟨R3, tx3, L3, ec3, ep3, hI3⟩, ln3, e3, b7, rfl, ho3⟩ := ld_c2 hT hI9 hr hJ hM hX hl40 hS hM2 hA9 hcc hpo.2
      have ln3 : h3.length = h2.length := ln3
      obtain ⟨_, _, _, _, _, _, _, _, hB3, _⟩ := hI3.num
      have hs3 := hB3.1.1
      show WpN (gp g0 wp) CLS p l e R s m args below meth c Q D_0.2.2.1 kc0 ks0 335 [some (.ref 7000000000003), some (.ref 0), some (.ref 124), some (.ref 146), some (.ref 147), some (.int i), some (.int a6), v7, v8] (h3, kc + 730, ks + 8050) [.int b7]
      refine g_storeI act (gx gp_0 (w := 0x7015110) rfl (by decide) rfl) (a := 7) (n := 337) rfl rfl (L2 := [some (.ref 7000000000003), some (.ref 0), some (.ref 124), some (.ref 146), some (.ref 147), some (.int i), some (.int a6), some (.int b7), v8]) rfl ?_
      refine g_goto act (gx gp_0 (w := 0x72507) rfl (by decide) rfl) (n := 1829) rfl ?_
      exact K _ _ _ _ _ _ _ _ _ _ _ hI3 (pt_step hP (by decide) (by decide) (by rw [ln3]; omega))
    · exact absurd hpo.1 (by omega)
  · exact absurd hpo.1 (by omega)

theorem lb_340 (hTY : TYg g0) (act : Act SSX TBL (gp g0 wp) CLS bl xs D_0 p l s m args meth c) (hEnd : EndN SSX TBL (gp g0 wp) CLS D_0 p l e R s m args below meth c Q kc0 ks0 15 616 KC9 KS9 PE) (hf : 15 ≤ R.frames) (hl : 616 ≤ R.locals) (hc : 638008 ≤ R.cells + kc0) (hsl : 7182079 ≤ R.slots + ks0) (hI : LJ hs R0 tx L ec ep) (hP : PT kc ks hs.length t) (ht : t ≤ 511) (hi : i.toInt = 6 * (t : Int)) (hib : i.toInt + 6 ≤ (bl : Int)) (K : ∀ (h2 : List CE) (R2 : List Nat) (tx2 : Nat → Int) (L2 : Nat) (ec2 ep2 : Int) (kc2 ks2 : Nat) (v6 v7 v8 : Option Value), LJ h2 R2 tx2 L2 ec2 ep2 → PT kc2 ks2 h2.length (t + 1) → WpN (gp g0 wp) CLS p l e R s m args below meth c Q D_0.2.2.1 kc0 ks0 1829 [some (.ref 7000000000003), some (.ref 0), some (.ref 124), some (.ref 146), some (.ref 147), some (.int i), v6, v7, v8] (h2, kc2, ks2) []) : WpN (gp g0 wp) CLS p l e R s m args below meth c Q D_0.2.2.1 kc0 ks0 340 [some (.ref 7000000000003), some (.ref 0), some (.ref 124), some (.ref 146), some (.ref 147), some (.int i), v6, v7, v8] (hs, kc, ks) [] := by
  have hTY9 : TYg (gp g0 wp) := hTY
  obtain ⟨p1, p2, p3⟩ := id hP
  have j1 := i_k (i := i) (k := 1) (by omega) (by omega) (by decide) (by decide)
  have j2 := i_k (i := i) (k := 2) (by omega) (by omega) (by decide) (by decide)
  have j3 := i_k (i := i) (k := 3) (by omega) (by omega) (by decide) (by decide)
  have j4 := i_k (i := i) (k := 4) (by omega) (by omega) (by decide) (by decide)
  have j5 := i_k (i := i) (k := 5) (by omega) (by omega) (by decide) (by decide)
  rw [show (1 : Int32).toInt = 1 from rfl] at j1
  rw [show (2 : Int32).toInt = 2 from rfl] at j2
  rw [show (3 : Int32).toInt = 3 from rfl] at j3
  rw [show (4 : Int32).toInt = 4 from rfl] at j4
  rw [show (5 : Int32).toInt = 5 from rfl] at j5
  refine g_loadA act (gx gp_0 (w := 0x1015503) rfl (by decide) rfl) (a := 1) (n := 341) rfl rfl rfl ?_
  refine n_call tb_pres act hEnd (gx (P := G_call) gp_0 (w := 0x1000000000000c041100001701580f) rfl (by decide) rfl) (d' := D_23) rfl (f' := 0) (lam' := 0) (mc := 0) (ms := 0) (as := [.ref 0]) (rest := []) ((sem_useQ (c := c23_0Q) (es := []) (vs := []) (ws := [.ref 0]) (sc23_0Q (handsB_KCQ invC_KCQ)) (d := D_23) rfl rfl rfl rfl (by decide) hTY9 hI.1 hI.2.1 (by show hs.length + 0 ≤ _; omega) (fun i hi => absurd hi (Nat.not_lt_zero _)) (Or.inl ⟨rfl, ⟨0, 501, rfl, hI.2.2.1.1, by decide, by decide⟩, trivial⟩)).imp (fun kd r h2 h => w_useX (by decide +kernel) h)) (show (1 : Nat) = fb 0x1000000000000c041100001701580f % 16 by decide) (by show (1 : Nat) ≤ 1; decide) (fun _ => ⟨_, _, rfl, _, shp_at (ty_shpQ hI.1 hI.2.2.1.1 (by decide) (a := 0) (b := 7) rfl rfl), Or.inr (show fb 0x1000000000000c041100001701580f >>> 68 = 1 by decide)⟩) (by omega) (by show 8 + (1 + 11) + 0 ≤ R.locals; omega) (by show (0 : Nat) ≤ 8; decide) (by show kc + 0 ≤ _; omega) (by show ks + 0 ≤ _; omega) (fun r9 h2 hpo hr9 => ?_) (fun x9 hs9 hx9 hpo => ?_)
  · obtain ⟨-, ⟨a6, rfl⟩, R2, hXX, hln⟩ := hpo
    have hln : h2.length ≤ hs.length + 0 := hln
    have hI2 := hI.hx hXX
    show WpN (gp g0 wp) CLS p l e R s m args below meth c Q D_0.2.2.1 kc0 ks0 344 [some (.ref 7000000000003), some (.ref 0), some (.ref 124), some (.ref 146), some (.ref 147), some (.int i), v6, v7, v8] (h2, kc, ks) [.int a6]
    refine g_pop act (gx gp_0 (w := 0x1593f) rfl (by decide) rfl) (n := 345) rfl rfl ?_
    refine g_loadA act (gx gp_0 (w := 0x2015a03) rfl (by decide) rfl) (a := 2) (n := 346) rfl rfl rfl ?_
    obtain ⟨hT2, hI29, hr2, fv, w, pv, nl, n, ng, nr, np, ch, g, hS2, hJ2, hM2, hX2⟩ := id hI2
    obtain ⟨-, -, -, ⟨c9, e12, hec⟩, ⟨d9, e13, hed⟩, -⟩ := id hX2
    refine n_call tb_pres act hEnd (gx (P := G_call) gp_0 (w := 0xa000000000000c04110000ca015d0f) rfl (by decide) rfl) (d' := D_202) rfl (f' := 0) (lam' := 0) (mc := 0) (ms := 0) (as := [.ref 124]) (rest := []) (bx_errorCode e12 hec hM2) (show (1 : Nat) = fb 0xa000000000000c04110000ca015d0f % 16 by decide) (by show (1 : Nat) ≤ 1; decide) (fun _ => ⟨_, _, rfl, _, shp_at hM2.1.1.1, Or.inr (show fb 0xa000000000000c04110000ca015d0f >>> 68 = 10 by decide)⟩) (by omega) (by show 8 + (1 + 11) + 0 ≤ R.locals; omega) (by show (0 : Nat) ≤ 8; decide) (by show kc + 0 ≤ _; omega) (by show ks + 0 ≤ _; omega) (fun r9 h3 hpo hr9 => ?_) (fun x9 hs9 hx9 hpo => ?_)
    · obtain ⟨cc9, vv9, ⟨b7, rfl, hb7⟩, e3, f3, hM3⟩ : ∃ (c : Int32) (v : Int), QEnd h2 h3 fv w pv nl n ng nr np c r9 v := by
        rcases hpo.2 with ⟨-, q9⟩
        all_goals exact ⟨_, _, q9⟩
      have hI3 := lj_z0 hT2 hI29 hr2 hS2 hJ2 hM2 hX2 f3 hM3
      have ln3 : h3.length = h2.length := f3.1
      show WpN (gp g0 wp) CLS p l e R s m args below meth c Q D_0.2.2.1 kc0 ks0 349 [some (.ref 7000000000003), some (.ref 0), some (.ref 124), some (.ref 146), some (.ref 147), some (.int i), v6, v7, v8] (h3, kc, ks) [.int b7]
      refine g_pop act (gx gp_0 (w := 0x15e3f) rfl (by decide) rfl) (n := 350) rfl rfl ?_
      refine g_goto act (gx gp_0 (w := 0x72507) rfl (by decide) rfl) (n := 1829) rfl ?_
      exact K _ _ _ _ _ _ _ _ _ _ _ hI3 (pt_step0 hP (by rw [ln3]; omega))
    · exact absurd hpo.1 (by omega)
  · exact absurd hpo.1 (by omega)

theorem lb_353 (hTY : TYg g0) (act : Act SSX TBL (gp g0 wp) CLS bl xs D_0 p l s m args meth c) (hEnd : EndN SSX TBL (gp g0 wp) CLS D_0 p l e R s m args below meth c Q kc0 ks0 15 616 KC9 KS9 PE) (hf : 15 ≤ R.frames) (hl : 616 ≤ R.locals) (hc : 638008 ≤ R.cells + kc0) (hsl : 7182079 ≤ R.slots + ks0) (hI : LJ hs R0 tx L ec ep) (hP : PT kc ks hs.length t) (ht : t ≤ 511) (hi : i.toInt = 6 * (t : Int)) (hib : i.toInt + 6 ≤ (bl : Int)) (K : ∀ (h2 : List CE) (R2 : List Nat) (tx2 : Nat → Int) (L2 : Nat) (ec2 ep2 : Int) (kc2 ks2 : Nat) (v6 v7 v8 : Option Value), LJ h2 R2 tx2 L2 ec2 ep2 → PT kc2 ks2 h2.length (t + 1) → WpN (gp g0 wp) CLS p l e R s m args below meth c Q D_0.2.2.1 kc0 ks0 1829 [some (.ref 7000000000003), some (.ref 0), some (.ref 124), some (.ref 146), some (.ref 147), some (.int i), v6, v7, v8] (h2, kc2, ks2) []) : WpN (gp g0 wp) CLS p l e R s m args below meth c Q D_0.2.2.1 kc0 ks0 353 [some (.ref 7000000000003), some (.ref 0), some (.ref 124), some (.ref 146), some (.ref 147), some (.int i), v6, v7, v8] (hs, kc, ks) [] := by
  have hTY9 : TYg (gp g0 wp) := hTY
  obtain ⟨p1, p2, p3⟩ := id hP
  have j1 := i_k (i := i) (k := 1) (by omega) (by omega) (by decide) (by decide)
  have j2 := i_k (i := i) (k := 2) (by omega) (by omega) (by decide) (by decide)
  have j3 := i_k (i := i) (k := 3) (by omega) (by omega) (by decide) (by decide)
  have j4 := i_k (i := i) (k := 4) (by omega) (by omega) (by decide) (by decide)
  have j5 := i_k (i := i) (k := 5) (by omega) (by omega) (by decide) (by decide)
  rw [show (1 : Int32).toInt = 1 from rfl] at j1
  rw [show (2 : Int32).toInt = 2 from rfl] at j2
  rw [show (3 : Int32).toInt = 3 from rfl] at j3
  rw [show (4 : Int32).toInt = 4 from rfl] at j4
  rw [show (5 : Int32).toInt = 5 from rfl] at j5
  refine g_loadA act (gx gp_0 (w := 0x1016203) rfl (by decide) rfl) (a := 1) (n := 354) rfl rfl rfl ?_
  refine n_call tb_pres act hEnd (gx (P := G_call) gp_0 (w := 0x1000000000000c041100001801650f) rfl (by decide) rfl) (d' := D_24) rfl (f' := 0) (lam' := 0) (mc := 0) (ms := 0) (as := [.ref 0]) (rest := []) ((sem_useQ (c := c24_0Q) (es := []) (vs := []) (ws := [.ref 0]) (sc24_0Q (handsB_KCQ invC_KCQ)) (d := D_24) rfl rfl rfl rfl (by decide) hTY9 hI.1 hI.2.1 (by show hs.length + 0 ≤ _; omega) (fun i hi => absurd hi (Nat.not_lt_zero _)) (Or.inl ⟨rfl, ⟨0, 501, rfl, hI.2.2.1.1, by decide, by decide⟩, trivial⟩)).imp (fun kd r h2 h => w_useX (by decide +kernel) h)) (show (1 : Nat) = fb 0x1000000000000c041100001801650f % 16 by decide) (by show (1 : Nat) ≤ 1; decide) (fun _ => ⟨_, _, rfl, _, shp_at (ty_shpQ hI.1 hI.2.2.1.1 (by decide) (a := 0) (b := 7) rfl rfl), Or.inr (show fb 0x1000000000000c041100001801650f >>> 68 = 1 by decide)⟩) (by omega) (by show 8 + (1 + 11) + 0 ≤ R.locals; omega) (by show (0 : Nat) ≤ 8; decide) (by show kc + 0 ≤ _; omega) (by show ks + 0 ≤ _; omega) (fun r9 h2 hpo hr9 => ?_) (fun x9 hs9 hx9 hpo => ?_)
  · obtain ⟨-, ⟨a6, rfl⟩, R2, hXX, hln⟩ := hpo
    have hln : h2.length ≤ hs.length + 0 := hln
    have hI2 := hI.hx hXX
    show WpN (gp g0 wp) CLS p l e R s m args below meth c Q D_0.2.2.1 kc0 ks0 357 [some (.ref 7000000000003), some (.ref 0), some (.ref 124), some (.ref 146), some (.ref 147), some (.int i), v6, v7, v8] (h2, kc, ks) [.int a6]
    refine g_pop act (gx gp_0 (w := 0x1663f) rfl (by decide) rfl) (n := 358) rfl rfl ?_
    refine g_loadA act (gx gp_0 (w := 0x2016703) rfl (by decide) rfl) (a := 2) (n := 359) rfl rfl rfl ?_
    obtain ⟨hT2, hI29, hr2, fv, w, pv, nl, n, ng, nr, np, ch, g, hS2, hJ2, hM2, hX2⟩ := id hI2
    obtain ⟨-, -, -, ⟨c9, e12, hec⟩, ⟨d9, e13, hed⟩, -⟩ := id hX2
    refine n_call tb_pres act hEnd (gx (P := G_call) gp_0 (w := 0xa000000000000c04110000cb016a0f) rfl (by decide) rfl) (d' := D_203) rfl (f' := 0) (lam' := 0) (mc := 0) (ms := 0) (as := [.ref 124]) (rest := []) (bx_errorPosition e13 hed hM2) (show (1 : Nat) = fb 0xa000000000000c04110000cb016a0f % 16 by decide) (by show (1 : Nat) ≤ 1; decide) (fun _ => ⟨_, _, rfl, _, shp_at hM2.1.1.1, Or.inr (show fb 0xa000000000000c04110000cb016a0f >>> 68 = 10 by decide)⟩) (by omega) (by show 8 + (1 + 11) + 0 ≤ R.locals; omega) (by show (0 : Nat) ≤ 8; decide) (by show kc + 0 ≤ _; omega) (by show ks + 0 ≤ _; omega) (fun r9 h3 hpo hr9 => ?_) (fun x9 hs9 hx9 hpo => ?_)
    · obtain ⟨cc9, vv9, ⟨b7, rfl, hb7⟩, e3, f3, hM3⟩ : ∃ (c : Int32) (v : Int), QEnd h2 h3 fv w pv nl n ng nr np c r9 v := by
        rcases hpo.2 with ⟨-, q9⟩
        all_goals exact ⟨_, _, q9⟩
      have hI3 := lj_z0 hT2 hI29 hr2 hS2 hJ2 hM2 hX2 f3 hM3
      have ln3 : h3.length = h2.length := f3.1
      show WpN (gp g0 wp) CLS p l e R s m args below meth c Q D_0.2.2.1 kc0 ks0 362 [some (.ref 7000000000003), some (.ref 0), some (.ref 124), some (.ref 146), some (.ref 147), some (.int i), v6, v7, v8] (h3, kc, ks) [.int b7]
      refine g_pop act (gx gp_0 (w := 0x16b3f) rfl (by decide) rfl) (n := 363) rfl rfl ?_
      refine g_goto act (gx gp_0 (w := 0x72507) rfl (by decide) rfl) (n := 1829) rfl ?_
      exact K _ _ _ _ _ _ _ _ _ _ _ hI3 (pt_step0 hP (by rw [ln3]; omega))
    · exact absurd hpo.1 (by omega)
  · exact absurd hpo.1 (by omega)

theorem lb_366 (hTY : TYg g0) (act : Act SSX TBL (gp g0 wp) CLS bl xs D_0 p l s m args meth c) (hEnd : EndN SSX TBL (gp g0 wp) CLS D_0 p l e R s m args below meth c Q kc0 ks0 15 616 KC9 KS9 PE) (hf : 15 ≤ R.frames) (hl : 616 ≤ R.locals) (hc : 638008 ≤ R.cells + kc0) (hsl : 7182079 ≤ R.slots + ks0) (hI : LJ hs R0 tx L ec ep) (hP : PT kc ks hs.length t) (ht : t ≤ 511) (hi : i.toInt = 6 * (t : Int)) (hib : i.toInt + 6 ≤ (bl : Int)) (K : ∀ (h2 : List CE) (R2 : List Nat) (tx2 : Nat → Int) (L2 : Nat) (ec2 ep2 : Int) (kc2 ks2 : Nat) (v6 v7 v8 : Option Value), LJ h2 R2 tx2 L2 ec2 ep2 → PT kc2 ks2 h2.length (t + 1) → WpN (gp g0 wp) CLS p l e R s m args below meth c Q D_0.2.2.1 kc0 ks0 1829 [some (.ref 7000000000003), some (.ref 0), some (.ref 124), some (.ref 146), some (.ref 147), some (.int i), v6, v7, v8] (h2, kc2, ks2) []) : WpN (gp g0 wp) CLS p l e R s m args below meth c Q D_0.2.2.1 kc0 ks0 366 [some (.ref 7000000000003), some (.ref 0), some (.ref 124), some (.ref 146), some (.ref 147), some (.int i), v6, v7, v8] (hs, kc, ks) [] := by
  have hTY9 : TYg (gp g0 wp) := hTY
  obtain ⟨p1, p2, p3⟩ := id hP
  have j1 := i_k (i := i) (k := 1) (by omega) (by omega) (by decide) (by decide)
  have j2 := i_k (i := i) (k := 2) (by omega) (by omega) (by decide) (by decide)
  have j3 := i_k (i := i) (k := 3) (by omega) (by omega) (by decide) (by decide)
  have j4 := i_k (i := i) (k := 4) (by omega) (by omega) (by decide) (by decide)
  have j5 := i_k (i := i) (k := 5) (by omega) (by omega) (by decide) (by decide)
  rw [show (1 : Int32).toInt = 1 from rfl] at j1
  rw [show (2 : Int32).toInt = 2 from rfl] at j2
  rw [show (3 : Int32).toInt = 3 from rfl] at j3
  rw [show (4 : Int32).toInt = 4 from rfl] at j4
  rw [show (5 : Int32).toInt = 5 from rfl] at j5
  refine g_loadA act (gx gp_0 (w := 0x1016f03) rfl (by decide) rfl) (a := 1) (n := 367) rfl rfl rfl ?_
  refine g_loadA act (gx gp_0 (w := 0x17003) rfl (by decide) rfl) (a := 0) (n := 368) rfl rfl rfl ?_
  refine g_loadI act (gx gp_0 (w := 0x5017202) rfl (by decide) rfl) (a := 5) (n := 370) rfl rfl rfl ?_
  refine g_constI act (gx gp_0 (w := 0x40000000c00000009000000017301) rfl (by decide) rfl) (n := 371) (x := (1 : Int32)) (by decide) rfl ?_
  refine g_iadd act (gx gp_0 (w := 0x1740a) rfl (by decide) rfl) (n := 372) rfl ?_
  refine g_sald act (gx gp_0 (w := 0x1751a) rfl (by decide) rfl) (n := 373) rfl (by omega) (by omega) ?_
  refine g_loadA act (gx gp_0 (w := 0x3017603) rfl (by decide) rfl) (a := 3) (n := 374) rfl rfl rfl ?_
  refine n_call tb_pres act hEnd (gx (P := G_call) gp_0 (w := 0x400000000000004103300008e01790f) rfl (by decide) rfl) (d' := D_142) rfl (f' := 9) (lam' := 141) (mc := 1) (ms := 11) (as := [.ref 0, .int (xs (i + (1 : Int32)).toInt.toNat), .ref 146]) (rest := []) ((sem_useQ (c := c142_0Q) (es := [(-2147483648, 2147483647, false)]) (vs := [(xs (i + (1 : Int32)).toInt.toNat)]) (ws := [.ref 0, .int (xs (i + (1 : Int32)).toInt.toNat), .ref 146]) (sc142_0Q (handsB_KCQ invC_KCQ)) (d := D_142) rfl rfl rfl rfl (by decide) hTY9 hI.1 hI.2.1 (by show hs.length + 1 ≤ _; omega) (hvF (by decide) rfl) (Or.inl ⟨rfl, ⟨0, 501, rfl, hI.2.2.1.1, by decide, by decide⟩, (Or.inr ⟨(xs (i + (1 : Int32)).toInt.toNat), [], rfl, rfl, rfl, (Or.inl ⟨rfl, ⟨146, 55, rfl, hI.2.2.1.2.2.2.2.2.2.2.1, by decide, by decide⟩, trivial⟩)⟩)⟩)).imp (fun kd r h2 h => w_useX (by decide +kernel) h)) (show (3 : Nat) = fb 0x400000000000004103300008e01790f % 16 by decide) (by show (3 : Nat) ≤ 4; decide) (fun q => absurd q (by decide)) (by omega) (by show 8 + (4 + 11) + 141 ≤ R.locals; omega) (by show (0 : Nat) ≤ 8; decide) (by show kc + 1 ≤ _; omega) (by show ks + 11 ≤ _; omega) (fun r9 h2 hpo hr9 => ?_) (fun x9 hs9 hx9 hpo => ?_)
  · obtain ⟨-, ⟨a6, rfl⟩, R2, hXX, hln⟩ := hpo
    have hln : h2.length ≤ hs.length + 1 := hln
    have hI2 := hI.hx hXX
    show WpN (gp g0 wp) CLS p l e R s m args below meth c Q D_0.2.2.1 kc0 ks0 377 [some (.ref 7000000000003), some (.ref 0), some (.ref 124), some (.ref 146), some (.ref 147), some (.int i), v6, v7, v8] (h2, kc + 1, ks + 11) [.int a6]
    refine g_storeI act (gx gp_0 (w := 0x6017b10) rfl (by decide) rfl) (a := 6) (n := 379) rfl rfl (L2 := [some (.ref 7000000000003), some (.ref 0), some (.ref 124), some (.ref 146), some (.ref 147), some (.int i), some (.int a6), v7, v8]) rfl ?_
    refine g_loadA act (gx gp_0 (w := 0x2017c03) rfl (by decide) rfl) (a := 2) (n := 380) rfl rfl rfl ?_
    refine g_loadA act (gx gp_0 (w := 0x17d03) rfl (by decide) rfl) (a := 0) (n := 381) rfl rfl rfl ?_
    refine g_loadI act (gx gp_0 (w := 0x5017f02) rfl (by decide) rfl) (a := 5) (n := 383) rfl rfl rfl ?_
    refine g_constI act (gx gp_0 (w := 0x40000000c00000009000000018001) rfl (by decide) rfl) (n := 384) (x := (1 : Int32)) (by decide) rfl ?_
    refine g_iadd act (gx gp_0 (w := 0x1810a) rfl (by decide) rfl) (n := 385) rfl ?_
    refine g_sald act (gx gp_0 (w := 0x1821a) rfl (by decide) rfl) (n := 386) rfl (by omega) (by omega) ?_
    obtain ⟨hT2, hI29, hr2, fv, w, pv, nl, n, ng, nr, np, ch, g, hS2, hJ2, hM2, hX2⟩ := id hI2
    obtain ⟨-, -, -, ⟨c9, e12, hec⟩, ⟨d9, e13, hed⟩, -⟩ := id hX2
    refine n_call tb_pres act hEnd (gx (P := G_call) gp_0 (w := 0xa000000000000c08220000c301850f) rfl (by decide) rfl) (d' := D_195) rfl (f' := 1) (lam' := 22) (mc := 0) (ms := 0) (as := [.ref 124, .int (xs (i + (1 : Int32)).toInt.toNat)]) (rest := []) (bx_count hM2) (show (2 : Nat) = fb 0xa000000000000c08220000c301850f % 16 by decide) (by show (2 : Nat) ≤ 2; decide) (fun _ => ⟨_, _, rfl, _, shp_at hM2.1.1.1, Or.inr (show fb 0xa000000000000c08220000c301850f >>> 68 = 10 by decide)⟩) (by omega) (by show 8 + (2 + 11) + 22 ≤ R.locals; omega) (by show (0 : Nat) ≤ 8; decide) (by show kc + 1 + 0 ≤ _; omega) (by show ks + 11 + 0 ≤ _; omega) (fun r9 h3 hpo hr9 => ?_) (fun x9 hs9 hx9 hpo => ?_)
    · obtain ⟨cc9, vv9, ⟨b7, rfl, hb7⟩, e3, f3, hM3⟩ : ∃ (c : Int32) (v : Int), QEnd h2 h3 fv w pv nl n ng nr np c r9 v := by
        rcases hpo.2 with ⟨-, q9⟩ | ⟨-, q9⟩
        all_goals exact ⟨_, _, q9⟩
      have hI3 := lj_z0 hT2 hI29 hr2 hS2 hJ2 hM2 hX2 f3 hM3
      have ln3 : h3.length = h2.length := f3.1
      show WpN (gp g0 wp) CLS p l e R s m args below meth c Q D_0.2.2.1 kc0 ks0 389 [some (.ref 7000000000003), some (.ref 0), some (.ref 124), some (.ref 146), some (.ref 147), some (.int i), some (.int a6), v7, v8] (h3, kc + 1, ks + 11) [.int b7]
      refine g_storeI act (gx gp_0 (w := 0x7018710) rfl (by decide) rfl) (a := 7) (n := 391) rfl rfl (L2 := [some (.ref 7000000000003), some (.ref 0), some (.ref 124), some (.ref 146), some (.ref 147), some (.int i), some (.int a6), some (.int b7), v8]) rfl ?_
      refine g_goto act (gx gp_0 (w := 0x72507) rfl (by decide) rfl) (n := 1829) rfl ?_
      exact K _ _ _ _ _ _ _ _ _ _ _ hI3 (pt_step hP (by decide) (by decide) (by rw [ln3]; omega))
    · exact absurd hpo.1 (by omega)
  · exact absurd hpo.1 (by omega)

theorem lb_394 (hTY : TYg g0) (act : Act SSX TBL (gp g0 wp) CLS bl xs D_0 p l s m args meth c) (hEnd : EndN SSX TBL (gp g0 wp) CLS D_0 p l e R s m args below meth c Q kc0 ks0 15 616 KC9 KS9 PE) (hf : 15 ≤ R.frames) (hl : 616 ≤ R.locals) (hc : 638008 ≤ R.cells + kc0) (hsl : 7182079 ≤ R.slots + ks0) (hI : LJ hs R0 tx L ec ep) (hP : PT kc ks hs.length t) (ht : t ≤ 511) (hi : i.toInt = 6 * (t : Int)) (hib : i.toInt + 6 ≤ (bl : Int)) (K : ∀ (h2 : List CE) (R2 : List Nat) (tx2 : Nat → Int) (L2 : Nat) (ec2 ep2 : Int) (kc2 ks2 : Nat) (v6 v7 v8 : Option Value), LJ h2 R2 tx2 L2 ec2 ep2 → PT kc2 ks2 h2.length (t + 1) → WpN (gp g0 wp) CLS p l e R s m args below meth c Q D_0.2.2.1 kc0 ks0 1829 [some (.ref 7000000000003), some (.ref 0), some (.ref 124), some (.ref 146), some (.ref 147), some (.int i), v6, v7, v8] (h2, kc2, ks2) []) : WpN (gp g0 wp) CLS p l e R s m args below meth c Q D_0.2.2.1 kc0 ks0 394 [some (.ref 7000000000003), some (.ref 0), some (.ref 124), some (.ref 146), some (.ref 147), some (.int i), v6, v7, v8] (hs, kc, ks) [] := by
  have hTY9 : TYg (gp g0 wp) := hTY
  obtain ⟨p1, p2, p3⟩ := id hP
  have j1 := i_k (i := i) (k := 1) (by omega) (by omega) (by decide) (by decide)
  have j2 := i_k (i := i) (k := 2) (by omega) (by omega) (by decide) (by decide)
  have j3 := i_k (i := i) (k := 3) (by omega) (by omega) (by decide) (by decide)
  have j4 := i_k (i := i) (k := 4) (by omega) (by omega) (by decide) (by decide)
  have j5 := i_k (i := i) (k := 5) (by omega) (by omega) (by decide) (by decide)
  rw [show (1 : Int32).toInt = 1 from rfl] at j1
  rw [show (2 : Int32).toInt = 2 from rfl] at j2
  rw [show (3 : Int32).toInt = 3 from rfl] at j3
  rw [show (4 : Int32).toInt = 4 from rfl] at j4
  rw [show (5 : Int32).toInt = 5 from rfl] at j5
  refine g_loadA act (gx gp_0 (w := 0x1018b03) rfl (by decide) rfl) (a := 1) (n := 395) rfl rfl rfl ?_
  refine g_loadA act (gx gp_0 (w := 0x18c03) rfl (by decide) rfl) (a := 0) (n := 396) rfl rfl rfl ?_
  refine g_loadI act (gx gp_0 (w := 0x5018e02) rfl (by decide) rfl) (a := 5) (n := 398) rfl rfl rfl ?_
  refine g_constI act (gx gp_0 (w := 0x40000000c00000009000000018f01) rfl (by decide) rfl) (n := 399) (x := (1 : Int32)) (by decide) rfl ?_
  refine g_iadd act (gx gp_0 (w := 0x1900a) rfl (by decide) rfl) (n := 400) rfl ?_
  refine g_sald act (gx gp_0 (w := 0x1911a) rfl (by decide) rfl) (n := 401) rfl (by omega) (by omega) ?_
  refine g_loadA act (gx gp_0 (w := 0x19203) rfl (by decide) rfl) (a := 0) (n := 402) rfl rfl rfl ?_
  refine g_loadI act (gx gp_0 (w := 0x5019402) rfl (by decide) rfl) (a := 5) (n := 404) rfl rfl rfl ?_
  refine g_constI act (gx gp_0 (w := 0x40000001400000011000000019501) rfl (by decide) rfl) (n := 405) (x := (2 : Int32)) (by decide) rfl ?_
  refine g_iadd act (gx gp_0 (w := 0x1960a) rfl (by decide) rfl) (n := 406) rfl ?_
  refine g_sald act (gx gp_0 (w := 0x1971a) rfl (by decide) rfl) (n := 407) rfl (by omega) (by omega) ?_
  refine g_loadA act (gx gp_0 (w := 0x3019803) rfl (by decide) rfl) (a := 3) (n := 408) rfl rfl rfl ?_
  refine n_call tb_pres act hEnd (gx (P := G_call) gp_0 (w := 0x4000000000000041444000098019b0f) rfl (by decide) rfl) (d' := D_152) rfl (f' := 11) (lam' := 184) (mc := 2) (ms := 22) (as := [.ref 0, .int (xs (i + (1 : Int32)).toInt.toNat), .int (xs (i + (2 : Int32)).toInt.toNat), .ref 146]) (rest := []) ((sem_useQ (c := c152_0Q) (es := [(-2147483648, 2147483647, false), (-2147483648, 2147483647, false)]) (vs := [(xs (i + (1 : Int32)).toInt.toNat), (xs (i + (2 : Int32)).toInt.toNat)]) (ws := [.ref 0, .int (xs (i + (1 : Int32)).toInt.toNat), .int (xs (i + (2 : Int32)).toInt.toNat), .ref 146]) (sc152_0Q (handsB_KCQ invC_KCQ)) (d := D_152) rfl rfl rfl rfl (by decide) hTY9 hI.1 hI.2.1 (by show hs.length + 2 ≤ _; omega) (hvF (by decide) rfl) (Or.inl ⟨rfl, ⟨0, 501, rfl, hI.2.2.1.1, by decide, by decide⟩, (Or.inr ⟨(xs (i + (1 : Int32)).toInt.toNat), [(xs (i + (2 : Int32)).toInt.toNat)], rfl, rfl, rfl, (Or.inr ⟨(xs (i + (2 : Int32)).toInt.toNat), [], rfl, rfl, rfl, (Or.inl ⟨rfl, ⟨146, 55, rfl, hI.2.2.1.2.2.2.2.2.2.2.1, by decide, by decide⟩, trivial⟩)⟩)⟩)⟩)).imp (fun kd r h2 h => w_useX (by decide +kernel) h)) (show (4 : Nat) = fb 0x4000000000000041444000098019b0f % 16 by decide) (by show (4 : Nat) ≤ 5; decide) (fun q => absurd q (by decide)) (by omega) (by show 8 + (5 + 11) + 184 ≤ R.locals; omega) (by show (0 : Nat) ≤ 8; decide) (by show kc + 2 ≤ _; omega) (by show ks + 22 ≤ _; omega) (fun r9 h2 hpo hr9 => ?_) (fun x9 hs9 hx9 hpo => ?_)
  · obtain ⟨-, ⟨a6, rfl⟩, R2, hXX, hln⟩ := hpo
    have hln : h2.length ≤ hs.length + 2 := hln
    have hI2 := hI.hx hXX
    show WpN (gp g0 wp) CLS p l e R s m args below meth c Q D_0.2.2.1 kc0 ks0 411 [some (.ref 7000000000003), some (.ref 0), some (.ref 124), some (.ref 146), some (.ref 147), some (.int i), v6, v7, v8] (h2, kc + 2, ks + 22) [.int a6]
    refine g_storeI act (gx gp_0 (w := 0x6019d10) rfl (by decide) rfl) (a := 6) (n := 413) rfl rfl (L2 := [some (.ref 7000000000003), some (.ref 0), some (.ref 124), some (.ref 146), some (.ref 147), some (.int i), some (.int a6), v7, v8]) rfl ?_
    refine g_loadA act (gx gp_0 (w := 0x2019e03) rfl (by decide) rfl) (a := 2) (n := 414) rfl rfl rfl ?_
    refine g_loadA act (gx gp_0 (w := 0x19f03) rfl (by decide) rfl) (a := 0) (n := 415) rfl rfl rfl ?_
    refine g_loadI act (gx gp_0 (w := 0x501a102) rfl (by decide) rfl) (a := 5) (n := 417) rfl rfl rfl ?_
    refine g_constI act (gx gp_0 (w := 0x40000000c0000000900000001a201) rfl (by decide) rfl) (n := 418) (x := (1 : Int32)) (by decide) rfl ?_
    refine g_iadd act (gx gp_0 (w := 0x1a30a) rfl (by decide) rfl) (n := 419) rfl ?_
    refine g_sald act (gx gp_0 (w := 0x1a41a) rfl (by decide) rfl) (n := 420) rfl (by omega) (by omega) ?_
    refine g_loadA act (gx gp_0 (w := 0x1a503) rfl (by decide) rfl) (a := 0) (n := 421) rfl rfl rfl ?_
    refine g_loadI act (gx gp_0 (w := 0x501a702) rfl (by decide) rfl) (a := 5) (n := 423) rfl rfl rfl ?_
    refine g_constI act (gx gp_0 (w := 0x4000000140000001100000001a801) rfl (by decide) rfl) (n := 424) (x := (2 : Int32)) (by decide) rfl ?_
    refine g_iadd act (gx gp_0 (w := 0x1a90a) rfl (by decide) rfl) (n := 425) rfl ?_
    refine g_sald act (gx gp_0 (w := 0x1aa1a) rfl (by decide) rfl) (n := 426) rfl (by omega) (by omega) ?_
    obtain ⟨hT2, hI29, hr2, fv, w, pv, nl, n, ng, nr, np, ch, g, hS2, hJ2, hM2, hX2⟩ := id hI2
    obtain ⟨-, -, -, ⟨c9, e12, hec⟩, ⟨d9, e13, hed⟩, -⟩ := id hX2
    refine n_call tb_pres act hEnd (gx (P := G_call) gp_0 (w := 0xa000000000000c0c330000ed01ad0f) rfl (by decide) rfl) (d' := D_237) rfl (f' := 2) (lam' := 43) (mc := 0) (ms := 0) (as := [.ref 124, .int (xs (i + (1 : Int32)).toInt.toNat), .int (xs (i + (2 : Int32)).toInt.toNat)]) (rest := []) (bx_line hM2) (show (3 : Nat) = fb 0xa000000000000c0c330000ed01ad0f % 16 by decide) (by show (3 : Nat) ≤ 3; decide) (fun _ => ⟨_, _, rfl, _, shp_at hM2.1.1.1, Or.inr (show fb 0xa000000000000c0c330000ed01ad0f >>> 68 = 10 by decide)⟩) (by omega) (by show 8 + (3 + 11) + 43 ≤ R.locals; omega) (by show (0 : Nat) ≤ 8; decide) (by show kc + 2 + 0 ≤ _; omega) (by show ks + 22 + 0 ≤ _; omega) (fun r9 h3 hpo hr9 => ?_) (fun x9 hs9 hx9 hpo => ?_)
    · obtain ⟨cc9, vv9, ⟨b7, rfl, hb7⟩, e3, f3, hM3⟩ : ∃ (c : Int32) (v : Int), QEnd h2 h3 fv w pv nl n ng nr np c r9 v := by
        rcases hpo.2 with ⟨-, q9⟩ | ⟨-, q9⟩ | ⟨-, q9⟩ | ⟨-, q9⟩ | ⟨-, q9⟩ | ⟨-, q9⟩
        all_goals exact ⟨_, _, q9⟩
      have hI3 := lj_z0 hT2 hI29 hr2 hS2 hJ2 hM2 hX2 f3 hM3
      have ln3 : h3.length = h2.length := f3.1
      show WpN (gp g0 wp) CLS p l e R s m args below meth c Q D_0.2.2.1 kc0 ks0 429 [some (.ref 7000000000003), some (.ref 0), some (.ref 124), some (.ref 146), some (.ref 147), some (.int i), some (.int a6), v7, v8] (h3, kc + 2, ks + 22) [.int b7]
      refine g_storeI act (gx gp_0 (w := 0x701af10) rfl (by decide) rfl) (a := 7) (n := 431) rfl rfl (L2 := [some (.ref 7000000000003), some (.ref 0), some (.ref 124), some (.ref 146), some (.ref 147), some (.int i), some (.int a6), some (.int b7), v8]) rfl ?_
      refine g_goto act (gx gp_0 (w := 0x72507) rfl (by decide) rfl) (n := 1829) rfl ?_
      exact K _ _ _ _ _ _ _ _ _ _ _ hI3 (pt_step hP (by decide) (by decide) (by rw [ln3]; omega))
    · exact absurd hpo.1 (by omega)
  · exact absurd hpo.1 (by omega)

theorem lb_434 (hTY : TYg g0) (act : Act SSX TBL (gp g0 wp) CLS bl xs D_0 p l s m args meth c) (hEnd : EndN SSX TBL (gp g0 wp) CLS D_0 p l e R s m args below meth c Q kc0 ks0 15 616 KC9 KS9 PE) (hf : 15 ≤ R.frames) (hl : 616 ≤ R.locals) (hc : 638008 ≤ R.cells + kc0) (hsl : 7182079 ≤ R.slots + ks0) (hI : LJ hs R0 tx L ec ep) (hP : PT kc ks hs.length t) (ht : t ≤ 511) (hi : i.toInt = 6 * (t : Int)) (hib : i.toInt + 6 ≤ (bl : Int)) (K : ∀ (h2 : List CE) (R2 : List Nat) (tx2 : Nat → Int) (L2 : Nat) (ec2 ep2 : Int) (kc2 ks2 : Nat) (v6 v7 v8 : Option Value), LJ h2 R2 tx2 L2 ec2 ep2 → PT kc2 ks2 h2.length (t + 1) → WpN (gp g0 wp) CLS p l e R s m args below meth c Q D_0.2.2.1 kc0 ks0 1829 [some (.ref 7000000000003), some (.ref 0), some (.ref 124), some (.ref 146), some (.ref 147), some (.int i), v6, v7, v8] (h2, kc2, ks2) []) : WpN (gp g0 wp) CLS p l e R s m args below meth c Q D_0.2.2.1 kc0 ks0 434 [some (.ref 7000000000003), some (.ref 0), some (.ref 124), some (.ref 146), some (.ref 147), some (.int i), v6, v7, v8] (hs, kc, ks) [] := by
  have hTY9 : TYg (gp g0 wp) := hTY
  obtain ⟨p1, p2, p3⟩ := id hP
  have j1 := i_k (i := i) (k := 1) (by omega) (by omega) (by decide) (by decide)
  have j2 := i_k (i := i) (k := 2) (by omega) (by omega) (by decide) (by decide)
  have j3 := i_k (i := i) (k := 3) (by omega) (by omega) (by decide) (by decide)
  have j4 := i_k (i := i) (k := 4) (by omega) (by omega) (by decide) (by decide)
  have j5 := i_k (i := i) (k := 5) (by omega) (by omega) (by decide) (by decide)
  rw [show (1 : Int32).toInt = 1 from rfl] at j1
  rw [show (2 : Int32).toInt = 2 from rfl] at j2
  rw [show (3 : Int32).toInt = 3 from rfl] at j3
  rw [show (4 : Int32).toInt = 4 from rfl] at j4
  rw [show (5 : Int32).toInt = 5 from rfl] at j5
  refine g_loadA act (gx gp_0 (w := 0x101b303) rfl (by decide) rfl) (a := 1) (n := 435) rfl rfl rfl ?_
  refine g_loadA act (gx gp_0 (w := 0x1b403) rfl (by decide) rfl) (a := 0) (n := 436) rfl rfl rfl ?_
  refine g_loadI act (gx gp_0 (w := 0x501b602) rfl (by decide) rfl) (a := 5) (n := 438) rfl rfl rfl ?_
  refine g_constI act (gx gp_0 (w := 0x40000000c0000000900000001b701) rfl (by decide) rfl) (n := 439) (x := (1 : Int32)) (by decide) rfl ?_
  refine g_iadd act (gx gp_0 (w := 0x1b80a) rfl (by decide) rfl) (n := 440) rfl ?_
  refine g_sald act (gx gp_0 (w := 0x1b91a) rfl (by decide) rfl) (n := 441) rfl (by omega) (by omega) ?_
  refine g_loadA act (gx gp_0 (w := 0x1ba03) rfl (by decide) rfl) (a := 0) (n := 442) rfl rfl rfl ?_
  refine g_loadI act (gx gp_0 (w := 0x501bc02) rfl (by decide) rfl) (a := 5) (n := 444) rfl rfl rfl ?_
  refine g_constI act (gx gp_0 (w := 0x4000000140000001100000001bd01) rfl (by decide) rfl) (n := 445) (x := (2 : Int32)) (by decide) rfl ?_
  refine g_iadd act (gx gp_0 (w := 0x1be0a) rfl (by decide) rfl) (n := 446) rfl ?_
  refine g_sald act (gx gp_0 (w := 0x1bf1a) rfl (by decide) rfl) (n := 447) rfl (by omega) (by omega) ?_
  refine g_loadA act (gx gp_0 (w := 0x301c003) rfl (by decide) rfl) (a := 3) (n := 448) rfl rfl rfl ?_
  refine n_call tb_pres act hEnd (gx (P := G_call) gp_0 (w := 0x400000000000004144400009501c30f) rfl (by decide) rfl) (d' := D_149) rfl (f' := 11) (lam' := 184) (mc := 2) (ms := 22) (as := [.ref 0, .int (xs (i + (1 : Int32)).toInt.toNat), .int (xs (i + (2 : Int32)).toInt.toNat), .ref 146]) (rest := []) ((sem_useQ (c := c149_0Q) (es := [(-2147483648, 2147483647, false), (-2147483648, 2147483647, false)]) (vs := [(xs (i + (1 : Int32)).toInt.toNat), (xs (i + (2 : Int32)).toInt.toNat)]) (ws := [.ref 0, .int (xs (i + (1 : Int32)).toInt.toNat), .int (xs (i + (2 : Int32)).toInt.toNat), .ref 146]) (sc149_0Q (handsB_KCQ invC_KCQ)) (d := D_149) rfl rfl rfl rfl (by decide) hTY9 hI.1 hI.2.1 (by show hs.length + 2 ≤ _; omega) (hvF (by decide) rfl) (Or.inl ⟨rfl, ⟨0, 501, rfl, hI.2.2.1.1, by decide, by decide⟩, (Or.inr ⟨(xs (i + (1 : Int32)).toInt.toNat), [(xs (i + (2 : Int32)).toInt.toNat)], rfl, rfl, rfl, (Or.inr ⟨(xs (i + (2 : Int32)).toInt.toNat), [], rfl, rfl, rfl, (Or.inl ⟨rfl, ⟨146, 55, rfl, hI.2.2.1.2.2.2.2.2.2.2.1, by decide, by decide⟩, trivial⟩)⟩)⟩)⟩)).imp (fun kd r h2 h => w_useX (by decide +kernel) h)) (show (4 : Nat) = fb 0x400000000000004144400009501c30f % 16 by decide) (by show (4 : Nat) ≤ 5; decide) (fun q => absurd q (by decide)) (by omega) (by show 8 + (5 + 11) + 184 ≤ R.locals; omega) (by show (0 : Nat) ≤ 8; decide) (by show kc + 2 ≤ _; omega) (by show ks + 22 ≤ _; omega) (fun r9 h2 hpo hr9 => ?_) (fun x9 hs9 hx9 hpo => ?_)
  · obtain ⟨-, ⟨a6, rfl⟩, R2, hXX, hln⟩ := hpo
    have hln : h2.length ≤ hs.length + 2 := hln
    have hI2 := hI.hx hXX
    show WpN (gp g0 wp) CLS p l e R s m args below meth c Q D_0.2.2.1 kc0 ks0 451 [some (.ref 7000000000003), some (.ref 0), some (.ref 124), some (.ref 146), some (.ref 147), some (.int i), v6, v7, v8] (h2, kc + 2, ks + 22) [.int a6]
    refine g_storeI act (gx gp_0 (w := 0x601c510) rfl (by decide) rfl) (a := 6) (n := 453) rfl rfl (L2 := [some (.ref 7000000000003), some (.ref 0), some (.ref 124), some (.ref 146), some (.ref 147), some (.int i), some (.int a6), v7, v8]) rfl ?_
    refine g_loadA act (gx gp_0 (w := 0x201c603) rfl (by decide) rfl) (a := 2) (n := 454) rfl rfl rfl ?_
    refine g_loadA act (gx gp_0 (w := 0x1c703) rfl (by decide) rfl) (a := 0) (n := 455) rfl rfl rfl ?_
    refine g_loadI act (gx gp_0 (w := 0x501c902) rfl (by decide) rfl) (a := 5) (n := 457) rfl rfl rfl ?_
    refine g_constI act (gx gp_0 (w := 0x40000000c0000000900000001ca01) rfl (by decide) rfl) (n := 458) (x := (1 : Int32)) (by decide) rfl ?_
    refine g_iadd act (gx gp_0 (w := 0x1cb0a) rfl (by decide) rfl) (n := 459) rfl ?_
    refine g_sald act (gx gp_0 (w := 0x1cc1a) rfl (by decide) rfl) (n := 460) rfl (by omega) (by omega) ?_
    refine g_loadA act (gx gp_0 (w := 0x1cd03) rfl (by decide) rfl) (a := 0) (n := 461) rfl rfl rfl ?_
    refine g_loadI act (gx gp_0 (w := 0x501cf02) rfl (by decide) rfl) (a := 5) (n := 463) rfl rfl rfl ?_
    refine g_constI act (gx gp_0 (w := 0x4000000140000001100000001d001) rfl (by decide) rfl) (n := 464) (x := (2 : Int32)) (by decide) rfl ?_
    refine g_iadd act (gx gp_0 (w := 0x1d10a) rfl (by decide) rfl) (n := 465) rfl ?_
    refine g_sald act (gx gp_0 (w := 0x1d21a) rfl (by decide) rfl) (n := 466) rfl (by omega) (by omega) ?_
    obtain ⟨hT2, hI29, hr2, fv, w, pv, nl, n, ng, nr, np, ch, g, hS2, hJ2, hM2, hX2⟩ := id hI2
    obtain ⟨-, -, -, ⟨c9, e12, hec⟩, ⟨d9, e13, hed⟩, -⟩ := id hX2
    refine n_call tb_pres act hEnd (gx (P := G_call) gp_0 (w := 0xa000000000000c0c330000d501d50f) rfl (by decide) rfl) (d' := D_213) rfl (f' := 2) (lam' := 43) (mc := 0) (ms := 0) (as := [.ref 124, .int (xs (i + (1 : Int32)).toInt.toNat), .int (xs (i + (2 : Int32)).toInt.toNat)]) (rest := []) (bx_generator hM2) (show (3 : Nat) = fb 0xa000000000000c0c330000d501d50f % 16 by decide) (by show (3 : Nat) ≤ 3; decide) (fun _ => ⟨_, _, rfl, _, shp_at hM2.1.1.1, Or.inr (show fb 0xa000000000000c0c330000d501d50f >>> 68 = 10 by decide)⟩) (by omega) (by show 8 + (3 + 11) + 43 ≤ R.locals; omega) (by show (0 : Nat) ≤ 8; decide) (by show kc + 2 + 0 ≤ _; omega) (by show ks + 22 + 0 ≤ _; omega) (fun r9 h3 hpo hr9 => ?_) (fun x9 hs9 hx9 hpo => ?_)
    · obtain ⟨cc9, vv9, ⟨b7, rfl, hb7⟩, e3, f3, hM3⟩ : ∃ (c : Int32) (v : Int), QEnd h2 h3 fv w pv nl n ng nr np c r9 v := by
        rcases hpo.2 with ⟨-, q9⟩ | ⟨-, q9⟩ | ⟨-, q9⟩ | ⟨-, q9⟩ | ⟨-, q9⟩
        all_goals exact ⟨_, _, q9⟩
      have hI3 := lj_z0 hT2 hI29 hr2 hS2 hJ2 hM2 hX2 f3 hM3
      have ln3 : h3.length = h2.length := f3.1
      show WpN (gp g0 wp) CLS p l e R s m args below meth c Q D_0.2.2.1 kc0 ks0 469 [some (.ref 7000000000003), some (.ref 0), some (.ref 124), some (.ref 146), some (.ref 147), some (.int i), some (.int a6), v7, v8] (h3, kc + 2, ks + 22) [.int b7]
      refine g_storeI act (gx gp_0 (w := 0x701d710) rfl (by decide) rfl) (a := 7) (n := 471) rfl rfl (L2 := [some (.ref 7000000000003), some (.ref 0), some (.ref 124), some (.ref 146), some (.ref 147), some (.int i), some (.int a6), some (.int b7), v8]) rfl ?_
      refine g_goto act (gx gp_0 (w := 0x72507) rfl (by decide) rfl) (n := 1829) rfl ?_
      exact K _ _ _ _ _ _ _ _ _ _ _ hI3 (pt_step hP (by decide) (by decide) (by rw [ln3]; omega))
    · exact absurd hpo.1 (by omega)
  · exact absurd hpo.1 (by omega)

theorem lb_474 (hTY : TYg g0) (act : Act SSX TBL (gp g0 wp) CLS bl xs D_0 p l s m args meth c) (hEnd : EndN SSX TBL (gp g0 wp) CLS D_0 p l e R s m args below meth c Q kc0 ks0 15 616 KC9 KS9 PE) (hf : 15 ≤ R.frames) (hl : 616 ≤ R.locals) (hc : 638008 ≤ R.cells + kc0) (hsl : 7182079 ≤ R.slots + ks0) (hI : LJ hs R0 tx L ec ep) (hP : PT kc ks hs.length t) (ht : t ≤ 511) (hi : i.toInt = 6 * (t : Int)) (hib : i.toInt + 6 ≤ (bl : Int)) (K : ∀ (h2 : List CE) (R2 : List Nat) (tx2 : Nat → Int) (L2 : Nat) (ec2 ep2 : Int) (kc2 ks2 : Nat) (v6 v7 v8 : Option Value), LJ h2 R2 tx2 L2 ec2 ep2 → PT kc2 ks2 h2.length (t + 1) → WpN (gp g0 wp) CLS p l e R s m args below meth c Q D_0.2.2.1 kc0 ks0 1829 [some (.ref 7000000000003), some (.ref 0), some (.ref 124), some (.ref 146), some (.ref 147), some (.int i), v6, v7, v8] (h2, kc2, ks2) []) : WpN (gp g0 wp) CLS p l e R s m args below meth c Q D_0.2.2.1 kc0 ks0 474 [some (.ref 7000000000003), some (.ref 0), some (.ref 124), some (.ref 146), some (.ref 147), some (.int i), v6, v7, v8] (hs, kc, ks) [] := by
  have hTY9 : TYg (gp g0 wp) := hTY
  obtain ⟨p1, p2, p3⟩ := id hP
  have j1 := i_k (i := i) (k := 1) (by omega) (by omega) (by decide) (by decide)
  have j2 := i_k (i := i) (k := 2) (by omega) (by omega) (by decide) (by decide)
  have j3 := i_k (i := i) (k := 3) (by omega) (by omega) (by decide) (by decide)
  have j4 := i_k (i := i) (k := 4) (by omega) (by omega) (by decide) (by decide)
  have j5 := i_k (i := i) (k := 5) (by omega) (by omega) (by decide) (by decide)
  rw [show (1 : Int32).toInt = 1 from rfl] at j1
  rw [show (2 : Int32).toInt = 2 from rfl] at j2
  rw [show (3 : Int32).toInt = 3 from rfl] at j3
  rw [show (4 : Int32).toInt = 4 from rfl] at j4
  rw [show (5 : Int32).toInt = 5 from rfl] at j5
  refine g_loadA act (gx gp_0 (w := 0x101db03) rfl (by decide) rfl) (a := 1) (n := 475) rfl rfl rfl ?_
  refine g_loadA act (gx gp_0 (w := 0x1dc03) rfl (by decide) rfl) (a := 0) (n := 476) rfl rfl rfl ?_
  refine g_loadI act (gx gp_0 (w := 0x501de02) rfl (by decide) rfl) (a := 5) (n := 478) rfl rfl rfl ?_
  refine g_constI act (gx gp_0 (w := 0x40000000c0000000900000001df01) rfl (by decide) rfl) (n := 479) (x := (1 : Int32)) (by decide) rfl ?_
  refine g_iadd act (gx gp_0 (w := 0x1e00a) rfl (by decide) rfl) (n := 480) rfl ?_
  refine g_sald act (gx gp_0 (w := 0x1e11a) rfl (by decide) rfl) (n := 481) rfl (by omega) (by omega) ?_
  refine g_loadA act (gx gp_0 (w := 0x1e203) rfl (by decide) rfl) (a := 0) (n := 482) rfl rfl rfl ?_
  refine g_loadI act (gx gp_0 (w := 0x501e402) rfl (by decide) rfl) (a := 5) (n := 484) rfl rfl rfl ?_
  refine g_constI act (gx gp_0 (w := 0x4000000140000001100000001e501) rfl (by decide) rfl) (n := 485) (x := (2 : Int32)) (by decide) rfl ?_
  refine g_iadd act (gx gp_0 (w := 0x1e60a) rfl (by decide) rfl) (n := 486) rfl ?_
  refine g_sald act (gx gp_0 (w := 0x1e71a) rfl (by decide) rfl) (n := 487) rfl (by omega) (by omega) ?_
  refine g_loadA act (gx gp_0 (w := 0x301e803) rfl (by decide) rfl) (a := 3) (n := 488) rfl rfl rfl ?_
  refine n_call tb_pres act hEnd (gx (P := G_call) gp_0 (w := 0x400000000000004144400009001eb0f) rfl (by decide) rfl) (d' := D_144) rfl (f' := 11) (lam' := 184) (mc := 2) (ms := 22) (as := [.ref 0, .int (xs (i + (1 : Int32)).toInt.toNat), .int (xs (i + (2 : Int32)).toInt.toNat), .ref 146]) (rest := []) ((sem_useQ (c := c144_0Q) (es := [(-2147483648, 2147483647, false), (-2147483648, 2147483647, false)]) (vs := [(xs (i + (1 : Int32)).toInt.toNat), (xs (i + (2 : Int32)).toInt.toNat)]) (ws := [.ref 0, .int (xs (i + (1 : Int32)).toInt.toNat), .int (xs (i + (2 : Int32)).toInt.toNat), .ref 146]) (sc144_0Q (handsB_KCQ invC_KCQ)) (d := D_144) rfl rfl rfl rfl (by decide) hTY9 hI.1 hI.2.1 (by show hs.length + 2 ≤ _; omega) (hvF (by decide) rfl) (Or.inl ⟨rfl, ⟨0, 501, rfl, hI.2.2.1.1, by decide, by decide⟩, (Or.inr ⟨(xs (i + (1 : Int32)).toInt.toNat), [(xs (i + (2 : Int32)).toInt.toNat)], rfl, rfl, rfl, (Or.inr ⟨(xs (i + (2 : Int32)).toInt.toNat), [], rfl, rfl, rfl, (Or.inl ⟨rfl, ⟨146, 55, rfl, hI.2.2.1.2.2.2.2.2.2.2.1, by decide, by decide⟩, trivial⟩)⟩)⟩)⟩)).imp (fun kd r h2 h => w_useX (by decide +kernel) h)) (show (4 : Nat) = fb 0x400000000000004144400009001eb0f % 16 by decide) (by show (4 : Nat) ≤ 5; decide) (fun q => absurd q (by decide)) (by omega) (by show 8 + (5 + 11) + 184 ≤ R.locals; omega) (by show (0 : Nat) ≤ 8; decide) (by show kc + 2 ≤ _; omega) (by show ks + 22 ≤ _; omega) (fun r9 h2 hpo hr9 => ?_) (fun x9 hs9 hx9 hpo => ?_)
  · obtain ⟨-, ⟨a6, rfl⟩, R2, hXX, hln⟩ := hpo
    have hln : h2.length ≤ hs.length + 2 := hln
    have hI2 := hI.hx hXX
    show WpN (gp g0 wp) CLS p l e R s m args below meth c Q D_0.2.2.1 kc0 ks0 491 [some (.ref 7000000000003), some (.ref 0), some (.ref 124), some (.ref 146), some (.ref 147), some (.int i), v6, v7, v8] (h2, kc + 2, ks + 22) [.int a6]
    refine g_storeI act (gx gp_0 (w := 0x601ed10) rfl (by decide) rfl) (a := 6) (n := 493) rfl rfl (L2 := [some (.ref 7000000000003), some (.ref 0), some (.ref 124), some (.ref 146), some (.ref 147), some (.int i), some (.int a6), v7, v8]) rfl ?_
    refine g_loadA act (gx gp_0 (w := 0x201ee03) rfl (by decide) rfl) (a := 2) (n := 494) rfl rfl rfl ?_
    refine g_loadA act (gx gp_0 (w := 0x1ef03) rfl (by decide) rfl) (a := 0) (n := 495) rfl rfl rfl ?_
    refine g_loadI act (gx gp_0 (w := 0x501f102) rfl (by decide) rfl) (a := 5) (n := 497) rfl rfl rfl ?_
    refine g_constI act (gx gp_0 (w := 0x40000000c0000000900000001f201) rfl (by decide) rfl) (n := 498) (x := (1 : Int32)) (by decide) rfl ?_
    refine g_iadd act (gx gp_0 (w := 0x1f30a) rfl (by decide) rfl) (n := 499) rfl ?_
    refine g_sald act (gx gp_0 (w := 0x1f41a) rfl (by decide) rfl) (n := 500) rfl (by omega) (by omega) ?_
    refine g_loadA act (gx gp_0 (w := 0x1f503) rfl (by decide) rfl) (a := 0) (n := 501) rfl rfl rfl ?_
    refine g_loadI act (gx gp_0 (w := 0x501f702) rfl (by decide) rfl) (a := 5) (n := 503) rfl rfl rfl ?_
    refine g_constI act (gx gp_0 (w := 0x4000000140000001100000001f801) rfl (by decide) rfl) (n := 504) (x := (2 : Int32)) (by decide) rfl ?_
    refine g_iadd act (gx gp_0 (w := 0x1f90a) rfl (by decide) rfl) (n := 505) rfl ?_
    refine g_sald act (gx gp_0 (w := 0x1fa1a) rfl (by decide) rfl) (n := 506) rfl (by omega) (by omega) ?_
    obtain ⟨hT2, hI29, hr2, fv, w, pv, nl, n, ng, nr, np, ch, g, hS2, hJ2, hM2, hX2⟩ := id hI2
    obtain ⟨-, -, -, ⟨c9, e12, hec⟩, ⟨d9, e13, hed⟩, -⟩ := id hX2
    refine n_call tb_pres act hEnd (gx (P := G_call) gp_0 (w := 0xa000000000000c0c330000c601fd0f) rfl (by decide) rfl) (d' := D_198) rfl (f' := 2) (lam' := 43) (mc := 0) (ms := 0) (as := [.ref 124, .int (xs (i + (1 : Int32)).toInt.toNat), .int (xs (i + (2 : Int32)).toInt.toNat)]) (rest := []) (bx_demand hM2) (show (3 : Nat) = fb 0xa000000000000c0c330000c601fd0f % 16 by decide) (by show (3 : Nat) ≤ 3; decide) (fun _ => ⟨_, _, rfl, _, shp_at hM2.1.1.1, Or.inr (show fb 0xa000000000000c0c330000c601fd0f >>> 68 = 10 by decide)⟩) (by omega) (by show 8 + (3 + 11) + 43 ≤ R.locals; omega) (by show (0 : Nat) ≤ 8; decide) (by show kc + 2 + 0 ≤ _; omega) (by show ks + 22 + 0 ≤ _; omega) (fun r9 h3 hpo hr9 => ?_) (fun x9 hs9 hx9 hpo => ?_)
    · obtain ⟨cc9, vv9, ⟨b7, rfl, hb7⟩, e3, f3, hM3⟩ : ∃ (c : Int32) (v : Int), QEnd h2 h3 fv w pv nl n ng nr np c r9 v := by
        rcases hpo.2 with ⟨-, q9⟩ | ⟨-, q9⟩
        all_goals exact ⟨_, _, q9⟩
      have hI3 := lj_z0 hT2 hI29 hr2 hS2 hJ2 hM2 hX2 f3 hM3
      have ln3 : h3.length = h2.length := f3.1
      show WpN (gp g0 wp) CLS p l e R s m args below meth c Q D_0.2.2.1 kc0 ks0 509 [some (.ref 7000000000003), some (.ref 0), some (.ref 124), some (.ref 146), some (.ref 147), some (.int i), some (.int a6), v7, v8] (h3, kc + 2, ks + 22) [.int b7]
      refine g_storeI act (gx gp_0 (w := 0x701ff10) rfl (by decide) rfl) (a := 7) (n := 511) rfl rfl (L2 := [some (.ref 7000000000003), some (.ref 0), some (.ref 124), some (.ref 146), some (.ref 147), some (.int i), some (.int a6), some (.int b7), v8]) rfl ?_
      refine g_goto act (gx gp_0 (w := 0x72507) rfl (by decide) rfl) (n := 1829) rfl ?_
      exact K _ _ _ _ _ _ _ _ _ _ _ hI3 (pt_step hP (by decide) (by decide) (by rw [ln3]; omega))
    · exact absurd hpo.1 (by omega)
  · exact absurd hpo.1 (by omega)

theorem lb_514 (hTY : TYg g0) (act : Act SSX TBL (gp g0 wp) CLS bl xs D_0 p l s m args meth c) (hEnd : EndN SSX TBL (gp g0 wp) CLS D_0 p l e R s m args below meth c Q kc0 ks0 15 616 KC9 KS9 PE) (hf : 15 ≤ R.frames) (hl : 616 ≤ R.locals) (hc : 638008 ≤ R.cells + kc0) (hsl : 7182079 ≤ R.slots + ks0) (hI : LJ hs R0 tx L ec ep) (hP : PT kc ks hs.length t) (ht : t ≤ 511) (hi : i.toInt = 6 * (t : Int)) (hib : i.toInt + 6 ≤ (bl : Int)) (K : ∀ (h2 : List CE) (R2 : List Nat) (tx2 : Nat → Int) (L2 : Nat) (ec2 ep2 : Int) (kc2 ks2 : Nat) (v6 v7 v8 : Option Value), LJ h2 R2 tx2 L2 ec2 ep2 → PT kc2 ks2 h2.length (t + 1) → WpN (gp g0 wp) CLS p l e R s m args below meth c Q D_0.2.2.1 kc0 ks0 1829 [some (.ref 7000000000003), some (.ref 0), some (.ref 124), some (.ref 146), some (.ref 147), some (.int i), v6, v7, v8] (h2, kc2, ks2) []) : WpN (gp g0 wp) CLS p l e R s m args below meth c Q D_0.2.2.1 kc0 ks0 514 [some (.ref 7000000000003), some (.ref 0), some (.ref 124), some (.ref 146), some (.ref 147), some (.int i), v6, v7, v8] (hs, kc, ks) [] := by
  have hTY9 : TYg (gp g0 wp) := hTY
  obtain ⟨p1, p2, p3⟩ := id hP
  have j1 := i_k (i := i) (k := 1) (by omega) (by omega) (by decide) (by decide)
  have j2 := i_k (i := i) (k := 2) (by omega) (by omega) (by decide) (by decide)
  have j3 := i_k (i := i) (k := 3) (by omega) (by omega) (by decide) (by decide)
  have j4 := i_k (i := i) (k := 4) (by omega) (by omega) (by decide) (by decide)
  have j5 := i_k (i := i) (k := 5) (by omega) (by omega) (by decide) (by decide)
  rw [show (1 : Int32).toInt = 1 from rfl] at j1
  rw [show (2 : Int32).toInt = 2 from rfl] at j2
  rw [show (3 : Int32).toInt = 3 from rfl] at j3
  rw [show (4 : Int32).toInt = 4 from rfl] at j4
  rw [show (5 : Int32).toInt = 5 from rfl] at j5
  refine g_loadA act (gx gp_0 (w := 0x1020303) rfl (by decide) rfl) (a := 1) (n := 515) rfl rfl rfl ?_
  refine n_call tb_pres act hEnd (gx (P := G_call) gp_0 (w := 0x1000000000000c041100002a02060f) rfl (by decide) rfl) (d' := D_42) rfl (f' := 0) (lam' := 0) (mc := 0) (ms := 0) (as := [.ref 0]) (rest := []) ((sem_useQ (c := c42_0Q) (es := []) (vs := []) (ws := [.ref 0]) (sc42_0Q (handsB_KCQ invC_KCQ)) (d := D_42) rfl rfl rfl rfl (by decide) hTY9 hI.1 hI.2.1 (by show hs.length + 0 ≤ _; omega) (fun i hi => absurd hi (Nat.not_lt_zero _)) (Or.inl ⟨rfl, ⟨0, 501, rfl, hI.2.2.1.1, by decide, by decide⟩, trivial⟩)).imp (fun kd r h2 h => w_useX (by decide +kernel) h)) (show (1 : Nat) = fb 0x1000000000000c041100002a02060f % 16 by decide) (by show (1 : Nat) ≤ 1; decide) (fun _ => ⟨_, _, rfl, _, shp_at (ty_shpQ hI.1 hI.2.2.1.1 (by decide) (a := 0) (b := 7) rfl rfl), Or.inr (show fb 0x1000000000000c041100002a02060f >>> 68 = 1 by decide)⟩) (by omega) (by show 8 + (1 + 11) + 0 ≤ R.locals; omega) (by show (0 : Nat) ≤ 8; decide) (by show kc + 0 ≤ _; omega) (by show ks + 0 ≤ _; omega) (fun r9 h2 hpo hr9 => ?_) (fun x9 hs9 hx9 hpo => ?_)
  · obtain ⟨-, ⟨a6, rfl⟩, R2, hXX, hln⟩ := hpo
    have hln : h2.length ≤ hs.length + 0 := hln
    have hI2 := hI.hx hXX
    show WpN (gp g0 wp) CLS p l e R s m args below meth c Q D_0.2.2.1 kc0 ks0 518 [some (.ref 7000000000003), some (.ref 0), some (.ref 124), some (.ref 146), some (.ref 147), some (.int i), v6, v7, v8] (h2, kc, ks) [.int a6]
    refine g_pop act (gx gp_0 (w := 0x2073f) rfl (by decide) rfl) (n := 519) rfl rfl ?_
    refine g_loadA act (gx gp_0 (w := 0x2020803) rfl (by decide) rfl) (a := 2) (n := 520) rfl rfl rfl ?_
    obtain ⟨hT2, hI29, hr2, fv, w, pv, nl, n, ng, nr, np, ch, g, hS2, hJ2, hM2, hX2⟩ := id hI2
    obtain ⟨-, -, -, ⟨c9, e12, hec⟩, ⟨d9, e13, hed⟩, -⟩ := id hX2
    refine n_call tb_pres act hEnd (gx (P := G_call) gp_0 (w := 0xa000000000000c04110000f6020b0f) rfl (by decide) rfl) (d' := D_246) rfl (f' := 0) (lam' := 0) (mc := 0) (ms := 0) (as := [.ref 124]) (rest := []) (bx_outage hM2) (show (1 : Nat) = fb 0xa000000000000c04110000f6020b0f % 16 by decide) (by show (1 : Nat) ≤ 1; decide) (fun _ => ⟨_, _, rfl, _, shp_at hM2.1.1.1, Or.inr (show fb 0xa000000000000c04110000f6020b0f >>> 68 = 10 by decide)⟩) (by omega) (by show 8 + (1 + 11) + 0 ≤ R.locals; omega) (by show (0 : Nat) ≤ 8; decide) (by show kc + 0 ≤ _; omega) (by show ks + 0 ≤ _; omega) (fun r9 h3 hpo hr9 => ?_) (fun x9 hs9 hx9 hpo => ?_)
    · obtain ⟨cc9, vv9, ⟨b7, rfl, hb7⟩, e3, f3, hM3⟩ : ∃ (c : Int32) (v : Int), QEnd h2 h3 fv w pv nl n ng nr np c r9 v := by
        rcases hpo.2 with ⟨-, q9⟩
        all_goals exact ⟨_, _, q9⟩
      have hI3 := lj_z0 hT2 hI29 hr2 hS2 hJ2 hM2 hX2 f3 hM3
      have ln3 : h3.length = h2.length := f3.1
      show WpN (gp g0 wp) CLS p l e R s m args below meth c Q D_0.2.2.1 kc0 ks0 523 [some (.ref 7000000000003), some (.ref 0), some (.ref 124), some (.ref 146), some (.ref 147), some (.int i), v6, v7, v8] (h3, kc, ks) [.int b7]
      refine g_pop act (gx gp_0 (w := 0x20c3f) rfl (by decide) rfl) (n := 524) rfl rfl ?_
      refine g_goto act (gx gp_0 (w := 0x72507) rfl (by decide) rfl) (n := 1829) rfl ?_
      exact K _ _ _ _ _ _ _ _ _ _ _ hI3 (pt_step0 hP (by rw [ln3]; omega))
    · exact absurd hpo.1 (by omega)
  · exact absurd hpo.1 (by omega)

theorem lb_527 (hTY : TYg g0) (act : Act SSX TBL (gp g0 wp) CLS bl xs D_0 p l s m args meth c) (hEnd : EndN SSX TBL (gp g0 wp) CLS D_0 p l e R s m args below meth c Q kc0 ks0 15 616 KC9 KS9 PE) (hf : 15 ≤ R.frames) (hl : 616 ≤ R.locals) (hc : 638008 ≤ R.cells + kc0) (hsl : 7182079 ≤ R.slots + ks0) (hI : LJ hs R0 tx L ec ep) (hP : PT kc ks hs.length t) (ht : t ≤ 511) (hi : i.toInt = 6 * (t : Int)) (hib : i.toInt + 6 ≤ (bl : Int)) (K : ∀ (h2 : List CE) (R2 : List Nat) (tx2 : Nat → Int) (L2 : Nat) (ec2 ep2 : Int) (kc2 ks2 : Nat) (v6 v7 v8 : Option Value), LJ h2 R2 tx2 L2 ec2 ep2 → PT kc2 ks2 h2.length (t + 1) → WpN (gp g0 wp) CLS p l e R s m args below meth c Q D_0.2.2.1 kc0 ks0 1829 [some (.ref 7000000000003), some (.ref 0), some (.ref 124), some (.ref 146), some (.ref 147), some (.int i), v6, v7, v8] (h2, kc2, ks2) []) : WpN (gp g0 wp) CLS p l e R s m args below meth c Q D_0.2.2.1 kc0 ks0 527 [some (.ref 7000000000003), some (.ref 0), some (.ref 124), some (.ref 146), some (.ref 147), some (.int i), v6, v7, v8] (hs, kc, ks) [] := by
  have hTY9 : TYg (gp g0 wp) := hTY
  obtain ⟨p1, p2, p3⟩ := id hP
  have j1 := i_k (i := i) (k := 1) (by omega) (by omega) (by decide) (by decide)
  have j2 := i_k (i := i) (k := 2) (by omega) (by omega) (by decide) (by decide)
  have j3 := i_k (i := i) (k := 3) (by omega) (by omega) (by decide) (by decide)
  have j4 := i_k (i := i) (k := 4) (by omega) (by omega) (by decide) (by decide)
  have j5 := i_k (i := i) (k := 5) (by omega) (by omega) (by decide) (by decide)
  rw [show (1 : Int32).toInt = 1 from rfl] at j1
  rw [show (2 : Int32).toInt = 2 from rfl] at j2
  rw [show (3 : Int32).toInt = 3 from rfl] at j3
  rw [show (4 : Int32).toInt = 4 from rfl] at j4
  rw [show (5 : Int32).toInt = 5 from rfl] at j5
  obtain ⟨hT, hI9, hr, fv, w, pv, nl, n, ng, nr, np, ch, g, hS, hJ, hM, hX⟩ := id hI
  obtain ⟨F, hC⟩ := id hJ.1
  obtain ⟨w0, w1, w2, w3, w4, w5, w6, w7, w8, w9, wa, wb, wc, wd, we⟩ := id hC.2.2.2.2.2.1
  have h148 : 148 ≤ hs.length := by
    rw [← hT.1]
    have := (List.getElem?_eq_some_iff.mp hr.2.2.2.2.2.2.2.2).1
    omega
  have hl40 : hs.length + 40 ≤ 6999999999999 := by omega
  have hl3 : hs.length + 3 ≤ 6999999999999 := by omega
  have hl0 : hs.length ≤ 6999999999999 := by omega
  refine g_loadA act (gx gp_0 (w := 0x1021003) rfl (by decide) rfl) (a := 1) (n := 528) rfl rfl rfl ?_
  refine g_loadA act (gx gp_0 (w := 0x21103) rfl (by decide) rfl) (a := 0) (n := 529) rfl rfl rfl ?_
  refine g_loadI act (gx gp_0 (w := 0x5021302) rfl (by decide) rfl) (a := 5) (n := 531) rfl rfl rfl ?_
  refine g_constI act (gx gp_0 (w := 0x40000000c00000009000000021401) rfl (by decide) rfl) (n := 532) (x := (1 : Int32)) (by decide) rfl ?_
  refine g_iadd act (gx gp_0 (w := 0x2150a) rfl (by decide) rfl) (n := 533) rfl ?_
  refine g_sald act (gx gp_0 (w := 0x2161a) rfl (by decide) rfl) (n := 534) rfl (by omega) (by omega) ?_
  refine g_loadA act (gx gp_0 (w := 0x21703) rfl (by decide) rfl) (a := 0) (n := 535) rfl rfl rfl ?_
  refine g_loadI act (gx gp_0 (w := 0x5021902) rfl (by decide) rfl) (a := 5) (n := 537) rfl rfl rfl ?_
  refine g_constI act (gx gp_0 (w := 0x40000001400000011000000021a01) rfl (by decide) rfl) (n := 538) (x := (2 : Int32)) (by decide) rfl ?_
  refine g_iadd act (gx gp_0 (w := 0x21b0a) rfl (by decide) rfl) (n := 539) rfl ?_
  refine g_sald act (gx gp_0 (w := 0x21c1a) rfl (by decide) rfl) (n := 540) rfl (by omega) (by omega) ?_
  refine g_loadA act (gx gp_0 (w := 0x3021d03) rfl (by decide) rfl) (a := 3) (n := 541) rfl rfl rfl ?_
  refine n_call tb_pres act hEnd (gx (P := G_call) gp_0 (w := 0x40000000000000414440000a802200f) rfl (by decide) rfl) (d' := D_168) rfl (f' := 11) (lam' := 205) (mc := 5) (ms := 55) (as := [.ref 0, .int (xs (i + (1 : Int32)).toInt.toNat), .int (xs (i + (2 : Int32)).toInt.toNat), .ref 146]) (rest := []) (wx_setLimit (PO := SPO (0 ≤ (xs (i + (1 : Int32)).toInt.toNat).toInt ∧ (xs (i + (1 : Int32)).toInt.toNat).toInt < (nl : Int)) (1 ≤ (xs (i + (2 : Int32)).toInt.toNat).toInt ∧ (xs (i + (2 : Int32)).toInt.toNat).toInt ≤ 200) (w ((xs (i + (1 : Int32)).toInt.toNat).toInt.toNat)) hs tx L ec ep g fv (wLim w ((xs (i + (1 : Int32)).toInt.toNat).toInt.toNat) (xs (i + (2 : Int32)).toInt.toNat).toInt) (w 38) nl ng nr n np ch (F5 0 (xs (i + (1 : Int32)).toInt.toNat).toInt (-1) (w ((xs (i + (1 : Int32)).toInt.toNat).toInt.toNat)) (w (6 + (xs (i + (1 : Int32)).toInt.toNat).toInt.toNat)))) (fun g0 q => cx_setLimit q h148 hl3 hC hJ.2.1 hJ.2.2) hTY9 hC.1.1 (set_h0 hT hr hJ hM hl0) set_hx) (show (4 : Nat) = fb 0x40000000000000414440000a802200f % 16 by decide) (by show (4 : Nat) ≤ 5; decide) (fun q => absurd q (by decide)) (by omega) (by show 8 + (5 + 11) + 205 ≤ R.locals; omega) (by show (0 : Nat) ≤ 8; decide) (by show kc + 5 ≤ _; omega) (by show ks + 55 ≤ _; omega) (fun r9 h2 hpo hr9 => ?_) (fun x9 hs9 hx9 hpo => ?_)
  · refine n_al9 (fun hA9 => ?_)
    have hA9 : AL9 h2 := hA9
    obtain ⟨a6, R2, rfl, hln, hM2, hcc⟩ := set_c1 hT hI9 hr hJ hM hX hl3 hS (show PW2 (SPO (0 ≤ (xs (i + (1 : Int32)).toInt.toNat).toInt ∧ (xs (i + (1 : Int32)).toInt.toNat).toInt < (nl : Int)) (1 ≤ (xs (i + (2 : Int32)).toInt.toNat).toInt ∧ (xs (i + (2 : Int32)).toInt.toNat).toInt ≤ 200) (w ((xs (i + (1 : Int32)).toInt.toNat).toInt.toNat)) hs tx L ec ep g fv (wLim w ((xs (i + (1 : Int32)).toInt.toNat).toInt.toNat) (xs (i + (2 : Int32)).toInt.toNat).toInt) (w 38) nl ng nr n np ch (F5 0 (xs (i + (1 : Int32)).toInt.toNat).toInt (-1) (w ((xs (i + (1 : Int32)).toInt.toNat).toInt.toNat)) (w (6 + (xs (i + (1 : Int32)).toInt.toNat).toInt.toNat)))) 0 _ h2 from hpo) (fun a b => wLim38 (by omega)) (fun a b => hM.2.2.2.2.1.lim (by omega) b.1 b.2) hA9
    have hs124 := hM2.1.1.1
    show WpN (gp g0 wp) CLS p l e R s m args below meth c Q D_0.2.2.1 kc0 ks0 544 [some (.ref 7000000000003), some (.ref 0), some (.ref 124), some (.ref 146), some (.ref 147), some (.int i), v6, v7, v8] (h2, kc + 5, ks + 55) [.int a6]
    refine g_storeI act (gx gp_0 (w := 0x6022210) rfl (by decide) rfl) (a := 6) (n := 546) rfl rfl (L2 := [some (.ref 7000000000003), some (.ref 0), some (.ref 124), some (.ref 146), some (.ref 147), some (.int i), some (.int a6), v7, v8]) rfl ?_
    refine g_loadA act (gx gp_0 (w := 0x2022303) rfl (by decide) rfl) (a := 2) (n := 547) rfl rfl rfl ?_
    refine g_loadA act (gx gp_0 (w := 0x22403) rfl (by decide) rfl) (a := 0) (n := 548) rfl rfl rfl ?_
    refine g_loadI act (gx gp_0 (w := 0x5022602) rfl (by decide) rfl) (a := 5) (n := 550) rfl rfl rfl ?_
    refine g_constI act (gx gp_0 (w := 0x40000000c00000009000000022701) rfl (by decide) rfl) (n := 551) (x := (1 : Int32)) (by decide) rfl ?_
    refine g_iadd act (gx gp_0 (w := 0x2280a) rfl (by decide) rfl) (n := 552) rfl ?_
    refine g_sald act (gx gp_0 (w := 0x2291a) rfl (by decide) rfl) (n := 553) rfl (by omega) (by omega) ?_
    refine g_loadA act (gx gp_0 (w := 0x22a03) rfl (by decide) rfl) (a := 0) (n := 554) rfl rfl rfl ?_
    refine g_loadI act (gx gp_0 (w := 0x5022c02) rfl (by decide) rfl) (a := 5) (n := 556) rfl rfl rfl ?_
    refine g_constI act (gx gp_0 (w := 0x40000001400000011000000022d01) rfl (by decide) rfl) (n := 557) (x := (2 : Int32)) (by decide) rfl ?_
    refine g_iadd act (gx gp_0 (w := 0x22e0a) rfl (by decide) rfl) (n := 558) rfl ?_
    refine g_sald act (gx gp_0 (w := 0x22f1a) rfl (by decide) rfl) (n := 559) rfl (by omega) (by omega) ?_
    refine n_call tb_pres act hEnd (gx (P := G_call) gp_0 (w := 0xa000000000000c103300010f02320f) rfl (by decide) rfl) (d' := D_271) rfl (f' := 2) (lam' := 44) (mc := 0) (ms := 0) (as := [.ref 124, .int (xs (i + (1 : Int32)).toInt.toNat), .int (xs (i + (2 : Int32)).toInt.toNat)]) (rest := []) (bx_setLimit hM2) (show (3 : Nat) = fb 0xa000000000000c103300010f02320f % 16 by decide) (by show (3 : Nat) ≤ 4; decide) (fun _ => ⟨_, _, rfl, _, shp_at hs124, Or.inr (show fb 0xa000000000000c103300010f02320f >>> 68 = 10 by decide)⟩) (by omega) (by show 8 + (4 + 11) + 44 ≤ R.locals; omega) (by show (0 : Nat) ≤ 8; decide) (by show kc + 5 + 0 ≤ _; omega) (by show ks + 55 + 0 ≤ _; omega) (fun r9 h3 hpo hr9 => ?_) (fun x9 hs9 hx9 hpo => ?_)
    · obtain ⟨hI3, ln3, e3, b7, rfl, ho3⟩ := set_c2 hT hI9 hr hJ hM hX hS hcc (fun a b => Or.inl ⟨rfl, a.1, by show (xs (i + (1 : Int32)).toInt.toNat).toInt < (6 : Int); omega⟩) (chg_lim rfl) hpo.2
      have ln3 : h3.length = h2.length := ln3
      obtain ⟨_, _, _, _, _, _, _, _, hB3, _⟩ := hI3.num
      have hs3 := hB3.1.1
      show WpN (gp g0 wp) CLS p l e R s m args below meth c Q D_0.2.2.1 kc0 ks0 562 [some (.ref 7000000000003), some (.ref 0), some (.ref 124), some (.ref 146), some (.ref 147), some (.int i), some (.int a6), v7, v8] (h3, kc + 5, ks + 55) [.int b7]
      refine g_storeI act (gx gp_0 (w := 0x7023410) rfl (by decide) rfl) (a := 7) (n := 564) rfl rfl (L2 := [some (.ref 7000000000003), some (.ref 0), some (.ref 124), some (.ref 146), some (.ref 147), some (.int i), some (.int a6), some (.int b7), v8]) rfl ?_
      refine g_loadA act (gx gp_0 (w := 0x2023503) rfl (by decide) rfl) (a := 2) (n := 565) rfl rfl rfl ?_
      refine n_call tb_pres act hEnd (gx (P := G_call) gp_0 (w := 0xa000000000000c041100011902380f) rfl (by decide) rfl) (d' := D_281) rfl (f' := 0) (lam' := 0) (mc := 0) (ms := 0) (as := [.ref 124]) (rest := []) (br_thrown hs3 e3) (show (1 : Nat) = fb 0xa000000000000c041100011902380f % 16 by decide) (by show (1 : Nat) ≤ 1; decide) (fun _ => ⟨_, _, rfl, _, shp_at hs3, Or.inr (show fb 0xa000000000000c041100011902380f >>> 68 = 10 by decide)⟩) (by omega) (by show 8 + (1 + 11) + 0 ≤ R.locals; omega) (by show (0 : Nat) ≤ 8; decide) (by show kc + 5 + 0 ≤ _; omega) (by show ks + 55 + 0 ≤ _; omega) (fun r9 hs9 hpo hr9 => ?_) (fun x9 hs9 hx9 hpo => ?_)
      · obtain ⟨-, rfl, rfl⟩ := hpo
        show WpN (gp g0 wp) CLS p l e R s m args below meth c Q D_0.2.2.1 kc0 ks0 568 [some (.ref 7000000000003), some (.ref 0), some (.ref 124), some (.ref 146), some (.ref 147), some (.int i), some (.int a6), some (.int b7), v8] (h3, kc + 5, ks + 55) [.int a6]
        refine g_loadI act (gx gp_0 (w := 0x6023a02) rfl (by decide) rfl) (a := 6) (n := 570) rfl rfl rfl ?_
        refine g_icmpEq act (gx gp_0 (w := 0x23f023d2e) rfl (by decide) rfl) (tgt := 575) (n := 573) rfl rfl (fun _ => ?_) (fun q => absurd rfl q)
        refine g_loadI act (gx gp_0 (w := 0x6024102) rfl (by decide) rfl) (a := 6) (n := 577) rfl rfl rfl ?_
        refine g_ifNe act (gx gp_0 (w := 0x25002441d) rfl (by decide) rfl) (tgt := 592) (n := 580) rfl rfl (fun q9 => ?_) (fun q9 => ?_)
        · refine g_goto act (gx gp_0 (w := 0x72507) rfl (by decide) rfl) (n := 1829) rfl ?_
          exact K _ _ _ _ _ _ _ _ _ _ _ hI3 (pt_step hP (by decide) (by decide) (by rw [ln3]; omega))
        · have x60 := Decidable.not_not.mp q9
          refine g_loadA act (gx gp_0 (w := 0x3024503) rfl (by decide) rfl) (a := 3) (n := 581) rfl rfl rfl ?_
          refine g_constI act (gx gp_0 (w := 0x40000000400000001000000024601) rfl (by decide) rfl) (n := 582) (x := (0 : Int32)) (by decide) rfl ?_
          refine r_lald act (gx gp_0 (w := 0x2470d) rfl (by decide) rfl) (n := 583) (N := 1) (j := 0) rfl (ty_shpQ hI3.1 hI3.2.2.1.2.2.2.2.2.2.2.1 (by decide) (a := 33) (b := 1) rfl rfl) rfl (by decide) (v := .long b7.toInt64) (ho3 x60) ?_
          refine g_loadI act (gx gp_0 (w := 0x7024902) rfl (by decide) rfl) (a := 7) (n := 585) rfl rfl rfl ?_
          refine g_i2l act (gx gp_0 (w := 0x24a2c) rfl (by decide) rfl) (n := 586) rfl ?_
          refine g_lcmp act (gx gp_0 (w := 0x24b0c) rfl (by decide) rfl) (n := 587) rfl ?_
          refine g_ifEq act (gx gp_0 (w := 0x250024e0e) rfl (by decide) rfl) (tgt := 592) (n := 590) rfl rfl (fun _ => ?_) (fun q => absurd (cmpEq.mpr rfl) q)
          refine g_goto act (gx gp_0 (w := 0x72507) rfl (by decide) rfl) (n := 1829) rfl ?_
          exact K _ _ _ _ _ _ _ _ _ _ _ hI3 (pt_step hP (by decide) (by decide) (by rw [ln3]; omega))
      · exact absurd hpo.1 (by omega)
    · exact absurd hpo.1 (by omega)
  · exact absurd hpo.1 (by omega)

theorem lb_595 (hTY : TYg g0) (act : Act SSX TBL (gp g0 wp) CLS bl xs D_0 p l s m args meth c) (hEnd : EndN SSX TBL (gp g0 wp) CLS D_0 p l e R s m args below meth c Q kc0 ks0 15 616 KC9 KS9 PE) (hf : 15 ≤ R.frames) (hl : 616 ≤ R.locals) (hc : 638008 ≤ R.cells + kc0) (hsl : 7182079 ≤ R.slots + ks0) (hI : LJ hs R0 tx L ec ep) (hP : PT kc ks hs.length t) (ht : t ≤ 511) (hi : i.toInt = 6 * (t : Int)) (hib : i.toInt + 6 ≤ (bl : Int)) (K : ∀ (h2 : List CE) (R2 : List Nat) (tx2 : Nat → Int) (L2 : Nat) (ec2 ep2 : Int) (kc2 ks2 : Nat) (v6 v7 v8 : Option Value), LJ h2 R2 tx2 L2 ec2 ep2 → PT kc2 ks2 h2.length (t + 1) → WpN (gp g0 wp) CLS p l e R s m args below meth c Q D_0.2.2.1 kc0 ks0 1829 [some (.ref 7000000000003), some (.ref 0), some (.ref 124), some (.ref 146), some (.ref 147), some (.int i), v6, v7, v8] (h2, kc2, ks2) []) : WpN (gp g0 wp) CLS p l e R s m args below meth c Q D_0.2.2.1 kc0 ks0 595 [some (.ref 7000000000003), some (.ref 0), some (.ref 124), some (.ref 146), some (.ref 147), some (.int i), v6, v7, v8] (hs, kc, ks) [] := by
  have hTY9 : TYg (gp g0 wp) := hTY
  obtain ⟨p1, p2, p3⟩ := id hP
  have j1 := i_k (i := i) (k := 1) (by omega) (by omega) (by decide) (by decide)
  have j2 := i_k (i := i) (k := 2) (by omega) (by omega) (by decide) (by decide)
  have j3 := i_k (i := i) (k := 3) (by omega) (by omega) (by decide) (by decide)
  have j4 := i_k (i := i) (k := 4) (by omega) (by omega) (by decide) (by decide)
  have j5 := i_k (i := i) (k := 5) (by omega) (by omega) (by decide) (by decide)
  rw [show (1 : Int32).toInt = 1 from rfl] at j1
  rw [show (2 : Int32).toInt = 2 from rfl] at j2
  rw [show (3 : Int32).toInt = 3 from rfl] at j3
  rw [show (4 : Int32).toInt = 4 from rfl] at j4
  rw [show (5 : Int32).toInt = 5 from rfl] at j5
  obtain ⟨hT, hI9, hr, fv, w, pv, nl, n, ng, nr, np, ch, g, hS, hJ, hM, hX⟩ := id hI
  obtain ⟨F, hC⟩ := id hJ.1
  obtain ⟨w0, w1, w2, w3, w4, w5, w6, w7, w8, w9, wa, wb, wc, wd, we⟩ := id hC.2.2.2.2.2.1
  have h148 : 148 ≤ hs.length := by
    rw [← hT.1]
    have := (List.getElem?_eq_some_iff.mp hr.2.2.2.2.2.2.2.2).1
    omega
  have hl40 : hs.length + 40 ≤ 6999999999999 := by omega
  have hl3 : hs.length + 3 ≤ 6999999999999 := by omega
  have hl0 : hs.length ≤ 6999999999999 := by omega
  refine g_loadA act (gx gp_0 (w := 0x1025403) rfl (by decide) rfl) (a := 1) (n := 596) rfl rfl rfl ?_
  refine g_loadA act (gx gp_0 (w := 0x25503) rfl (by decide) rfl) (a := 0) (n := 597) rfl rfl rfl ?_
  refine g_loadI act (gx gp_0 (w := 0x5025702) rfl (by decide) rfl) (a := 5) (n := 599) rfl rfl rfl ?_
  refine g_constI act (gx gp_0 (w := 0x40000000c00000009000000025801) rfl (by decide) rfl) (n := 600) (x := (1 : Int32)) (by decide) rfl ?_
  refine g_iadd act (gx gp_0 (w := 0x2590a) rfl (by decide) rfl) (n := 601) rfl ?_
  refine g_sald act (gx gp_0 (w := 0x25a1a) rfl (by decide) rfl) (n := 602) rfl (by omega) (by omega) ?_
  refine g_loadA act (gx gp_0 (w := 0x25b03) rfl (by decide) rfl) (a := 0) (n := 603) rfl rfl rfl ?_
  refine g_loadI act (gx gp_0 (w := 0x5025d02) rfl (by decide) rfl) (a := 5) (n := 605) rfl rfl rfl ?_
  refine g_constI act (gx gp_0 (w := 0x40000001400000011000000025e01) rfl (by decide) rfl) (n := 606) (x := (2 : Int32)) (by decide) rfl ?_
  refine g_iadd act (gx gp_0 (w := 0x25f0a) rfl (by decide) rfl) (n := 607) rfl ?_
  refine g_sald act (gx gp_0 (w := 0x2601a) rfl (by decide) rfl) (n := 608) rfl (by omega) (by omega) ?_
  refine g_loadA act (gx gp_0 (w := 0x3026103) rfl (by decide) rfl) (a := 3) (n := 609) rfl rfl rfl ?_
  refine n_call tb_pres act hEnd (gx (P := G_call) gp_0 (w := 0x40000000000000414440000a602640f) rfl (by decide) rfl) (d' := D_166) rfl (f' := 11) (lam' := 205) (mc := 5) (ms := 55) (as := [.ref 0, .int (xs (i + (1 : Int32)).toInt.toNat), .int (xs (i + (2 : Int32)).toInt.toNat), .ref 146]) (rest := []) (wx_setCost (PO := SPO (0 ≤ (xs (i + (1 : Int32)).toInt.toNat).toInt ∧ (xs (i + (1 : Int32)).toInt.toNat).toInt < (ng : Int)) (0 ≤ (xs (i + (2 : Int32)).toInt.toNat).toInt ∧ (xs (i + (2 : Int32)).toInt.toNat).toInt ≤ 99) (w (12 + (xs (i + (1 : Int32)).toInt.toNat).toInt.toNat)) hs tx L ec ep g fv (upI w (12 + (xs (i + (1 : Int32)).toInt.toNat).toInt.toNat) (xs (i + (2 : Int32)).toInt.toNat).toInt) (w 38) nl ng nr n np ch (F5 1 (xs (i + (1 : Int32)).toInt.toNat).toInt (-1) (w (12 + (xs (i + (1 : Int32)).toInt.toNat).toInt.toNat)) (-1))) (fun g0 q => cx_setCost q h148 hl3 hC hJ.2.1 hJ.2.2) hTY9 hC.1.1 (set_h0 hT hr hJ hM hl0) set_hx) (show (4 : Nat) = fb 0x40000000000000414440000a602640f % 16 by decide) (by show (4 : Nat) ≤ 5; decide) (fun q => absurd q (by decide)) (by omega) (by show 8 + (5 + 11) + 205 ≤ R.locals; omega) (by show (0 : Nat) ≤ 8; decide) (by show kc + 5 ≤ _; omega) (by show ks + 55 ≤ _; omega) (fun r9 h2 hpo hr9 => ?_) (fun x9 hs9 hx9 hpo => ?_)
  · refine n_al9 (fun hA9 => ?_)
    have hA9 : AL9 h2 := hA9
    obtain ⟨a6, R2, rfl, hln, hM2, hcc⟩ := set_c1 hT hI9 hr hJ hM hX hl3 hS (show PW2 (SPO (0 ≤ (xs (i + (1 : Int32)).toInt.toNat).toInt ∧ (xs (i + (1 : Int32)).toInt.toNat).toInt < (ng : Int)) (0 ≤ (xs (i + (2 : Int32)).toInt.toNat).toInt ∧ (xs (i + (2 : Int32)).toInt.toNat).toInt ≤ 99) (w (12 + (xs (i + (1 : Int32)).toInt.toNat).toInt.toNat)) hs tx L ec ep g fv (upI w (12 + (xs (i + (1 : Int32)).toInt.toNat).toInt.toNat) (xs (i + (2 : Int32)).toInt.toNat).toInt) (w 38) nl ng nr n np ch (F5 1 (xs (i + (1 : Int32)).toInt.toNat).toInt (-1) (w (12 + (xs (i + (1 : Int32)).toInt.toNat).toInt.toNat)) (-1))) 0 _ h2 from hpo) (fun a b => upI_ne9 (by omega)) (fun a b => hM.2.2.2.2.1.upd (Or.inr (Or.inr (Or.inl ⟨by omega, by omega, b.1, b.2⟩)))) hA9
    have hs124 := hM2.1.1.1
    show WpN (gp g0 wp) CLS p l e R s m args below meth c Q D_0.2.2.1 kc0 ks0 612 [some (.ref 7000000000003), some (.ref 0), some (.ref 124), some (.ref 146), some (.ref 147), some (.int i), v6, v7, v8] (h2, kc + 5, ks + 55) [.int a6]
    refine g_storeI act (gx gp_0 (w := 0x6026610) rfl (by decide) rfl) (a := 6) (n := 614) rfl rfl (L2 := [some (.ref 7000000000003), some (.ref 0), some (.ref 124), some (.ref 146), some (.ref 147), some (.int i), some (.int a6), v7, v8]) rfl ?_
    refine g_loadA act (gx gp_0 (w := 0x2026703) rfl (by decide) rfl) (a := 2) (n := 615) rfl rfl rfl ?_
    refine g_loadA act (gx gp_0 (w := 0x26803) rfl (by decide) rfl) (a := 0) (n := 616) rfl rfl rfl ?_
    refine g_loadI act (gx gp_0 (w := 0x5026a02) rfl (by decide) rfl) (a := 5) (n := 618) rfl rfl rfl ?_
    refine g_constI act (gx gp_0 (w := 0x40000000c00000009000000026b01) rfl (by decide) rfl) (n := 619) (x := (1 : Int32)) (by decide) rfl ?_
    refine g_iadd act (gx gp_0 (w := 0x26c0a) rfl (by decide) rfl) (n := 620) rfl ?_
    refine g_sald act (gx gp_0 (w := 0x26d1a) rfl (by decide) rfl) (n := 621) rfl (by omega) (by omega) ?_
    refine g_loadA act (gx gp_0 (w := 0x26e03) rfl (by decide) rfl) (a := 0) (n := 622) rfl rfl rfl ?_
    refine g_loadI act (gx gp_0 (w := 0x5027002) rfl (by decide) rfl) (a := 5) (n := 624) rfl rfl rfl ?_
    refine g_constI act (gx gp_0 (w := 0x40000001400000011000000027101) rfl (by decide) rfl) (n := 625) (x := (2 : Int32)) (by decide) rfl ?_
    refine g_iadd act (gx gp_0 (w := 0x2720a) rfl (by decide) rfl) (n := 626) rfl ?_
    refine g_sald act (gx gp_0 (w := 0x2731a) rfl (by decide) rfl) (n := 627) rfl (by omega) (by omega) ?_
    refine n_call tb_pres act hEnd (gx (P := G_call) gp_0 (w := 0xa000000000000c0c3300010d02760f) rfl (by decide) rfl) (d' := D_269) rfl (f' := 2) (lam' := 44) (mc := 0) (ms := 0) (as := [.ref 124, .int (xs (i + (1 : Int32)).toInt.toNat), .int (xs (i + (2 : Int32)).toInt.toNat)]) (rest := []) (bx_setCost hM2) (show (3 : Nat) = fb 0xa000000000000c0c3300010d02760f % 16 by decide) (by show (3 : Nat) ≤ 3; decide) (fun _ => ⟨_, _, rfl, _, shp_at hs124, Or.inr (show fb 0xa000000000000c0c3300010d02760f >>> 68 = 10 by decide)⟩) (by omega) (by show 8 + (3 + 11) + 44 ≤ R.locals; omega) (by show (0 : Nat) ≤ 8; decide) (by show kc + 5 + 0 ≤ _; omega) (by show ks + 55 + 0 ≤ _; omega) (fun r9 h3 hpo hr9 => ?_) (fun x9 hs9 hx9 hpo => ?_)
    · obtain ⟨hI3, ln3, e3, b7, rfl, ho3⟩ := set_c2 hT hI9 hr hJ hM hX hS hcc (fun a b => Or.inr (Or.inl ⟨rfl, a.1, by show (xs (i + (1 : Int32)).toInt.toNat).toInt < (5 : Int); omega⟩)) (chg_cst rfl) hpo.2
      have ln3 : h3.length = h2.length := ln3
      obtain ⟨_, _, _, _, _, _, _, _, hB3, _⟩ := hI3.num
      have hs3 := hB3.1.1
      show WpN (gp g0 wp) CLS p l e R s m args below meth c Q D_0.2.2.1 kc0 ks0 630 [some (.ref 7000000000003), some (.ref 0), some (.ref 124), some (.ref 146), some (.ref 147), some (.int i), some (.int a6), v7, v8] (h3, kc + 5, ks + 55) [.int b7]
      refine g_storeI act (gx gp_0 (w := 0x7027810) rfl (by decide) rfl) (a := 7) (n := 632) rfl rfl (L2 := [some (.ref 7000000000003), some (.ref 0), some (.ref 124), some (.ref 146), some (.ref 147), some (.int i), some (.int a6), some (.int b7), v8]) rfl ?_
      refine g_goto act (gx gp_0 (w := 0x72507) rfl (by decide) rfl) (n := 1829) rfl ?_
      exact K _ _ _ _ _ _ _ _ _ _ _ hI3 (pt_step hP (by decide) (by decide) (by rw [ln3]; omega))
    · exact absurd hpo.1 (by omega)
  · exact absurd hpo.1 (by omega)

theorem lb_635 (hTY : TYg g0) (act : Act SSX TBL (gp g0 wp) CLS bl xs D_0 p l s m args meth c) (hEnd : EndN SSX TBL (gp g0 wp) CLS D_0 p l e R s m args below meth c Q kc0 ks0 15 616 KC9 KS9 PE) (hf : 15 ≤ R.frames) (hl : 616 ≤ R.locals) (hc : 638008 ≤ R.cells + kc0) (hsl : 7182079 ≤ R.slots + ks0) (hI : LJ hs R0 tx L ec ep) (hP : PT kc ks hs.length t) (ht : t ≤ 511) (hi : i.toInt = 6 * (t : Int)) (hib : i.toInt + 6 ≤ (bl : Int)) (K : ∀ (h2 : List CE) (R2 : List Nat) (tx2 : Nat → Int) (L2 : Nat) (ec2 ep2 : Int) (kc2 ks2 : Nat) (v6 v7 v8 : Option Value), LJ h2 R2 tx2 L2 ec2 ep2 → PT kc2 ks2 h2.length (t + 1) → WpN (gp g0 wp) CLS p l e R s m args below meth c Q D_0.2.2.1 kc0 ks0 1829 [some (.ref 7000000000003), some (.ref 0), some (.ref 124), some (.ref 146), some (.ref 147), some (.int i), v6, v7, v8] (h2, kc2, ks2) []) : WpN (gp g0 wp) CLS p l e R s m args below meth c Q D_0.2.2.1 kc0 ks0 635 [some (.ref 7000000000003), some (.ref 0), some (.ref 124), some (.ref 146), some (.ref 147), some (.int i), v6, v7, v8] (hs, kc, ks) [] := by
  have hTY9 : TYg (gp g0 wp) := hTY
  obtain ⟨p1, p2, p3⟩ := id hP
  have j1 := i_k (i := i) (k := 1) (by omega) (by omega) (by decide) (by decide)
  have j2 := i_k (i := i) (k := 2) (by omega) (by omega) (by decide) (by decide)
  have j3 := i_k (i := i) (k := 3) (by omega) (by omega) (by decide) (by decide)
  have j4 := i_k (i := i) (k := 4) (by omega) (by omega) (by decide) (by decide)
  have j5 := i_k (i := i) (k := 5) (by omega) (by omega) (by decide) (by decide)
  rw [show (1 : Int32).toInt = 1 from rfl] at j1
  rw [show (2 : Int32).toInt = 2 from rfl] at j2
  rw [show (3 : Int32).toInt = 3 from rfl] at j3
  rw [show (4 : Int32).toInt = 4 from rfl] at j4
  rw [show (5 : Int32).toInt = 5 from rfl] at j5
  obtain ⟨hT, hI9, hr, fv, w, pv, nl, n, ng, nr, np, ch, g, hS, hJ, hM, hX⟩ := id hI
  obtain ⟨F, hC⟩ := id hJ.1
  obtain ⟨w0, w1, w2, w3, w4, w5, w6, w7, w8, w9, wa, wb, wc, wd, we⟩ := id hC.2.2.2.2.2.1
  have h148 : 148 ≤ hs.length := by
    rw [← hT.1]
    have := (List.getElem?_eq_some_iff.mp hr.2.2.2.2.2.2.2.2).1
    omega
  have hl40 : hs.length + 40 ≤ 6999999999999 := by omega
  have hl3 : hs.length + 3 ≤ 6999999999999 := by omega
  have hl0 : hs.length ≤ 6999999999999 := by omega
  refine g_loadA act (gx gp_0 (w := 0x1027c03) rfl (by decide) rfl) (a := 1) (n := 636) rfl rfl rfl ?_
  refine g_loadA act (gx gp_0 (w := 0x27d03) rfl (by decide) rfl) (a := 0) (n := 637) rfl rfl rfl ?_
  refine g_loadI act (gx gp_0 (w := 0x5027f02) rfl (by decide) rfl) (a := 5) (n := 639) rfl rfl rfl ?_
  refine g_constI act (gx gp_0 (w := 0x40000000c00000009000000028001) rfl (by decide) rfl) (n := 640) (x := (1 : Int32)) (by decide) rfl ?_
  refine g_iadd act (gx gp_0 (w := 0x2810a) rfl (by decide) rfl) (n := 641) rfl ?_
  refine g_sald act (gx gp_0 (w := 0x2821a) rfl (by decide) rfl) (n := 642) rfl (by omega) (by omega) ?_
  refine g_loadA act (gx gp_0 (w := 0x28303) rfl (by decide) rfl) (a := 0) (n := 643) rfl rfl rfl ?_
  refine g_loadI act (gx gp_0 (w := 0x5028502) rfl (by decide) rfl) (a := 5) (n := 645) rfl rfl rfl ?_
  refine g_constI act (gx gp_0 (w := 0x40000001400000011000000028601) rfl (by decide) rfl) (n := 646) (x := (2 : Int32)) (by decide) rfl ?_
  refine g_iadd act (gx gp_0 (w := 0x2870a) rfl (by decide) rfl) (n := 647) rfl ?_
  refine g_sald act (gx gp_0 (w := 0x2881a) rfl (by decide) rfl) (n := 648) rfl (by omega) (by omega) ?_
  refine g_loadA act (gx gp_0 (w := 0x3028903) rfl (by decide) rfl) (a := 3) (n := 649) rfl rfl rfl ?_
  refine n_call tb_pres act hEnd (gx (P := G_call) gp_0 (w := 0x40000000000000414440000a5028c0f) rfl (by decide) rfl) (d' := D_165) rfl (f' := 11) (lam' := 205) (mc := 5) (ms := 55) (as := [.ref 0, .int (xs (i + (1 : Int32)).toInt.toNat), .int (xs (i + (2 : Int32)).toInt.toNat), .ref 146]) (rest := []) (wx_setCapacity (PO := SPO (0 ≤ (xs (i + (1 : Int32)).toInt.toNat).toInt ∧ (xs (i + (1 : Int32)).toInt.toNat).toInt < (ng : Int)) (1 ≤ (xs (i + (2 : Int32)).toInt.toNat).toInt ∧ (xs (i + (2 : Int32)).toInt.toNat).toInt ≤ 200) (w (17 + (xs (i + (1 : Int32)).toInt.toNat).toInt.toNat)) hs tx L ec ep g fv (upI w (17 + (xs (i + (1 : Int32)).toInt.toNat).toInt.toNat) (xs (i + (2 : Int32)).toInt.toNat).toInt) (w 38) nl ng nr n np ch (F5 2 (xs (i + (1 : Int32)).toInt.toNat).toInt (-1) (w (17 + (xs (i + (1 : Int32)).toInt.toNat).toInt.toNat)) (-1))) (fun g0 q => cx_setCapacity q h148 hl3 hC hJ.2.1 hJ.2.2) hTY9 hC.1.1 (set_h0 hT hr hJ hM hl0) set_hx) (show (4 : Nat) = fb 0x40000000000000414440000a5028c0f % 16 by decide) (by show (4 : Nat) ≤ 5; decide) (fun q => absurd q (by decide)) (by omega) (by show 8 + (5 + 11) + 205 ≤ R.locals; omega) (by show (0 : Nat) ≤ 8; decide) (by show kc + 5 ≤ _; omega) (by show ks + 55 ≤ _; omega) (fun r9 h2 hpo hr9 => ?_) (fun x9 hs9 hx9 hpo => ?_)
  · refine n_al9 (fun hA9 => ?_)
    have hA9 : AL9 h2 := hA9
    obtain ⟨a6, R2, rfl, hln, hM2, hcc⟩ := set_c1 hT hI9 hr hJ hM hX hl3 hS (show PW2 (SPO (0 ≤ (xs (i + (1 : Int32)).toInt.toNat).toInt ∧ (xs (i + (1 : Int32)).toInt.toNat).toInt < (ng : Int)) (1 ≤ (xs (i + (2 : Int32)).toInt.toNat).toInt ∧ (xs (i + (2 : Int32)).toInt.toNat).toInt ≤ 200) (w (17 + (xs (i + (1 : Int32)).toInt.toNat).toInt.toNat)) hs tx L ec ep g fv (upI w (17 + (xs (i + (1 : Int32)).toInt.toNat).toInt.toNat) (xs (i + (2 : Int32)).toInt.toNat).toInt) (w 38) nl ng nr n np ch (F5 2 (xs (i + (1 : Int32)).toInt.toNat).toInt (-1) (w (17 + (xs (i + (1 : Int32)).toInt.toNat).toInt.toNat)) (-1))) 0 _ h2 from hpo) (fun a b => upI_ne9 (by omega)) (fun a b => hM.2.2.2.2.1.upd (Or.inr (Or.inr (Or.inr (Or.inl ⟨by omega, by omega, Int.le_trans (by decide) b.1, b.2⟩))))) hA9
    have hs124 := hM2.1.1.1
    show WpN (gp g0 wp) CLS p l e R s m args below meth c Q D_0.2.2.1 kc0 ks0 652 [some (.ref 7000000000003), some (.ref 0), some (.ref 124), some (.ref 146), some (.ref 147), some (.int i), v6, v7, v8] (h2, kc + 5, ks + 55) [.int a6]
    refine g_storeI act (gx gp_0 (w := 0x6028e10) rfl (by decide) rfl) (a := 6) (n := 654) rfl rfl (L2 := [some (.ref 7000000000003), some (.ref 0), some (.ref 124), some (.ref 146), some (.ref 147), some (.int i), some (.int a6), v7, v8]) rfl ?_
    refine g_loadA act (gx gp_0 (w := 0x2028f03) rfl (by decide) rfl) (a := 2) (n := 655) rfl rfl rfl ?_
    refine g_loadA act (gx gp_0 (w := 0x29003) rfl (by decide) rfl) (a := 0) (n := 656) rfl rfl rfl ?_
    refine g_loadI act (gx gp_0 (w := 0x5029202) rfl (by decide) rfl) (a := 5) (n := 658) rfl rfl rfl ?_
    refine g_constI act (gx gp_0 (w := 0x40000000c00000009000000029301) rfl (by decide) rfl) (n := 659) (x := (1 : Int32)) (by decide) rfl ?_
    refine g_iadd act (gx gp_0 (w := 0x2940a) rfl (by decide) rfl) (n := 660) rfl ?_
    refine g_sald act (gx gp_0 (w := 0x2951a) rfl (by decide) rfl) (n := 661) rfl (by omega) (by omega) ?_
    refine g_loadA act (gx gp_0 (w := 0x29603) rfl (by decide) rfl) (a := 0) (n := 662) rfl rfl rfl ?_
    refine g_loadI act (gx gp_0 (w := 0x5029802) rfl (by decide) rfl) (a := 5) (n := 664) rfl rfl rfl ?_
    refine g_constI act (gx gp_0 (w := 0x40000001400000011000000029901) rfl (by decide) rfl) (n := 665) (x := (2 : Int32)) (by decide) rfl ?_
    refine g_iadd act (gx gp_0 (w := 0x29a0a) rfl (by decide) rfl) (n := 666) rfl ?_
    refine g_sald act (gx gp_0 (w := 0x29b1a) rfl (by decide) rfl) (n := 667) rfl (by omega) (by omega) ?_
    refine n_call tb_pres act hEnd (gx (P := G_call) gp_0 (w := 0xa000000000000c0c3300010c029e0f) rfl (by decide) rfl) (d' := D_268) rfl (f' := 2) (lam' := 44) (mc := 0) (ms := 0) (as := [.ref 124, .int (xs (i + (1 : Int32)).toInt.toNat), .int (xs (i + (2 : Int32)).toInt.toNat)]) (rest := []) (bx_setCapacity hM2) (show (3 : Nat) = fb 0xa000000000000c0c3300010c029e0f % 16 by decide) (by show (3 : Nat) ≤ 3; decide) (fun _ => ⟨_, _, rfl, _, shp_at hs124, Or.inr (show fb 0xa000000000000c0c3300010c029e0f >>> 68 = 10 by decide)⟩) (by omega) (by show 8 + (3 + 11) + 44 ≤ R.locals; omega) (by show (0 : Nat) ≤ 8; decide) (by show kc + 5 + 0 ≤ _; omega) (by show ks + 55 + 0 ≤ _; omega) (fun r9 h3 hpo hr9 => ?_) (fun x9 hs9 hx9 hpo => ?_)
    · obtain ⟨hI3, ln3, e3, b7, rfl, ho3⟩ := set_c2 hT hI9 hr hJ hM hX hS hcc (fun a b => Or.inr (Or.inr (Or.inl ⟨rfl, a.1, by show (xs (i + (1 : Int32)).toInt.toNat).toInt < (5 : Int); omega⟩))) (chg_cap rfl) hpo.2
      have ln3 : h3.length = h2.length := ln3
      obtain ⟨_, _, _, _, _, _, _, _, hB3, _⟩ := hI3.num
      have hs3 := hB3.1.1
      show WpN (gp g0 wp) CLS p l e R s m args below meth c Q D_0.2.2.1 kc0 ks0 670 [some (.ref 7000000000003), some (.ref 0), some (.ref 124), some (.ref 146), some (.ref 147), some (.int i), some (.int a6), v7, v8] (h3, kc + 5, ks + 55) [.int b7]
      refine g_storeI act (gx gp_0 (w := 0x702a010) rfl (by decide) rfl) (a := 7) (n := 672) rfl rfl (L2 := [some (.ref 7000000000003), some (.ref 0), some (.ref 124), some (.ref 146), some (.ref 147), some (.int i), some (.int a6), some (.int b7), v8]) rfl ?_
      refine g_goto act (gx gp_0 (w := 0x72507) rfl (by decide) rfl) (n := 1829) rfl ?_
      exact K _ _ _ _ _ _ _ _ _ _ _ hI3 (pt_step hP (by decide) (by decide) (by rw [ln3]; omega))
    · exact absurd hpo.1 (by omega)
  · exact absurd hpo.1 (by omega)

theorem lb_675 (hTY : TYg g0) (act : Act SSX TBL (gp g0 wp) CLS bl xs D_0 p l s m args meth c) (hEnd : EndN SSX TBL (gp g0 wp) CLS D_0 p l e R s m args below meth c Q kc0 ks0 15 616 KC9 KS9 PE) (hf : 15 ≤ R.frames) (hl : 616 ≤ R.locals) (hc : 638008 ≤ R.cells + kc0) (hsl : 7182079 ≤ R.slots + ks0) (hI : LJ hs R0 tx L ec ep) (hP : PT kc ks hs.length t) (ht : t ≤ 511) (hi : i.toInt = 6 * (t : Int)) (hib : i.toInt + 6 ≤ (bl : Int)) (K : ∀ (h2 : List CE) (R2 : List Nat) (tx2 : Nat → Int) (L2 : Nat) (ec2 ep2 : Int) (kc2 ks2 : Nat) (v6 v7 v8 : Option Value), LJ h2 R2 tx2 L2 ec2 ep2 → PT kc2 ks2 h2.length (t + 1) → WpN (gp g0 wp) CLS p l e R s m args below meth c Q D_0.2.2.1 kc0 ks0 1829 [some (.ref 7000000000003), some (.ref 0), some (.ref 124), some (.ref 146), some (.ref 147), some (.int i), v6, v7, v8] (h2, kc2, ks2) []) : WpN (gp g0 wp) CLS p l e R s m args below meth c Q D_0.2.2.1 kc0 ks0 675 [some (.ref 7000000000003), some (.ref 0), some (.ref 124), some (.ref 146), some (.ref 147), some (.int i), v6, v7, v8] (hs, kc, ks) [] := by
  have hTY9 : TYg (gp g0 wp) := hTY
  obtain ⟨p1, p2, p3⟩ := id hP
  have j1 := i_k (i := i) (k := 1) (by omega) (by omega) (by decide) (by decide)
  have j2 := i_k (i := i) (k := 2) (by omega) (by omega) (by decide) (by decide)
  have j3 := i_k (i := i) (k := 3) (by omega) (by omega) (by decide) (by decide)
  have j4 := i_k (i := i) (k := 4) (by omega) (by omega) (by decide) (by decide)
  have j5 := i_k (i := i) (k := 5) (by omega) (by omega) (by decide) (by decide)
  rw [show (1 : Int32).toInt = 1 from rfl] at j1
  rw [show (2 : Int32).toInt = 2 from rfl] at j2
  rw [show (3 : Int32).toInt = 3 from rfl] at j3
  rw [show (4 : Int32).toInt = 4 from rfl] at j4
  rw [show (5 : Int32).toInt = 5 from rfl] at j5
  obtain ⟨hT, hI9, hr, fv, w, pv, nl, n, ng, nr, np, ch, g, hS, hJ, hM, hX⟩ := id hI
  obtain ⟨F, hC⟩ := id hJ.1
  obtain ⟨w0, w1, w2, w3, w4, w5, w6, w7, w8, w9, wa, wb, wc, wd, we⟩ := id hC.2.2.2.2.2.1
  have h148 : 148 ≤ hs.length := by
    rw [← hT.1]
    have := (List.getElem?_eq_some_iff.mp hr.2.2.2.2.2.2.2.2).1
    omega
  have hl40 : hs.length + 40 ≤ 6999999999999 := by omega
  have hl3 : hs.length + 3 ≤ 6999999999999 := by omega
  have hl0 : hs.length ≤ 6999999999999 := by omega
  refine g_loadA act (gx gp_0 (w := 0x102a403) rfl (by decide) rfl) (a := 1) (n := 676) rfl rfl rfl ?_
  refine g_loadA act (gx gp_0 (w := 0x2a503) rfl (by decide) rfl) (a := 0) (n := 677) rfl rfl rfl ?_
  refine g_loadI act (gx gp_0 (w := 0x502a702) rfl (by decide) rfl) (a := 5) (n := 679) rfl rfl rfl ?_
  refine g_constI act (gx gp_0 (w := 0x40000000c0000000900000002a801) rfl (by decide) rfl) (n := 680) (x := (1 : Int32)) (by decide) rfl ?_
  refine g_iadd act (gx gp_0 (w := 0x2a90a) rfl (by decide) rfl) (n := 681) rfl ?_
  refine g_sald act (gx gp_0 (w := 0x2aa1a) rfl (by decide) rfl) (n := 682) rfl (by omega) (by omega) ?_
  refine g_loadA act (gx gp_0 (w := 0x2ab03) rfl (by decide) rfl) (a := 0) (n := 683) rfl rfl rfl ?_
  refine g_loadI act (gx gp_0 (w := 0x502ad02) rfl (by decide) rfl) (a := 5) (n := 685) rfl rfl rfl ?_
  refine g_constI act (gx gp_0 (w := 0x4000000140000001100000002ae01) rfl (by decide) rfl) (n := 686) (x := (2 : Int32)) (by decide) rfl ?_
  refine g_iadd act (gx gp_0 (w := 0x2af0a) rfl (by decide) rfl) (n := 687) rfl ?_
  refine g_sald act (gx gp_0 (w := 0x2b01a) rfl (by decide) rfl) (n := 688) rfl (by omega) (by omega) ?_
  refine g_loadA act (gx gp_0 (w := 0x2b103) rfl (by decide) rfl) (a := 0) (n := 689) rfl rfl rfl ?_
  refine g_loadI act (gx gp_0 (w := 0x502b302) rfl (by decide) rfl) (a := 5) (n := 691) rfl rfl rfl ?_
  refine g_constI act (gx gp_0 (w := 0x40000001c0000001900000002b401) rfl (by decide) rfl) (n := 692) (x := (3 : Int32)) (by decide) rfl ?_
  refine g_iadd act (gx gp_0 (w := 0x2b50a) rfl (by decide) rfl) (n := 693) rfl ?_
  refine g_sald act (gx gp_0 (w := 0x2b61a) rfl (by decide) rfl) (n := 694) rfl (by omega) (by omega) ?_
  refine g_loadA act (gx gp_0 (w := 0x302b703) rfl (by decide) rfl) (a := 3) (n := 695) rfl rfl rfl ?_
  refine n_call tb_pres act hEnd (gx (P := G_call) gp_0 (w := 0x40000000000000418550000a702ba0f) rfl (by decide) rfl) (d' := D_167) rfl (f' := 11) (lam' := 206) (mc := 5) (ms := 55) (as := [.ref 0, .int (xs (i + (1 : Int32)).toInt.toNat), .int (xs (i + (2 : Int32)).toInt.toNat), .int (xs (i + (3 : Int32)).toInt.toNat), .ref 146]) (rest := []) (wx_setDemand (PO := SPO ((0 ≤ (xs (i + (1 : Int32)).toInt.toNat).toInt ∧ (xs (i + (1 : Int32)).toInt.toNat).toInt < fv 1) ∧ (0 ≤ (xs (i + (2 : Int32)).toInt.toNat).toInt ∧ (xs (i + (2 : Int32)).toInt.toNat).toInt < (n : Int) + 1)) (0 ≤ (xs (i + (3 : Int32)).toInt.toNat).toInt ∧ (xs (i + (3 : Int32)).toInt.toNat).toInt ≤ 200) (w (22 + 4 * (xs (i + (1 : Int32)).toInt.toNat).toInt.toNat + (xs (i + (2 : Int32)).toInt.toNat).toInt.toNat)) hs tx L ec ep g fv (upI w (22 + 4 * (xs (i + (1 : Int32)).toInt.toNat).toInt.toNat + (xs (i + (2 : Int32)).toInt.toNat).toInt.toNat) (xs (i + (3 : Int32)).toInt.toNat).toInt) (w 38) nl ng nr n np ch (F5 3 (xs (i + (1 : Int32)).toInt.toNat).toInt (xs (i + (2 : Int32)).toInt.toNat).toInt (w (22 + 4 * (xs (i + (1 : Int32)).toInt.toNat).toInt.toNat + (xs (i + (2 : Int32)).toInt.toNat).toInt.toNat)) (-1))) (fun g0 q => cx_setDemand q h148 hl3 hC hJ.2.1 hJ.2.2) hTY9 hC.1.1 (set_h0 hT hr hJ hM hl0) set_hx) (show (5 : Nat) = fb 0x40000000000000418550000a702ba0f % 16 by decide) (by show (5 : Nat) ≤ 6; decide) (fun q => absurd q (by decide)) (by omega) (by show 8 + (6 + 11) + 206 ≤ R.locals; omega) (by show (0 : Nat) ≤ 8; decide) (by show kc + 5 ≤ _; omega) (by show ks + 55 ≤ _; omega) (fun r9 h2 hpo hr9 => ?_) (fun x9 hs9 hx9 hpo => ?_)
  · refine n_al9 (fun hA9 => ?_)
    have hA9 : AL9 h2 := hA9
    obtain ⟨a6, R2, rfl, hln, hM2, hcc⟩ := set_c1 hT hI9 hr hJ hM hX hl3 hS (show PW2 (SPO ((0 ≤ (xs (i + (1 : Int32)).toInt.toNat).toInt ∧ (xs (i + (1 : Int32)).toInt.toNat).toInt < fv 1) ∧ (0 ≤ (xs (i + (2 : Int32)).toInt.toNat).toInt ∧ (xs (i + (2 : Int32)).toInt.toNat).toInt < (n : Int) + 1)) (0 ≤ (xs (i + (3 : Int32)).toInt.toNat).toInt ∧ (xs (i + (3 : Int32)).toInt.toNat).toInt ≤ 200) (w (22 + 4 * (xs (i + (1 : Int32)).toInt.toNat).toInt.toNat + (xs (i + (2 : Int32)).toInt.toNat).toInt.toNat)) hs tx L ec ep g fv (upI w (22 + 4 * (xs (i + (1 : Int32)).toInt.toNat).toInt.toNat + (xs (i + (2 : Int32)).toInt.toNat).toInt.toNat) (xs (i + (3 : Int32)).toInt.toNat).toInt) (w 38) nl ng nr n np ch (F5 3 (xs (i + (1 : Int32)).toInt.toNat).toInt (xs (i + (2 : Int32)).toInt.toNat).toInt (w (22 + 4 * (xs (i + (1 : Int32)).toInt.toNat).toInt.toNat + (xs (i + (2 : Int32)).toInt.toNat).toInt.toNat)) (-1))) 0 _ h2 from hpo) (fun a b => upI_ne9 (by omega)) (fun a b => hM.2.2.2.2.1.upd (Or.inr (Or.inr (Or.inr (Or.inr ⟨by omega, by omega, b.1, b.2⟩))))) hA9
    have hs124 := hM2.1.1.1
    show WpN (gp g0 wp) CLS p l e R s m args below meth c Q D_0.2.2.1 kc0 ks0 698 [some (.ref 7000000000003), some (.ref 0), some (.ref 124), some (.ref 146), some (.ref 147), some (.int i), v6, v7, v8] (h2, kc + 5, ks + 55) [.int a6]
    refine g_storeI act (gx gp_0 (w := 0x602bc10) rfl (by decide) rfl) (a := 6) (n := 700) rfl rfl (L2 := [some (.ref 7000000000003), some (.ref 0), some (.ref 124), some (.ref 146), some (.ref 147), some (.int i), some (.int a6), v7, v8]) rfl ?_
    refine g_loadA act (gx gp_0 (w := 0x202bd03) rfl (by decide) rfl) (a := 2) (n := 701) rfl rfl rfl ?_
    refine g_loadA act (gx gp_0 (w := 0x2be03) rfl (by decide) rfl) (a := 0) (n := 702) rfl rfl rfl ?_
    refine g_loadI act (gx gp_0 (w := 0x502c002) rfl (by decide) rfl) (a := 5) (n := 704) rfl rfl rfl ?_
    refine g_constI act (gx gp_0 (w := 0x40000000c0000000900000002c101) rfl (by decide) rfl) (n := 705) (x := (1 : Int32)) (by decide) rfl ?_
    refine g_iadd act (gx gp_0 (w := 0x2c20a) rfl (by decide) rfl) (n := 706) rfl ?_
    refine g_sald act (gx gp_0 (w := 0x2c31a) rfl (by decide) rfl) (n := 707) rfl (by omega) (by omega) ?_
    refine g_loadA act (gx gp_0 (w := 0x2c403) rfl (by decide) rfl) (a := 0) (n := 708) rfl rfl rfl ?_
    refine g_loadI act (gx gp_0 (w := 0x502c602) rfl (by decide) rfl) (a := 5) (n := 710) rfl rfl rfl ?_
    refine g_constI act (gx gp_0 (w := 0x4000000140000001100000002c701) rfl (by decide) rfl) (n := 711) (x := (2 : Int32)) (by decide) rfl ?_
    refine g_iadd act (gx gp_0 (w := 0x2c80a) rfl (by decide) rfl) (n := 712) rfl ?_
    refine g_sald act (gx gp_0 (w := 0x2c91a) rfl (by decide) rfl) (n := 713) rfl (by omega) (by omega) ?_
    refine g_loadA act (gx gp_0 (w := 0x2ca03) rfl (by decide) rfl) (a := 0) (n := 714) rfl rfl rfl ?_
    refine g_loadI act (gx gp_0 (w := 0x502cc02) rfl (by decide) rfl) (a := 5) (n := 716) rfl rfl rfl ?_
    refine g_constI act (gx gp_0 (w := 0x40000001c0000001900000002cd01) rfl (by decide) rfl) (n := 717) (x := (3 : Int32)) (by decide) rfl ?_
    refine g_iadd act (gx gp_0 (w := 0x2ce0a) rfl (by decide) rfl) (n := 718) rfl ?_
    refine g_sald act (gx gp_0 (w := 0x2cf1a) rfl (by decide) rfl) (n := 719) rfl (by omega) (by omega) ?_
    refine n_call tb_pres act hEnd (gx (P := G_call) gp_0 (w := 0xa000000000000c104400010e02d20f) rfl (by decide) rfl) (d' := D_270) rfl (f' := 2) (lam' := 44) (mc := 0) (ms := 0) (as := [.ref 124, .int (xs (i + (1 : Int32)).toInt.toNat), .int (xs (i + (2 : Int32)).toInt.toNat), .int (xs (i + (3 : Int32)).toInt.toNat)]) (rest := []) (bx_setDemand hM2) (show (4 : Nat) = fb 0xa000000000000c104400010e02d20f % 16 by decide) (by show (4 : Nat) ≤ 4; decide) (fun _ => ⟨_, _, rfl, _, shp_at hs124, Or.inr (show fb 0xa000000000000c104400010e02d20f >>> 68 = 10 by decide)⟩) (by omega) (by show 8 + (4 + 11) + 44 ≤ R.locals; omega) (by show (0 : Nat) ≤ 8; decide) (by show kc + 5 + 0 ≤ _; omega) (by show ks + 55 + 0 ≤ _; omega) (fun r9 h3 hpo hr9 => ?_) (fun x9 hs9 hx9 hpo => ?_)
    · obtain ⟨hI3, ln3, e3, b7, rfl, ho3⟩ := set_c2 hT hI9 hr hJ hM hX hS hcc (fun a b => Or.inr (Or.inr (Or.inr (Or.inl ⟨rfl, a.1.1, by show (xs (i + (1 : Int32)).toInt.toNat).toInt < (4 : Int); omega, a.2.1, by show (xs (i + (2 : Int32)).toInt.toNat).toInt < (4 : Int); omega⟩)))) (chg_dem rfl rfl) hpo.2
      have ln3 : h3.length = h2.length := ln3
      obtain ⟨_, _, _, _, _, _, _, _, hB3, _⟩ := hI3.num
      have hs3 := hB3.1.1
      show WpN (gp g0 wp) CLS p l e R s m args below meth c Q D_0.2.2.1 kc0 ks0 722 [some (.ref 7000000000003), some (.ref 0), some (.ref 124), some (.ref 146), some (.ref 147), some (.int i), some (.int a6), v7, v8] (h3, kc + 5, ks + 55) [.int b7]
      refine g_storeI act (gx gp_0 (w := 0x702d410) rfl (by decide) rfl) (a := 7) (n := 724) rfl rfl (L2 := [some (.ref 7000000000003), some (.ref 0), some (.ref 124), some (.ref 146), some (.ref 147), some (.int i), some (.int a6), some (.int b7), v8]) rfl ?_
      refine g_goto act (gx gp_0 (w := 0x72507) rfl (by decide) rfl) (n := 1829) rfl ?_
      exact K _ _ _ _ _ _ _ _ _ _ _ hI3 (pt_step hP (by decide) (by decide) (by rw [ln3]; omega))
    · exact absurd hpo.1 (by omega)
  · exact absurd hpo.1 (by omega)

theorem lb_727 (hTY : TYg g0) (act : Act SSX TBL (gp g0 wp) CLS bl xs D_0 p l s m args meth c) (hEnd : EndN SSX TBL (gp g0 wp) CLS D_0 p l e R s m args below meth c Q kc0 ks0 15 616 KC9 KS9 PE) (hf : 15 ≤ R.frames) (hl : 616 ≤ R.locals) (hc : 638008 ≤ R.cells + kc0) (hsl : 7182079 ≤ R.slots + ks0) (hI : LJ hs R0 tx L ec ep) (hP : PT kc ks hs.length t) (ht : t ≤ 511) (hi : i.toInt = 6 * (t : Int)) (hib : i.toInt + 6 ≤ (bl : Int)) (K : ∀ (h2 : List CE) (R2 : List Nat) (tx2 : Nat → Int) (L2 : Nat) (ec2 ep2 : Int) (kc2 ks2 : Nat) (v6 v7 v8 : Option Value), LJ h2 R2 tx2 L2 ec2 ep2 → PT kc2 ks2 h2.length (t + 1) → WpN (gp g0 wp) CLS p l e R s m args below meth c Q D_0.2.2.1 kc0 ks0 1829 [some (.ref 7000000000003), some (.ref 0), some (.ref 124), some (.ref 146), some (.ref 147), some (.int i), v6, v7, v8] (h2, kc2, ks2) []) : WpN (gp g0 wp) CLS p l e R s m args below meth c Q D_0.2.2.1 kc0 ks0 727 [some (.ref 7000000000003), some (.ref 0), some (.ref 124), some (.ref 146), some (.ref 147), some (.int i), v6, v7, v8] (hs, kc, ks) [] := by
  have hTY9 : TYg (gp g0 wp) := hTY
  obtain ⟨p1, p2, p3⟩ := id hP
  have j1 := i_k (i := i) (k := 1) (by omega) (by omega) (by decide) (by decide)
  have j2 := i_k (i := i) (k := 2) (by omega) (by omega) (by decide) (by decide)
  have j3 := i_k (i := i) (k := 3) (by omega) (by omega) (by decide) (by decide)
  have j4 := i_k (i := i) (k := 4) (by omega) (by omega) (by decide) (by decide)
  have j5 := i_k (i := i) (k := 5) (by omega) (by omega) (by decide) (by decide)
  rw [show (1 : Int32).toInt = 1 from rfl] at j1
  rw [show (2 : Int32).toInt = 2 from rfl] at j2
  rw [show (3 : Int32).toInt = 3 from rfl] at j3
  rw [show (4 : Int32).toInt = 4 from rfl] at j4
  rw [show (5 : Int32).toInt = 5 from rfl] at j5
  obtain ⟨hT, hI9, hr, fv, w, pv, nl, n, ng, nr, np, ch, g, hS, hJ, hM, hX⟩ := id hI
  obtain ⟨F, hC⟩ := id hJ.1
  obtain ⟨w0, w1, w2, w3, w4, w5, w6, w7, w8, w9, wa, wb, wc, wd, we⟩ := id hC.2.2.2.2.2.1
  have h148 : 148 ≤ hs.length := by
    rw [← hT.1]
    have := (List.getElem?_eq_some_iff.mp hr.2.2.2.2.2.2.2.2).1
    omega
  have hl40 : hs.length + 40 ≤ 6999999999999 := by omega
  have hl3 : hs.length + 3 ≤ 6999999999999 := by omega
  have hl0 : hs.length ≤ 6999999999999 := by omega
  refine g_loadA act (gx gp_0 (w := 0x102d803) rfl (by decide) rfl) (a := 1) (n := 728) rfl rfl rfl ?_
  refine g_loadA act (gx gp_0 (w := 0x2d903) rfl (by decide) rfl) (a := 0) (n := 729) rfl rfl rfl ?_
  refine g_loadI act (gx gp_0 (w := 0x502db02) rfl (by decide) rfl) (a := 5) (n := 731) rfl rfl rfl ?_
  refine g_constI act (gx gp_0 (w := 0x40000000c0000000900000002dc01) rfl (by decide) rfl) (n := 732) (x := (1 : Int32)) (by decide) rfl ?_
  refine g_iadd act (gx gp_0 (w := 0x2dd0a) rfl (by decide) rfl) (n := 733) rfl ?_
  refine g_sald act (gx gp_0 (w := 0x2de1a) rfl (by decide) rfl) (n := 734) rfl (by omega) (by omega) ?_
  refine g_loadA act (gx gp_0 (w := 0x302df03) rfl (by decide) rfl) (a := 3) (n := 735) rfl rfl rfl ?_
  refine n_call tb_pres act hEnd (gx (P := G_call) gp_0 (w := 0x40000000000000410330000a902e20f) rfl (by decide) rfl) (d' := D_169) rfl (f' := 11) (lam' := 204) (mc := 5) (ms := 55) (as := [.ref 0, .int (xs (i + (1 : Int32)).toInt.toNat), .ref 146]) (rest := []) (wx_setOutage (PO := OPO (xs (i + (1 : Int32)).toInt.toNat).toInt hs tx L ec ep g F fv w nl ng nr n np ch) (fun g0 q => cx_setOutage q h148 hl3 hC hJ.2.1 hJ.2.2) hTY9 hC.1.1 (out_h0 hT hr hJ hM hl0) out_hx) (show (3 : Nat) = fb 0x40000000000000410330000a902e20f % 16 by decide) (by show (3 : Nat) ≤ 4; decide) (fun q => absurd q (by decide)) (by omega) (by show 8 + (4 + 11) + 204 ≤ R.locals; omega) (by show (0 : Nat) ≤ 8; decide) (by show kc + 5 ≤ _; omega) (by show ks + 55 ≤ _; omega) (fun r9 h2 hpo hr9 => ?_) (fun x9 hs9 hx9 hpo => ?_)
  · refine n_al9 (fun hA9 => ?_)
    have hA9 : AL9 h2 := hA9
    obtain ⟨a6, R2, rfl, hln, hM2, hcc⟩ := out_c1 hT hI9 hr hJ hM hX hl3 hS (show PW2 (OPO (xs (i + (1 : Int32)).toInt.toNat).toInt hs tx L ec ep g F fv w nl ng nr n np ch) 0 _ h2 from hpo) hA9
    have hs124 := hM2.1.1.1
    show WpN (gp g0 wp) CLS p l e R s m args below meth c Q D_0.2.2.1 kc0 ks0 738 [some (.ref 7000000000003), some (.ref 0), some (.ref 124), some (.ref 146), some (.ref 147), some (.int i), v6, v7, v8] (h2, kc + 5, ks + 55) [.int a6]
    refine g_storeI act (gx gp_0 (w := 0x602e410) rfl (by decide) rfl) (a := 6) (n := 740) rfl rfl (L2 := [some (.ref 7000000000003), some (.ref 0), some (.ref 124), some (.ref 146), some (.ref 147), some (.int i), some (.int a6), v7, v8]) rfl ?_
    refine g_loadA act (gx gp_0 (w := 0x202e503) rfl (by decide) rfl) (a := 2) (n := 741) rfl rfl rfl ?_
    refine g_loadA act (gx gp_0 (w := 0x2e603) rfl (by decide) rfl) (a := 0) (n := 742) rfl rfl rfl ?_
    refine g_loadI act (gx gp_0 (w := 0x502e802) rfl (by decide) rfl) (a := 5) (n := 744) rfl rfl rfl ?_
    refine g_constI act (gx gp_0 (w := 0x40000000c0000000900000002e901) rfl (by decide) rfl) (n := 745) (x := (1 : Int32)) (by decide) rfl ?_
    refine g_iadd act (gx gp_0 (w := 0x2ea0a) rfl (by decide) rfl) (n := 746) rfl ?_
    refine g_sald act (gx gp_0 (w := 0x2eb1a) rfl (by decide) rfl) (n := 747) rfl (by omega) (by omega) ?_
    refine n_call tb_pres act hEnd (gx (P := G_call) gp_0 (w := 0xa000000000000c082200011002ee0f) rfl (by decide) rfl) (d' := D_272) rfl (f' := 2) (lam' := 44) (mc := 0) (ms := 0) (as := [.ref 124, .int (xs (i + (1 : Int32)).toInt.toNat)]) (rest := []) (bx_setOutage hM2) (show (2 : Nat) = fb 0xa000000000000c082200011002ee0f % 16 by decide) (by show (2 : Nat) ≤ 2; decide) (fun _ => ⟨_, _, rfl, _, shp_at hs124, Or.inr (show fb 0xa000000000000c082200011002ee0f >>> 68 = 10 by decide)⟩) (by omega) (by show 8 + (2 + 11) + 44 ≤ R.locals; omega) (by show (0 : Nat) ≤ 8; decide) (by show kc + 5 + 0 ≤ _; omega) (by show ks + 55 + 0 ≤ _; omega) (fun r9 h3 hpo hr9 => ?_) (fun x9 hs9 hx9 hpo => ?_)
    · obtain ⟨hI3, ln3, e3, b7, rfl, ho3⟩ := out_c2 hS hcc hpo.2
      have ln3 : h3.length = h2.length := ln3
      obtain ⟨_, _, _, _, _, _, _, _, hB3, _⟩ := hI3.num
      have hs3 := hB3.1.1
      show WpN (gp g0 wp) CLS p l e R s m args below meth c Q D_0.2.2.1 kc0 ks0 750 [some (.ref 7000000000003), some (.ref 0), some (.ref 124), some (.ref 146), some (.ref 147), some (.int i), some (.int a6), v7, v8] (h3, kc + 5, ks + 55) [.int b7]
      refine g_storeI act (gx gp_0 (w := 0x702f010) rfl (by decide) rfl) (a := 7) (n := 752) rfl rfl (L2 := [some (.ref 7000000000003), some (.ref 0), some (.ref 124), some (.ref 146), some (.ref 147), some (.int i), some (.int a6), some (.int b7), v8]) rfl ?_
      refine g_goto act (gx gp_0 (w := 0x72507) rfl (by decide) rfl) (n := 1829) rfl ?_
      exact K _ _ _ _ _ _ _ _ _ _ _ hI3 (pt_step hP (by decide) (by decide) (by rw [ln3]; omega))
    · exact absurd hpo.1 (by omega)
  · exact absurd hpo.1 (by omega)

theorem lb_755 (hTY : TYg g0) (act : Act SSX TBL (gp g0 wp) CLS bl xs D_0 p l s m args meth c) (hEnd : EndN SSX TBL (gp g0 wp) CLS D_0 p l e R s m args below meth c Q kc0 ks0 15 616 KC9 KS9 PE) (hf : 15 ≤ R.frames) (hl : 616 ≤ R.locals) (hc : 638008 ≤ R.cells + kc0) (hsl : 7182079 ≤ R.slots + ks0) (hI : LJ hs R0 tx L ec ep) (hP : PT kc ks hs.length t) (ht : t ≤ 511) (hi : i.toInt = 6 * (t : Int)) (hib : i.toInt + 6 ≤ (bl : Int)) (K : ∀ (h2 : List CE) (R2 : List Nat) (tx2 : Nat → Int) (L2 : Nat) (ec2 ep2 : Int) (kc2 ks2 : Nat) (v6 v7 v8 : Option Value), LJ h2 R2 tx2 L2 ec2 ep2 → PT kc2 ks2 h2.length (t + 1) → WpN (gp g0 wp) CLS p l e R s m args below meth c Q D_0.2.2.1 kc0 ks0 1829 [some (.ref 7000000000003), some (.ref 0), some (.ref 124), some (.ref 146), some (.ref 147), some (.int i), v6, v7, v8] (h2, kc2, ks2) []) : WpN (gp g0 wp) CLS p l e R s m args below meth c Q D_0.2.2.1 kc0 ks0 755 [some (.ref 7000000000003), some (.ref 0), some (.ref 124), some (.ref 146), some (.ref 147), some (.int i), v6, v7, v8] (hs, kc, ks) [] := by
  have hTY9 : TYg (gp g0 wp) := hTY
  obtain ⟨p1, p2, p3⟩ := id hP
  have j1 := i_k (i := i) (k := 1) (by omega) (by omega) (by decide) (by decide)
  have j2 := i_k (i := i) (k := 2) (by omega) (by omega) (by decide) (by decide)
  have j3 := i_k (i := i) (k := 3) (by omega) (by omega) (by decide) (by decide)
  have j4 := i_k (i := i) (k := 4) (by omega) (by omega) (by decide) (by decide)
  have j5 := i_k (i := i) (k := 5) (by omega) (by omega) (by decide) (by decide)
  rw [show (1 : Int32).toInt = 1 from rfl] at j1
  rw [show (2 : Int32).toInt = 2 from rfl] at j2
  rw [show (3 : Int32).toInt = 3 from rfl] at j3
  rw [show (4 : Int32).toInt = 4 from rfl] at j4
  rw [show (5 : Int32).toInt = 5 from rfl] at j5
  obtain ⟨hT, hI9, hr, fv, w, pv, nl, n, ng, nr, np, ch, g, hS, hJ, hM, hX⟩ := id hI
  obtain ⟨F, hC⟩ := id hJ.1
  obtain ⟨w0, w1, w2, w3, w4, w5, w6, w7, w8, w9, wa, wb, wc, wd, we⟩ := id hC.2.2.2.2.2.1
  have h148 : 148 ≤ hs.length := by
    rw [← hT.1]
    have := (List.getElem?_eq_some_iff.mp hr.2.2.2.2.2.2.2.2).1
    omega
  have hl40 : hs.length + 40 ≤ 6999999999999 := by omega
  have hl3 : hs.length + 3 ≤ 6999999999999 := by omega
  have hl0 : hs.length ≤ 6999999999999 := by omega
  refine g_loadA act (gx gp_0 (w := 0x102f403) rfl (by decide) rfl) (a := 1) (n := 756) rfl rfl rfl ?_
  refine g_loadA act (gx gp_0 (w := 0x302f503) rfl (by decide) rfl) (a := 3) (n := 757) rfl rfl rfl ?_
  refine n_call tb_pres act hEnd (gx (P := G_call) gp_0 (w := 0x4000000000000040c220000ae02f80f) rfl (by decide) rfl) (d' := D_174) rfl (f' := 9) (lam' := 140) (mc := 1) (ms := 11) (as := [.ref 0, .ref 146]) (rest := []) (wx_undo (PO := UPO hs tx L ec ep g fv w nl ng nr n np ch) (fun g0 q => cx_undo q h148 hl3 hC hJ.2.1 hJ.2.2 rfl (und_gd hS hC.2.2.2.2.2.1)) hTY9 hC.1.1 (und_h0 hT hr hJ hM hl0) und_hx) (show (2 : Nat) = fb 0x4000000000000040c220000ae02f80f % 16 by decide) (by show (2 : Nat) ≤ 3; decide) (fun q => absurd q (by decide)) (by omega) (by show 8 + (3 + 11) + 140 ≤ R.locals; omega) (by show (0 : Nat) ≤ 8; decide) (by show kc + 1 ≤ _; omega) (by show ks + 11 ≤ _; omega) (fun r9 h2 hpo hr9 => ?_) (fun x9 hs9 hx9 hpo => ?_)
  · refine n_al9 (fun hA9 => ?_)
    have hA9 : AL9 h2 := hA9
    obtain ⟨a6, R2, rfl, hln, hM2, hcc⟩ := und_c1 hT hI9 hr hJ hM hX hl3 hS (show PW1 1 (UPO hs tx L ec ep g fv w nl ng nr n np ch) 0 _ h2 from hpo) hA9
    have hs124 := hM2.1.1.1
    show WpN (gp g0 wp) CLS p l e R s m args below meth c Q D_0.2.2.1 kc0 ks0 760 [some (.ref 7000000000003), some (.ref 0), some (.ref 124), some (.ref 146), some (.ref 147), some (.int i), v6, v7, v8] (h2, kc + 1, ks + 11) [.int a6]
    refine g_storeI act (gx gp_0 (w := 0x602fa10) rfl (by decide) rfl) (a := 6) (n := 762) rfl rfl (L2 := [some (.ref 7000000000003), some (.ref 0), some (.ref 124), some (.ref 146), some (.ref 147), some (.int i), some (.int a6), v7, v8]) rfl ?_
    refine g_loadA act (gx gp_0 (w := 0x202fb03) rfl (by decide) rfl) (a := 2) (n := 763) rfl rfl rfl ?_
    refine n_call tb_pres act hEnd (gx (P := G_call) gp_0 (w := 0xa000000000000c081100011e02fe0f) rfl (by decide) rfl) (d' := D_286) rfl (f' := 0) (lam' := 0) (mc := 0) (ms := 0) (as := [.ref 124]) (rest := []) (bx_undo hM2 hS.2.2.2.2.1) (show (1 : Nat) = fb 0xa000000000000c081100011e02fe0f % 16 by decide) (by show (1 : Nat) ≤ 2; decide) (fun _ => ⟨_, _, rfl, _, shp_at hs124, Or.inr (show fb 0xa000000000000c081100011e02fe0f >>> 68 = 10 by decide)⟩) (by omega) (by show 8 + (2 + 11) + 0 ≤ R.locals; omega) (by show (0 : Nat) ≤ 8; decide) (by show kc + 1 + 0 ≤ _; omega) (by show ks + 11 + 0 ≤ _; omega) (fun r9 h3 hpo hr9 => ?_) (fun x9 hs9 hx9 hpo => ?_)
    · obtain ⟨hI3, ln3, e3, b7, rfl, ho3⟩ := und_c2 hT hI9 hr hJ hM hX hS hcc hpo.2
      have ln3 : h3.length = h2.length := ln3
      obtain ⟨_, _, _, _, _, _, _, _, hB3, _⟩ := hI3.num
      have hs3 := hB3.1.1
      show WpN (gp g0 wp) CLS p l e R s m args below meth c Q D_0.2.2.1 kc0 ks0 766 [some (.ref 7000000000003), some (.ref 0), some (.ref 124), some (.ref 146), some (.ref 147), some (.int i), some (.int a6), v7, v8] (h3, kc + 1, ks + 11) [.int b7]
      refine g_storeI act (gx gp_0 (w := 0x7030010) rfl (by decide) rfl) (a := 7) (n := 768) rfl rfl (L2 := [some (.ref 7000000000003), some (.ref 0), some (.ref 124), some (.ref 146), some (.ref 147), some (.int i), some (.int a6), some (.int b7), v8]) rfl ?_
      refine g_goto act (gx gp_0 (w := 0x72507) rfl (by decide) rfl) (n := 1829) rfl ?_
      exact K _ _ _ _ _ _ _ _ _ _ _ hI3 (pt_step hP (by decide) (by decide) (by rw [ln3]; omega))
    · exact absurd hpo.1 (by omega)
  · exact absurd hpo.1 (by omega)

theorem lb_771 (hTY : TYg g0) (act : Act SSX TBL (gp g0 wp) CLS bl xs D_0 p l s m args meth c) (hEnd : EndN SSX TBL (gp g0 wp) CLS D_0 p l e R s m args below meth c Q kc0 ks0 15 616 KC9 KS9 PE) (hf : 15 ≤ R.frames) (hl : 616 ≤ R.locals) (hc : 638008 ≤ R.cells + kc0) (hsl : 7182079 ≤ R.slots + ks0) (hI : LJ hs R0 tx L ec ep) (hP : PT kc ks hs.length t) (ht : t ≤ 511) (hi : i.toInt = 6 * (t : Int)) (hib : i.toInt + 6 ≤ (bl : Int)) (K : ∀ (h2 : List CE) (R2 : List Nat) (tx2 : Nat → Int) (L2 : Nat) (ec2 ep2 : Int) (kc2 ks2 : Nat) (v6 v7 v8 : Option Value), LJ h2 R2 tx2 L2 ec2 ep2 → PT kc2 ks2 h2.length (t + 1) → WpN (gp g0 wp) CLS p l e R s m args below meth c Q D_0.2.2.1 kc0 ks0 1829 [some (.ref 7000000000003), some (.ref 0), some (.ref 124), some (.ref 146), some (.ref 147), some (.int i), v6, v7, v8] (h2, kc2, ks2) []) : WpN (gp g0 wp) CLS p l e R s m args below meth c Q D_0.2.2.1 kc0 ks0 771 [some (.ref 7000000000003), some (.ref 0), some (.ref 124), some (.ref 146), some (.ref 147), some (.int i), v6, v7, v8] (hs, kc, ks) [] := by
  have hTY9 : TYg (gp g0 wp) := hTY
  obtain ⟨p1, p2, p3⟩ := id hP
  have j1 := i_k (i := i) (k := 1) (by omega) (by omega) (by decide) (by decide)
  have j2 := i_k (i := i) (k := 2) (by omega) (by omega) (by decide) (by decide)
  have j3 := i_k (i := i) (k := 3) (by omega) (by omega) (by decide) (by decide)
  have j4 := i_k (i := i) (k := 4) (by omega) (by omega) (by decide) (by decide)
  have j5 := i_k (i := i) (k := 5) (by omega) (by omega) (by decide) (by decide)
  rw [show (1 : Int32).toInt = 1 from rfl] at j1
  rw [show (2 : Int32).toInt = 2 from rfl] at j2
  rw [show (3 : Int32).toInt = 3 from rfl] at j3
  rw [show (4 : Int32).toInt = 4 from rfl] at j4
  rw [show (5 : Int32).toInt = 5 from rfl] at j5
  refine g_loadA act (gx gp_0 (w := 0x1030403) rfl (by decide) rfl) (a := 1) (n := 772) rfl rfl rfl ?_
  refine g_loadA act (gx gp_0 (w := 0x30503) rfl (by decide) rfl) (a := 0) (n := 773) rfl rfl rfl ?_
  refine g_loadI act (gx gp_0 (w := 0x5030702) rfl (by decide) rfl) (a := 5) (n := 775) rfl rfl rfl ?_
  refine g_constI act (gx gp_0 (w := 0x40000000c00000009000000030801) rfl (by decide) rfl) (n := 776) (x := (1 : Int32)) (by decide) rfl ?_
  refine g_iadd act (gx gp_0 (w := 0x3090a) rfl (by decide) rfl) (n := 777) rfl ?_
  refine g_sald act (gx gp_0 (w := 0x30a1a) rfl (by decide) rfl) (n := 778) rfl (by omega) (by omega) ?_
  refine g_loadA act (gx gp_0 (w := 0x30b03) rfl (by decide) rfl) (a := 0) (n := 779) rfl rfl rfl ?_
  refine g_loadI act (gx gp_0 (w := 0x5030d02) rfl (by decide) rfl) (a := 5) (n := 781) rfl rfl rfl ?_
  refine g_constI act (gx gp_0 (w := 0x40000001400000011000000030e01) rfl (by decide) rfl) (n := 782) (x := (2 : Int32)) (by decide) rfl ?_
  refine g_iadd act (gx gp_0 (w := 0x30f0a) rfl (by decide) rfl) (n := 783) rfl ?_
  refine g_sald act (gx gp_0 (w := 0x3101a) rfl (by decide) rfl) (n := 784) rfl (by omega) (by omega) ?_
  refine g_loadA act (gx gp_0 (w := 0x31103) rfl (by decide) rfl) (a := 0) (n := 785) rfl rfl rfl ?_
  refine g_loadI act (gx gp_0 (w := 0x5031302) rfl (by decide) rfl) (a := 5) (n := 787) rfl rfl rfl ?_
  refine g_constI act (gx gp_0 (w := 0x40000001c00000019000000031401) rfl (by decide) rfl) (n := 788) (x := (3 : Int32)) (by decide) rfl ?_
  refine g_iadd act (gx gp_0 (w := 0x3150a) rfl (by decide) rfl) (n := 789) rfl ?_
  refine g_sald act (gx gp_0 (w := 0x3161a) rfl (by decide) rfl) (n := 790) rfl (by omega) (by omega) ?_
  refine g_loadA act (gx gp_0 (w := 0x3031703) rfl (by decide) rfl) (a := 3) (n := 791) rfl rfl rfl ?_
  refine n_call tb_pres act hEnd (gx (P := G_call) gp_0 (w := 0x4000000000000041855000091031a0f) rfl (by decide) rfl) (d' := D_145) rfl (f' := 11) (lam' := 192) (mc := 4) (ms := 44) (as := [.ref 0, .int (xs (i + (1 : Int32)).toInt.toNat), .int (xs (i + (2 : Int32)).toInt.toNat), .int (xs (i + (3 : Int32)).toInt.toNat), .ref 146]) (rest := []) ((sem_useQ (c := c145_0Q) (es := [(-2147483648, 2147483647, false), (-2147483648, 2147483647, false), (-2147483648, 2147483647, false)]) (vs := [(xs (i + (1 : Int32)).toInt.toNat), (xs (i + (2 : Int32)).toInt.toNat), (xs (i + (3 : Int32)).toInt.toNat)]) (ws := [.ref 0, .int (xs (i + (1 : Int32)).toInt.toNat), .int (xs (i + (2 : Int32)).toInt.toNat), .int (xs (i + (3 : Int32)).toInt.toNat), .ref 146]) (sc145_0Q (handsB_KCQ invC_KCQ)) (d := D_145) rfl rfl rfl rfl (by decide) hTY9 hI.1 hI.2.1 (by show hs.length + 4 ≤ _; omega) (hvF (by decide) rfl) (Or.inl ⟨rfl, ⟨0, 501, rfl, hI.2.2.1.1, by decide, by decide⟩, (Or.inr ⟨(xs (i + (1 : Int32)).toInt.toNat), [(xs (i + (2 : Int32)).toInt.toNat), (xs (i + (3 : Int32)).toInt.toNat)], rfl, rfl, rfl, (Or.inr ⟨(xs (i + (2 : Int32)).toInt.toNat), [(xs (i + (3 : Int32)).toInt.toNat)], rfl, rfl, rfl, (Or.inr ⟨(xs (i + (3 : Int32)).toInt.toNat), [], rfl, rfl, rfl, (Or.inl ⟨rfl, ⟨146, 55, rfl, hI.2.2.1.2.2.2.2.2.2.2.1, by decide, by decide⟩, trivial⟩)⟩)⟩)⟩)⟩)).imp (fun kd r h2 h => w_useX (by decide +kernel) h)) (show (5 : Nat) = fb 0x4000000000000041855000091031a0f % 16 by decide) (by show (5 : Nat) ≤ 6; decide) (fun q => absurd q (by decide)) (by omega) (by show 8 + (6 + 11) + 192 ≤ R.locals; omega) (by show (0 : Nat) ≤ 8; decide) (by show kc + 4 ≤ _; omega) (by show ks + 44 ≤ _; omega) (fun r9 h2 hpo hr9 => ?_) (fun x9 hs9 hx9 hpo => ?_)
  · obtain ⟨-, ⟨a6, rfl⟩, R2, hXX, hln⟩ := hpo
    have hln : h2.length ≤ hs.length + 4 := hln
    have hI2 := hI.hx hXX
    show WpN (gp g0 wp) CLS p l e R s m args below meth c Q D_0.2.2.1 kc0 ks0 794 [some (.ref 7000000000003), some (.ref 0), some (.ref 124), some (.ref 146), some (.ref 147), some (.int i), v6, v7, v8] (h2, kc + 4, ks + 44) [.int a6]
    refine g_storeI act (gx gp_0 (w := 0x6031c10) rfl (by decide) rfl) (a := 6) (n := 796) rfl rfl (L2 := [some (.ref 7000000000003), some (.ref 0), some (.ref 124), some (.ref 146), some (.ref 147), some (.int i), some (.int a6), v7, v8]) rfl ?_
    refine g_loadA act (gx gp_0 (w := 0x2031d03) rfl (by decide) rfl) (a := 2) (n := 797) rfl rfl rfl ?_
    refine g_loadA act (gx gp_0 (w := 0x31e03) rfl (by decide) rfl) (a := 0) (n := 798) rfl rfl rfl ?_
    refine g_loadI act (gx gp_0 (w := 0x5032002) rfl (by decide) rfl) (a := 5) (n := 800) rfl rfl rfl ?_
    refine g_constI act (gx gp_0 (w := 0x40000000c00000009000000032101) rfl (by decide) rfl) (n := 801) (x := (1 : Int32)) (by decide) rfl ?_
    refine g_iadd act (gx gp_0 (w := 0x3220a) rfl (by decide) rfl) (n := 802) rfl ?_
    refine g_sald act (gx gp_0 (w := 0x3231a) rfl (by decide) rfl) (n := 803) rfl (by omega) (by omega) ?_
    refine g_loadA act (gx gp_0 (w := 0x32403) rfl (by decide) rfl) (a := 0) (n := 804) rfl rfl rfl ?_
    refine g_loadI act (gx gp_0 (w := 0x5032602) rfl (by decide) rfl) (a := 5) (n := 806) rfl rfl rfl ?_
    refine g_constI act (gx gp_0 (w := 0x40000001400000011000000032701) rfl (by decide) rfl) (n := 807) (x := (2 : Int32)) (by decide) rfl ?_
    refine g_iadd act (gx gp_0 (w := 0x3280a) rfl (by decide) rfl) (n := 808) rfl ?_
    refine g_sald act (gx gp_0 (w := 0x3291a) rfl (by decide) rfl) (n := 809) rfl (by omega) (by omega) ?_
    refine g_loadA act (gx gp_0 (w := 0x32a03) rfl (by decide) rfl) (a := 0) (n := 810) rfl rfl rfl ?_
    refine g_loadI act (gx gp_0 (w := 0x5032c02) rfl (by decide) rfl) (a := 5) (n := 812) rfl rfl rfl ?_
    refine g_constI act (gx gp_0 (w := 0x40000001c00000019000000032d01) rfl (by decide) rfl) (n := 813) (x := (3 : Int32)) (by decide) rfl ?_
    refine g_iadd act (gx gp_0 (w := 0x32e0a) rfl (by decide) rfl) (n := 814) rfl ?_
    refine g_sald act (gx gp_0 (w := 0x32f1a) rfl (by decide) rfl) (n := 815) rfl (by omega) (by omega) ?_
    obtain ⟨tl, wl, nl, n, ng, nr, hNW, hL1, hB, hM⟩ := hI2.num
    refine n_call tb_pres act hEnd (gx (P := G_call) gp_0 (w := 0xa000000000000c10440000cc03320f) rfl (by decide) rfl) (d' := D_204) rfl (f' := 6) (lam' := 169) (mc := 0) (ms := 0) (as := [.ref 124, .int (xs (i + (1 : Int32)).toInt.toNat), .int (xs (i + (2 : Int32)).toInt.toNat), .int (xs (i + (3 : Int32)).toInt.toNat)]) (rest := []) (b_factor hNW hB hM) (show (4 : Nat) = fb 0xa000000000000c10440000cc03320f % 16 by decide) (by show (4 : Nat) ≤ 4; decide) (fun _ => ⟨_, _, rfl, _, shp_at hB.1.1, Or.inr (show fb 0xa000000000000c10440000cc03320f >>> 68 = 10 by decide)⟩) (by omega) (by show 8 + (4 + 11) + 169 ≤ R.locals; omega) (by show (0 : Nat) ≤ 8; decide) (by show kc + 4 + 0 ≤ _; omega) (by show ks + 44 + 0 ≤ _; omega) (fun r9 h3 hpo hr9 => ?_) (fun x9 hs9 hx9 hpo => ?_)
    · obtain ⟨-, ⟨b7, rfl⟩, hM3, f3⟩ := hpo
      have hI3 := hI2.wm f3 hM3
      have ln3 : h3.length = h2.length := f3.1
      show WpN (gp g0 wp) CLS p l e R s m args below meth c Q D_0.2.2.1 kc0 ks0 818 [some (.ref 7000000000003), some (.ref 0), some (.ref 124), some (.ref 146), some (.ref 147), some (.int i), some (.int a6), v7, v8] (h3, kc + 4, ks + 44) [.long b7]
      refine g_storeL act (gx gp_0 (w := 0x703340b) rfl (by decide) rfl) (a := 7) (n := 820) rfl rfl (L2 := [some (.ref 7000000000003), some (.ref 0), some (.ref 124), some (.ref 146), some (.ref 147), some (.int i), some (.int a6), some (.long b7), none]) rfl ?_
      refine g_goto act (gx gp_0 (w := 0x72507) rfl (by decide) rfl) (n := 1829) rfl ?_
      exact K _ _ _ _ _ _ _ _ _ _ _ hI3 (pt_step hP (by decide) (by decide) (by rw [ln3]; omega))
    · exact absurd hpo.1 (by omega)
  · exact absurd hpo.1 (by omega)

theorem lb_823 (hTY : TYg g0) (act : Act SSX TBL (gp g0 wp) CLS bl xs D_0 p l s m args meth c) (hEnd : EndN SSX TBL (gp g0 wp) CLS D_0 p l e R s m args below meth c Q kc0 ks0 15 616 KC9 KS9 PE) (hf : 15 ≤ R.frames) (hl : 616 ≤ R.locals) (hc : 638008 ≤ R.cells + kc0) (hsl : 7182079 ≤ R.slots + ks0) (hI : LJ hs R0 tx L ec ep) (hP : PT kc ks hs.length t) (ht : t ≤ 511) (hi : i.toInt = 6 * (t : Int)) (hib : i.toInt + 6 ≤ (bl : Int)) (K : ∀ (h2 : List CE) (R2 : List Nat) (tx2 : Nat → Int) (L2 : Nat) (ec2 ep2 : Int) (kc2 ks2 : Nat) (v6 v7 v8 : Option Value), LJ h2 R2 tx2 L2 ec2 ep2 → PT kc2 ks2 h2.length (t + 1) → WpN (gp g0 wp) CLS p l e R s m args below meth c Q D_0.2.2.1 kc0 ks0 1829 [some (.ref 7000000000003), some (.ref 0), some (.ref 124), some (.ref 146), some (.ref 147), some (.int i), v6, v7, v8] (h2, kc2, ks2) []) : WpN (gp g0 wp) CLS p l e R s m args below meth c Q D_0.2.2.1 kc0 ks0 823 [some (.ref 7000000000003), some (.ref 0), some (.ref 124), some (.ref 146), some (.ref 147), some (.int i), v6, v7, v8] (hs, kc, ks) [] := by
  have hTY9 : TYg (gp g0 wp) := hTY
  obtain ⟨p1, p2, p3⟩ := id hP
  have j1 := i_k (i := i) (k := 1) (by omega) (by omega) (by decide) (by decide)
  have j2 := i_k (i := i) (k := 2) (by omega) (by omega) (by decide) (by decide)
  have j3 := i_k (i := i) (k := 3) (by omega) (by omega) (by decide) (by decide)
  have j4 := i_k (i := i) (k := 4) (by omega) (by omega) (by decide) (by decide)
  have j5 := i_k (i := i) (k := 5) (by omega) (by omega) (by decide) (by decide)
  rw [show (1 : Int32).toInt = 1 from rfl] at j1
  rw [show (2 : Int32).toInt = 2 from rfl] at j2
  rw [show (3 : Int32).toInt = 3 from rfl] at j3
  rw [show (4 : Int32).toInt = 4 from rfl] at j4
  rw [show (5 : Int32).toInt = 5 from rfl] at j5
  refine g_loadA act (gx gp_0 (w := 0x1033803) rfl (by decide) rfl) (a := 1) (n := 824) rfl rfl rfl ?_
  refine g_loadA act (gx gp_0 (w := 0x33903) rfl (by decide) rfl) (a := 0) (n := 825) rfl rfl rfl ?_
  refine g_loadI act (gx gp_0 (w := 0x5033b02) rfl (by decide) rfl) (a := 5) (n := 827) rfl rfl rfl ?_
  refine g_constI act (gx gp_0 (w := 0x40000000c00000009000000033c01) rfl (by decide) rfl) (n := 828) (x := (1 : Int32)) (by decide) rfl ?_
  refine g_iadd act (gx gp_0 (w := 0x33d0a) rfl (by decide) rfl) (n := 829) rfl ?_
  refine g_sald act (gx gp_0 (w := 0x33e1a) rfl (by decide) rfl) (n := 830) rfl (by omega) (by omega) ?_
  refine g_loadA act (gx gp_0 (w := 0x33f03) rfl (by decide) rfl) (a := 0) (n := 831) rfl rfl rfl ?_
  refine g_loadI act (gx gp_0 (w := 0x5034102) rfl (by decide) rfl) (a := 5) (n := 833) rfl rfl rfl ?_
  refine g_constI act (gx gp_0 (w := 0x40000001400000011000000034201) rfl (by decide) rfl) (n := 834) (x := (2 : Int32)) (by decide) rfl ?_
  refine g_iadd act (gx gp_0 (w := 0x3430a) rfl (by decide) rfl) (n := 835) rfl ?_
  refine g_sald act (gx gp_0 (w := 0x3441a) rfl (by decide) rfl) (n := 836) rfl (by omega) (by omega) ?_
  refine g_loadA act (gx gp_0 (w := 0x34503) rfl (by decide) rfl) (a := 0) (n := 837) rfl rfl rfl ?_
  refine g_loadI act (gx gp_0 (w := 0x5034702) rfl (by decide) rfl) (a := 5) (n := 839) rfl rfl rfl ?_
  refine g_constI act (gx gp_0 (w := 0x40000001c00000019000000034801) rfl (by decide) rfl) (n := 840) (x := (3 : Int32)) (by decide) rfl ?_
  refine g_iadd act (gx gp_0 (w := 0x3490a) rfl (by decide) rfl) (n := 841) rfl ?_
  refine g_sald act (gx gp_0 (w := 0x34a1a) rfl (by decide) rfl) (n := 842) rfl (by omega) (by omega) ?_
  refine g_loadA act (gx gp_0 (w := 0x3034b03) rfl (by decide) rfl) (a := 3) (n := 843) rfl rfl rfl ?_
  refine n_call tb_pres act hEnd (gx (P := G_call) gp_0 (w := 0x400000000000004185500009d034e0f) rfl (by decide) rfl) (d' := D_157) rfl (f' := 11) (lam' := 192) (mc := 5) (ms := 55) (as := [.ref 0, .int (xs (i + (1 : Int32)).toInt.toNat), .int (xs (i + (2 : Int32)).toInt.toNat), .int (xs (i + (3 : Int32)).toInt.toNat), .ref 146]) (rest := []) ((sem_useQ (c := c157_0Q) (es := [(-2147483648, 2147483647, false), (-2147483648, 2147483647, false), (-2147483648, 2147483647, false)]) (vs := [(xs (i + (1 : Int32)).toInt.toNat), (xs (i + (2 : Int32)).toInt.toNat), (xs (i + (3 : Int32)).toInt.toNat)]) (ws := [.ref 0, .int (xs (i + (1 : Int32)).toInt.toNat), .int (xs (i + (2 : Int32)).toInt.toNat), .int (xs (i + (3 : Int32)).toInt.toNat), .ref 146]) (sc157_0Q (handsB_KCQ invC_KCQ)) (d := D_157) rfl rfl rfl rfl (by decide) hTY9 hI.1 hI.2.1 (by show hs.length + 5 ≤ _; omega) (hvF (by decide) rfl) (Or.inl ⟨rfl, ⟨0, 501, rfl, hI.2.2.1.1, by decide, by decide⟩, (Or.inr ⟨(xs (i + (1 : Int32)).toInt.toNat), [(xs (i + (2 : Int32)).toInt.toNat), (xs (i + (3 : Int32)).toInt.toNat)], rfl, rfl, rfl, (Or.inr ⟨(xs (i + (2 : Int32)).toInt.toNat), [(xs (i + (3 : Int32)).toInt.toNat)], rfl, rfl, rfl, (Or.inr ⟨(xs (i + (3 : Int32)).toInt.toNat), [], rfl, rfl, rfl, (Or.inl ⟨rfl, ⟨146, 55, rfl, hI.2.2.1.2.2.2.2.2.2.2.1, by decide, by decide⟩, trivial⟩)⟩)⟩)⟩)⟩)).imp (fun kd r h2 h => w_useX (by decide +kernel) h)) (show (5 : Nat) = fb 0x400000000000004185500009d034e0f % 16 by decide) (by show (5 : Nat) ≤ 6; decide) (fun q => absurd q (by decide)) (by omega) (by show 8 + (6 + 11) + 192 ≤ R.locals; omega) (by show (0 : Nat) ≤ 8; decide) (by show kc + 5 ≤ _; omega) (by show ks + 55 ≤ _; omega) (fun r9 h2 hpo hr9 => ?_) (fun x9 hs9 hx9 hpo => ?_)
  · obtain ⟨-, ⟨a6, rfl⟩, R2, hXX, hln⟩ := hpo
    have hln : h2.length ≤ hs.length + 5 := hln
    have hI2 := hI.hx hXX
    show WpN (gp g0 wp) CLS p l e R s m args below meth c Q D_0.2.2.1 kc0 ks0 846 [some (.ref 7000000000003), some (.ref 0), some (.ref 124), some (.ref 146), some (.ref 147), some (.int i), v6, v7, v8] (h2, kc + 5, ks + 55) [.int a6]
    refine g_storeI act (gx gp_0 (w := 0x6035010) rfl (by decide) rfl) (a := 6) (n := 848) rfl rfl (L2 := [some (.ref 7000000000003), some (.ref 0), some (.ref 124), some (.ref 146), some (.ref 147), some (.int i), some (.int a6), v7, v8]) rfl ?_
    refine g_loadA act (gx gp_0 (w := 0x2035103) rfl (by decide) rfl) (a := 2) (n := 849) rfl rfl rfl ?_
    refine g_loadA act (gx gp_0 (w := 0x35203) rfl (by decide) rfl) (a := 0) (n := 850) rfl rfl rfl ?_
    refine g_loadI act (gx gp_0 (w := 0x5035402) rfl (by decide) rfl) (a := 5) (n := 852) rfl rfl rfl ?_
    refine g_constI act (gx gp_0 (w := 0x40000000c00000009000000035501) rfl (by decide) rfl) (n := 853) (x := (1 : Int32)) (by decide) rfl ?_
    refine g_iadd act (gx gp_0 (w := 0x3560a) rfl (by decide) rfl) (n := 854) rfl ?_
    refine g_sald act (gx gp_0 (w := 0x3571a) rfl (by decide) rfl) (n := 855) rfl (by omega) (by omega) ?_
    refine g_loadA act (gx gp_0 (w := 0x35803) rfl (by decide) rfl) (a := 0) (n := 856) rfl rfl rfl ?_
    refine g_loadI act (gx gp_0 (w := 0x5035a02) rfl (by decide) rfl) (a := 5) (n := 858) rfl rfl rfl ?_
    refine g_constI act (gx gp_0 (w := 0x40000001400000011000000035b01) rfl (by decide) rfl) (n := 859) (x := (2 : Int32)) (by decide) rfl ?_
    refine g_iadd act (gx gp_0 (w := 0x35c0a) rfl (by decide) rfl) (n := 860) rfl ?_
    refine g_sald act (gx gp_0 (w := 0x35d1a) rfl (by decide) rfl) (n := 861) rfl (by omega) (by omega) ?_
    refine g_loadA act (gx gp_0 (w := 0x35e03) rfl (by decide) rfl) (a := 0) (n := 862) rfl rfl rfl ?_
    refine g_loadI act (gx gp_0 (w := 0x5036002) rfl (by decide) rfl) (a := 5) (n := 864) rfl rfl rfl ?_
    refine g_constI act (gx gp_0 (w := 0x40000001c00000019000000036101) rfl (by decide) rfl) (n := 865) (x := (3 : Int32)) (by decide) rfl ?_
    refine g_iadd act (gx gp_0 (w := 0x3620a) rfl (by decide) rfl) (n := 866) rfl ?_
    refine g_sald act (gx gp_0 (w := 0x3631a) rfl (by decide) rfl) (n := 867) rfl (by omega) (by omega) ?_
    obtain ⟨tl, wl, nl, n, ng, nr, hNW, hL1, hB, hM⟩ := hI2.num
    refine n_call tb_pres act hEnd (gx (P := G_call) gp_0 (w := 0xa000000000000c10440000f703660f) rfl (by decide) rfl) (d' := D_247) rfl (f' := 6) (lam' := 169) (mc := 0) (ms := 0) (as := [.ref 124, .int (xs (i + (1 : Int32)).toInt.toNat), .int (xs (i + (2 : Int32)).toInt.toNat), .int (xs (i + (3 : Int32)).toInt.toNat)]) (rest := []) (b_outageFactor hNW hB hM) (show (4 : Nat) = fb 0xa000000000000c10440000f703660f % 16 by decide) (by show (4 : Nat) ≤ 4; decide) (fun _ => ⟨_, _, rfl, _, shp_at hB.1.1, Or.inr (show fb 0xa000000000000c10440000f703660f >>> 68 = 10 by decide)⟩) (by omega) (by show 8 + (4 + 11) + 169 ≤ R.locals; omega) (by show (0 : Nat) ≤ 8; decide) (by show kc + 5 + 0 ≤ _; omega) (by show ks + 55 + 0 ≤ _; omega) (fun r9 h3 hpo hr9 => ?_) (fun x9 hs9 hx9 hpo => ?_)
    · obtain ⟨-, ⟨b7, rfl⟩, hM3, f3⟩ := hpo
      have hI3 := hI2.wm f3 hM3
      have ln3 : h3.length = h2.length := f3.1
      show WpN (gp g0 wp) CLS p l e R s m args below meth c Q D_0.2.2.1 kc0 ks0 870 [some (.ref 7000000000003), some (.ref 0), some (.ref 124), some (.ref 146), some (.ref 147), some (.int i), some (.int a6), v7, v8] (h3, kc + 5, ks + 55) [.long b7]
      refine g_storeL act (gx gp_0 (w := 0x703680b) rfl (by decide) rfl) (a := 7) (n := 872) rfl rfl (L2 := [some (.ref 7000000000003), some (.ref 0), some (.ref 124), some (.ref 146), some (.ref 147), some (.int i), some (.int a6), some (.long b7), none]) rfl ?_
      refine g_goto act (gx gp_0 (w := 0x72507) rfl (by decide) rfl) (n := 1829) rfl ?_
      exact K _ _ _ _ _ _ _ _ _ _ _ hI3 (pt_step hP (by decide) (by decide) (by rw [ln3]; omega))
    · exact absurd hpo.1 (by omega)
  · exact absurd hpo.1 (by omega)

theorem lb_875 (hTY : TYg g0) (act : Act SSX TBL (gp g0 wp) CLS bl xs D_0 p l s m args meth c) (hEnd : EndN SSX TBL (gp g0 wp) CLS D_0 p l e R s m args below meth c Q kc0 ks0 15 616 KC9 KS9 PE) (hf : 15 ≤ R.frames) (hl : 616 ≤ R.locals) (hc : 638008 ≤ R.cells + kc0) (hsl : 7182079 ≤ R.slots + ks0) (hI : LJ hs R0 tx L ec ep) (hP : PT kc ks hs.length t) (ht : t ≤ 511) (hi : i.toInt = 6 * (t : Int)) (hib : i.toInt + 6 ≤ (bl : Int)) (K : ∀ (h2 : List CE) (R2 : List Nat) (tx2 : Nat → Int) (L2 : Nat) (ec2 ep2 : Int) (kc2 ks2 : Nat) (v6 v7 v8 : Option Value), LJ h2 R2 tx2 L2 ec2 ep2 → PT kc2 ks2 h2.length (t + 1) → WpN (gp g0 wp) CLS p l e R s m args below meth c Q D_0.2.2.1 kc0 ks0 1829 [some (.ref 7000000000003), some (.ref 0), some (.ref 124), some (.ref 146), some (.ref 147), some (.int i), v6, v7, v8] (h2, kc2, ks2) []) : WpN (gp g0 wp) CLS p l e R s m args below meth c Q D_0.2.2.1 kc0 ks0 875 [some (.ref 7000000000003), some (.ref 0), some (.ref 124), some (.ref 146), some (.ref 147), some (.int i), v6, v7, v8] (hs, kc, ks) [] := by
  have hTY9 : TYg (gp g0 wp) := hTY
  obtain ⟨p1, p2, p3⟩ := id hP
  have j1 := i_k (i := i) (k := 1) (by omega) (by omega) (by decide) (by decide)
  have j2 := i_k (i := i) (k := 2) (by omega) (by omega) (by decide) (by decide)
  have j3 := i_k (i := i) (k := 3) (by omega) (by omega) (by decide) (by decide)
  have j4 := i_k (i := i) (k := 4) (by omega) (by omega) (by decide) (by decide)
  have j5 := i_k (i := i) (k := 5) (by omega) (by omega) (by decide) (by decide)
  rw [show (1 : Int32).toInt = 1 from rfl] at j1
  rw [show (2 : Int32).toInt = 2 from rfl] at j2
  rw [show (3 : Int32).toInt = 3 from rfl] at j3
  rw [show (4 : Int32).toInt = 4 from rfl] at j4
  rw [show (5 : Int32).toInt = 5 from rfl] at j5
  refine g_loadA act (gx gp_0 (w := 0x1036c03) rfl (by decide) rfl) (a := 1) (n := 876) rfl rfl rfl ?_
  refine g_loadA act (gx gp_0 (w := 0x36d03) rfl (by decide) rfl) (a := 0) (n := 877) rfl rfl rfl ?_
  refine g_loadI act (gx gp_0 (w := 0x5036f02) rfl (by decide) rfl) (a := 5) (n := 879) rfl rfl rfl ?_
  refine g_constI act (gx gp_0 (w := 0x40000000c00000009000000037001) rfl (by decide) rfl) (n := 880) (x := (1 : Int32)) (by decide) rfl ?_
  refine g_iadd act (gx gp_0 (w := 0x3710a) rfl (by decide) rfl) (n := 881) rfl ?_
  refine g_sald act (gx gp_0 (w := 0x3721a) rfl (by decide) rfl) (n := 882) rfl (by omega) (by omega) ?_
  refine g_loadA act (gx gp_0 (w := 0x37303) rfl (by decide) rfl) (a := 0) (n := 883) rfl rfl rfl ?_
  refine g_loadI act (gx gp_0 (w := 0x5037502) rfl (by decide) rfl) (a := 5) (n := 885) rfl rfl rfl ?_
  refine g_constI act (gx gp_0 (w := 0x40000001400000011000000037601) rfl (by decide) rfl) (n := 886) (x := (2 : Int32)) (by decide) rfl ?_
  refine g_iadd act (gx gp_0 (w := 0x3770a) rfl (by decide) rfl) (n := 887) rfl ?_
  refine g_sald act (gx gp_0 (w := 0x3781a) rfl (by decide) rfl) (n := 888) rfl (by omega) (by omega) ?_
  refine g_loadA act (gx gp_0 (w := 0x37903) rfl (by decide) rfl) (a := 0) (n := 889) rfl rfl rfl ?_
  refine g_loadI act (gx gp_0 (w := 0x5037b02) rfl (by decide) rfl) (a := 5) (n := 891) rfl rfl rfl ?_
  refine g_constI act (gx gp_0 (w := 0x40000001c00000019000000037c01) rfl (by decide) rfl) (n := 892) (x := (3 : Int32)) (by decide) rfl ?_
  refine g_iadd act (gx gp_0 (w := 0x37d0a) rfl (by decide) rfl) (n := 893) rfl ?_
  refine g_sald act (gx gp_0 (w := 0x37e1a) rfl (by decide) rfl) (n := 894) rfl (by omega) (by omega) ?_
  refine g_loadA act (gx gp_0 (w := 0x3037f03) rfl (by decide) rfl) (a := 3) (n := 895) rfl rfl rfl ?_
  refine n_call tb_pres act hEnd (gx (P := G_call) gp_0 (w := 0x40000000000000418550000ac03820f) rfl (by decide) rfl) (d' := D_172) rfl (f' := 11) (lam' := 246) (mc := 34) (ms := 374) (as := [.ref 0, .int (xs (i + (1 : Int32)).toInt.toNat), .int (xs (i + (2 : Int32)).toInt.toNat), .int (xs (i + (3 : Int32)).toInt.toNat), .ref 146]) (rest := []) ((sem_useQ (c := c172_0Q) (es := [(-2147483648, 2147483647, false), (-2147483648, 2147483647, false), (-2147483648, 2147483647, false)]) (vs := [(xs (i + (1 : Int32)).toInt.toNat), (xs (i + (2 : Int32)).toInt.toNat), (xs (i + (3 : Int32)).toInt.toNat)]) (ws := [.ref 0, .int (xs (i + (1 : Int32)).toInt.toNat), .int (xs (i + (2 : Int32)).toInt.toNat), .int (xs (i + (3 : Int32)).toInt.toNat), .ref 146]) (sc172_0Q (handsB_KCQ invC_KCQ)) (d := D_172) rfl rfl rfl rfl (by decide) hTY9 hI.1 hI.2.1 (by show hs.length + 34 ≤ _; omega) (hvF (by decide) rfl) (Or.inl ⟨rfl, ⟨0, 501, rfl, hI.2.2.1.1, by decide, by decide⟩, (Or.inr ⟨(xs (i + (1 : Int32)).toInt.toNat), [(xs (i + (2 : Int32)).toInt.toNat), (xs (i + (3 : Int32)).toInt.toNat)], rfl, rfl, rfl, (Or.inr ⟨(xs (i + (2 : Int32)).toInt.toNat), [(xs (i + (3 : Int32)).toInt.toNat)], rfl, rfl, rfl, (Or.inr ⟨(xs (i + (3 : Int32)).toInt.toNat), [], rfl, rfl, rfl, (Or.inl ⟨rfl, ⟨146, 55, rfl, hI.2.2.1.2.2.2.2.2.2.2.1, by decide, by decide⟩, trivial⟩)⟩)⟩)⟩)⟩)).imp (fun kd r h2 h => w_useX (by decide +kernel) h)) (show (5 : Nat) = fb 0x40000000000000418550000ac03820f % 16 by decide) (by show (5 : Nat) ≤ 6; decide) (fun q => absurd q (by decide)) (by omega) (by show 8 + (6 + 11) + 246 ≤ R.locals; omega) (by show (0 : Nat) ≤ 8; decide) (by show kc + 34 ≤ _; omega) (by show ks + 374 ≤ _; omega) (fun r9 h2 hpo hr9 => ?_) (fun x9 hs9 hx9 hpo => ?_)
  · obtain ⟨-, ⟨a6, rfl⟩, R2, hXX, hln⟩ := hpo
    have hln : h2.length ≤ hs.length + 34 := hln
    have hI2 := hI.hx hXX
    show WpN (gp g0 wp) CLS p l e R s m args below meth c Q D_0.2.2.1 kc0 ks0 898 [some (.ref 7000000000003), some (.ref 0), some (.ref 124), some (.ref 146), some (.ref 147), some (.int i), v6, v7, v8] (h2, kc + 34, ks + 374) [.int a6]
    refine g_storeI act (gx gp_0 (w := 0x6038410) rfl (by decide) rfl) (a := 6) (n := 900) rfl rfl (L2 := [some (.ref 7000000000003), some (.ref 0), some (.ref 124), some (.ref 146), some (.ref 147), some (.int i), some (.int a6), v7, v8]) rfl ?_
    refine g_loadA act (gx gp_0 (w := 0x2038503) rfl (by decide) rfl) (a := 2) (n := 901) rfl rfl rfl ?_
    refine g_loadA act (gx gp_0 (w := 0x38603) rfl (by decide) rfl) (a := 0) (n := 902) rfl rfl rfl ?_
    refine g_loadI act (gx gp_0 (w := 0x5038802) rfl (by decide) rfl) (a := 5) (n := 904) rfl rfl rfl ?_
    refine g_constI act (gx gp_0 (w := 0x40000000c00000009000000038901) rfl (by decide) rfl) (n := 905) (x := (1 : Int32)) (by decide) rfl ?_
    refine g_iadd act (gx gp_0 (w := 0x38a0a) rfl (by decide) rfl) (n := 906) rfl ?_
    refine g_sald act (gx gp_0 (w := 0x38b1a) rfl (by decide) rfl) (n := 907) rfl (by omega) (by omega) ?_
    refine g_loadA act (gx gp_0 (w := 0x38c03) rfl (by decide) rfl) (a := 0) (n := 908) rfl rfl rfl ?_
    refine g_loadI act (gx gp_0 (w := 0x5038e02) rfl (by decide) rfl) (a := 5) (n := 910) rfl rfl rfl ?_
    refine g_constI act (gx gp_0 (w := 0x40000001400000011000000038f01) rfl (by decide) rfl) (n := 911) (x := (2 : Int32)) (by decide) rfl ?_
    refine g_iadd act (gx gp_0 (w := 0x3900a) rfl (by decide) rfl) (n := 912) rfl ?_
    refine g_sald act (gx gp_0 (w := 0x3911a) rfl (by decide) rfl) (n := 913) rfl (by omega) (by omega) ?_
    refine g_loadA act (gx gp_0 (w := 0x39203) rfl (by decide) rfl) (a := 0) (n := 914) rfl rfl rfl ?_
    refine g_loadI act (gx gp_0 (w := 0x5039402) rfl (by decide) rfl) (a := 5) (n := 916) rfl rfl rfl ?_
    refine g_constI act (gx gp_0 (w := 0x40000001c00000019000000039501) rfl (by decide) rfl) (n := 917) (x := (3 : Int32)) (by decide) rfl ?_
    refine g_iadd act (gx gp_0 (w := 0x3960a) rfl (by decide) rfl) (n := 918) rfl ?_
    refine g_sald act (gx gp_0 (w := 0x3971a) rfl (by decide) rfl) (n := 919) rfl (by omega) (by omega) ?_
    obtain ⟨tl, wl, nl, n, ng, nr, hNW, hL1, hB, hM⟩ := hI2.num
    refine n_call tb_pres act hEnd (gx (P := G_call) gp_0 (w := 0xa000000000000c244400011b039a0f) rfl (by decide) rfl) (d' := D_283) rfl (f' := 6) (lam' := 169) (mc := 0) (ms := 0) (as := [.ref 124, .int (xs (i + (1 : Int32)).toInt.toNat), .int (xs (i + (2 : Int32)).toInt.toNat), .int (xs (i + (3 : Int32)).toInt.toNat)]) (rest := []) (b_transferLimit hNW hB hM) (show (4 : Nat) = fb 0xa000000000000c244400011b039a0f % 16 by decide) (by show (4 : Nat) ≤ 9; decide) (fun _ => ⟨_, _, rfl, _, shp_at hB.1.1, Or.inr (show fb 0xa000000000000c244400011b039a0f >>> 68 = 10 by decide)⟩) (by omega) (by show 8 + (9 + 11) + 169 ≤ R.locals; omega) (by show (0 : Nat) ≤ 8; decide) (by show kc + 34 + 0 ≤ _; omega) (by show ks + 374 + 0 ≤ _; omega) (fun r9 h3 hpo hr9 => ?_) (fun x9 hs9 hx9 hpo => ?_)
    · obtain ⟨-, ⟨b7, rfl⟩, hM3, f3⟩ := hpo
      have hI3 := hI2.wm f3 hM3
      have ln3 : h3.length = h2.length := f3.1
      show WpN (gp g0 wp) CLS p l e R s m args below meth c Q D_0.2.2.1 kc0 ks0 922 [some (.ref 7000000000003), some (.ref 0), some (.ref 124), some (.ref 146), some (.ref 147), some (.int i), some (.int a6), v7, v8] (h3, kc + 34, ks + 374) [.long b7]
      refine g_storeL act (gx gp_0 (w := 0x7039c0b) rfl (by decide) rfl) (a := 7) (n := 924) rfl rfl (L2 := [some (.ref 7000000000003), some (.ref 0), some (.ref 124), some (.ref 146), some (.ref 147), some (.int i), some (.int a6), some (.long b7), none]) rfl ?_
      refine g_goto act (gx gp_0 (w := 0x72507) rfl (by decide) rfl) (n := 1829) rfl ?_
      exact K _ _ _ _ _ _ _ _ _ _ _ hI3 (pt_step hP (by decide) (by decide) (by rw [ln3]; omega))
    · exact absurd hpo.1 (by omega)
  · exact absurd hpo.1 (by omega)

theorem lb_927 (hTY : TYg g0) (act : Act SSX TBL (gp g0 wp) CLS bl xs D_0 p l s m args meth c) (hEnd : EndN SSX TBL (gp g0 wp) CLS D_0 p l e R s m args below meth c Q kc0 ks0 15 616 KC9 KS9 PE) (hf : 15 ≤ R.frames) (hl : 616 ≤ R.locals) (hc : 638008 ≤ R.cells + kc0) (hsl : 7182079 ≤ R.slots + ks0) (hI : LJ hs R0 tx L ec ep) (hP : PT kc ks hs.length t) (ht : t ≤ 511) (hi : i.toInt = 6 * (t : Int)) (hib : i.toInt + 6 ≤ (bl : Int)) (K : ∀ (h2 : List CE) (R2 : List Nat) (tx2 : Nat → Int) (L2 : Nat) (ec2 ep2 : Int) (kc2 ks2 : Nat) (v6 v7 v8 : Option Value), LJ h2 R2 tx2 L2 ec2 ep2 → PT kc2 ks2 h2.length (t + 1) → WpN (gp g0 wp) CLS p l e R s m args below meth c Q D_0.2.2.1 kc0 ks0 1829 [some (.ref 7000000000003), some (.ref 0), some (.ref 124), some (.ref 146), some (.ref 147), some (.int i), v6, v7, v8] (h2, kc2, ks2) []) : WpN (gp g0 wp) CLS p l e R s m args below meth c Q D_0.2.2.1 kc0 ks0 927 [some (.ref 7000000000003), some (.ref 0), some (.ref 124), some (.ref 146), some (.ref 147), some (.int i), v6, v7, v8] (hs, kc, ks) [] := by
  have hTY9 : TYg (gp g0 wp) := hTY
  obtain ⟨p1, p2, p3⟩ := id hP
  have j1 := i_k (i := i) (k := 1) (by omega) (by omega) (by decide) (by decide)
  have j2 := i_k (i := i) (k := 2) (by omega) (by omega) (by decide) (by decide)
  have j3 := i_k (i := i) (k := 3) (by omega) (by omega) (by decide) (by decide)
  have j4 := i_k (i := i) (k := 4) (by omega) (by omega) (by decide) (by decide)
  have j5 := i_k (i := i) (k := 5) (by omega) (by omega) (by decide) (by decide)
  rw [show (1 : Int32).toInt = 1 from rfl] at j1
  rw [show (2 : Int32).toInt = 2 from rfl] at j2
  rw [show (3 : Int32).toInt = 3 from rfl] at j3
  rw [show (4 : Int32).toInt = 4 from rfl] at j4
  rw [show (5 : Int32).toInt = 5 from rfl] at j5
  refine g_loadA act (gx gp_0 (w := 0x103a003) rfl (by decide) rfl) (a := 1) (n := 928) rfl rfl rfl ?_
  refine g_loadA act (gx gp_0 (w := 0x3a103) rfl (by decide) rfl) (a := 0) (n := 929) rfl rfl rfl ?_
  refine g_loadI act (gx gp_0 (w := 0x503a302) rfl (by decide) rfl) (a := 5) (n := 931) rfl rfl rfl ?_
  refine g_constI act (gx gp_0 (w := 0x40000000c0000000900000003a401) rfl (by decide) rfl) (n := 932) (x := (1 : Int32)) (by decide) rfl ?_
  refine g_iadd act (gx gp_0 (w := 0x3a50a) rfl (by decide) rfl) (n := 933) rfl ?_
  refine g_sald act (gx gp_0 (w := 0x3a61a) rfl (by decide) rfl) (n := 934) rfl (by omega) (by omega) ?_
  refine g_loadA act (gx gp_0 (w := 0x303a703) rfl (by decide) rfl) (a := 3) (n := 935) rfl rfl rfl ?_
  refine n_call tb_pres act hEnd (gx (P := G_call) gp_0 (w := 0x400000000000004103300009603aa0f) rfl (by decide) rfl) (d' := D_150) rfl (f' := 11) (lam' := 211) (mc := 13) (ms := 143) (as := [.ref 0, .int (xs (i + (1 : Int32)).toInt.toNat), .ref 146]) (rest := []) ((sem_useQ (c := c150_0Q) (es := [(-2147483648, 2147483647, false)]) (vs := [(xs (i + (1 : Int32)).toInt.toNat)]) (ws := [.ref 0, .int (xs (i + (1 : Int32)).toInt.toNat), .ref 146]) (sc150_0Q (handsB_KCQ invC_KCQ)) (d := D_150) rfl rfl rfl rfl (by decide) hTY9 hI.1 hI.2.1 (by show hs.length + 13 ≤ _; omega) (hvF (by decide) rfl) (Or.inl ⟨rfl, ⟨0, 501, rfl, hI.2.2.1.1, by decide, by decide⟩, (Or.inr ⟨(xs (i + (1 : Int32)).toInt.toNat), [], rfl, rfl, rfl, (Or.inl ⟨rfl, ⟨146, 55, rfl, hI.2.2.1.2.2.2.2.2.2.2.1, by decide, by decide⟩, trivial⟩)⟩)⟩)).imp (fun kd r h2 h => w_useX (by decide +kernel) h)) (show (3 : Nat) = fb 0x400000000000004103300009603aa0f % 16 by decide) (by show (3 : Nat) ≤ 4; decide) (fun q => absurd q (by decide)) (by omega) (by show 8 + (4 + 11) + 211 ≤ R.locals; omega) (by show (0 : Nat) ≤ 8; decide) (by show kc + 13 ≤ _; omega) (by show ks + 143 ≤ _; omega) (fun r9 h2 hpo hr9 => ?_) (fun x9 hs9 hx9 hpo => ?_)
  · obtain ⟨-, ⟨a6, rfl⟩, R2, hXX, hln⟩ := hpo
    have hln : h2.length ≤ hs.length + 13 := hln
    have hI2 := hI.hx hXX
    show WpN (gp g0 wp) CLS p l e R s m args below meth c Q D_0.2.2.1 kc0 ks0 938 [some (.ref 7000000000003), some (.ref 0), some (.ref 124), some (.ref 146), some (.ref 147), some (.int i), v6, v7, v8] (h2, kc + 13, ks + 143) [.int a6]
    refine g_storeI act (gx gp_0 (w := 0x603ac10) rfl (by decide) rfl) (a := 6) (n := 940) rfl rfl (L2 := [some (.ref 7000000000003), some (.ref 0), some (.ref 124), some (.ref 146), some (.ref 147), some (.int i), some (.int a6), v7, v8]) rfl ?_
    refine g_loadA act (gx gp_0 (w := 0x203ad03) rfl (by decide) rfl) (a := 2) (n := 941) rfl rfl rfl ?_
    refine g_loadA act (gx gp_0 (w := 0x3ae03) rfl (by decide) rfl) (a := 0) (n := 942) rfl rfl rfl ?_
    refine g_loadI act (gx gp_0 (w := 0x503b002) rfl (by decide) rfl) (a := 5) (n := 944) rfl rfl rfl ?_
    refine g_constI act (gx gp_0 (w := 0x40000000c0000000900000003b101) rfl (by decide) rfl) (n := 945) (x := (1 : Int32)) (by decide) rfl ?_
    refine g_iadd act (gx gp_0 (w := 0x3b20a) rfl (by decide) rfl) (n := 946) rfl ?_
    refine g_sald act (gx gp_0 (w := 0x3b31a) rfl (by decide) rfl) (n := 947) rfl (by omega) (by omega) ?_
    obtain ⟨tl, wl, nl, n, ng, nr, hNW, hL1, hB, hM⟩ := hI2.num
    refine n_call tb_pres act hEnd (gx (P := G_call) gp_0 (w := 0xa000000000000c08220000dc03b60f) rfl (by decide) rfl) (d' := D_220) rfl (f' := 9) (lam' := 228) (mc := 0) (ms := 0) (as := [.ref 124, .int (xs (i + (1 : Int32)).toInt.toNat)]) (rest := []) (b_isFeasible hNW hB hM) (show (2 : Nat) = fb 0xa000000000000c08220000dc03b60f % 16 by decide) (by show (2 : Nat) ≤ 2; decide) (fun _ => ⟨_, _, rfl, _, shp_at hB.1.1, Or.inr (show fb 0xa000000000000c08220000dc03b60f >>> 68 = 10 by decide)⟩) (by omega) (by show 8 + (2 + 11) + 228 ≤ R.locals; omega) (by show (0 : Nat) ≤ 8; decide) (by show kc + 13 + 0 ≤ _; omega) (by show ks + 143 + 0 ≤ _; omega) (fun r9 h3 hpo hr9 => ?_) (fun x9 hs9 hx9 hpo => ?_)
    · obtain ⟨-, hz, hM3, f3⟩ := hpo
      obtain ⟨b7, rfl⟩ : ∃ x : Int32, r9 = some (.int x) := hz.elim (fun q => ⟨0, q⟩) (fun q => ⟨1, q⟩)
      have hI3 := hI2.wm f3 hM3
      have ln3 : h3.length = h2.length := f3.1
      show WpN (gp g0 wp) CLS p l e R s m args below meth c Q D_0.2.2.1 kc0 ks0 950 [some (.ref 7000000000003), some (.ref 0), some (.ref 124), some (.ref 146), some (.ref 147), some (.int i), some (.int a6), v7, v8] (h3, kc + 13, ks + 143) [.int b7]
      refine g_storeI act (gx gp_0 (w := 0x703b810) rfl (by decide) rfl) (a := 7) (n := 952) rfl rfl (L2 := [some (.ref 7000000000003), some (.ref 0), some (.ref 124), some (.ref 146), some (.ref 147), some (.int i), some (.int a6), some (.int b7), v8]) rfl ?_
      refine g_goto act (gx gp_0 (w := 0x72507) rfl (by decide) rfl) (n := 1829) rfl ?_
      exact K _ _ _ _ _ _ _ _ _ _ _ hI3 (pt_step hP (by decide) (by decide) (by rw [ln3]; omega))
    · exact absurd hpo.1 (by omega)
  · exact absurd hpo.1 (by omega)

theorem lb_955 (hTY : TYg g0) (act : Act SSX TBL (gp g0 wp) CLS bl xs D_0 p l s m args meth c) (hEnd : EndN SSX TBL (gp g0 wp) CLS D_0 p l e R s m args below meth c Q kc0 ks0 15 616 KC9 KS9 PE) (hf : 15 ≤ R.frames) (hl : 616 ≤ R.locals) (hc : 638008 ≤ R.cells + kc0) (hsl : 7182079 ≤ R.slots + ks0) (hI : LJ hs R0 tx L ec ep) (hP : PT kc ks hs.length t) (ht : t ≤ 511) (hi : i.toInt = 6 * (t : Int)) (hib : i.toInt + 6 ≤ (bl : Int)) (K : ∀ (h2 : List CE) (R2 : List Nat) (tx2 : Nat → Int) (L2 : Nat) (ec2 ep2 : Int) (kc2 ks2 : Nat) (v6 v7 v8 : Option Value), LJ h2 R2 tx2 L2 ec2 ep2 → PT kc2 ks2 h2.length (t + 1) → WpN (gp g0 wp) CLS p l e R s m args below meth c Q D_0.2.2.1 kc0 ks0 1829 [some (.ref 7000000000003), some (.ref 0), some (.ref 124), some (.ref 146), some (.ref 147), some (.int i), v6, v7, v8] (h2, kc2, ks2) []) : WpN (gp g0 wp) CLS p l e R s m args below meth c Q D_0.2.2.1 kc0 ks0 955 [some (.ref 7000000000003), some (.ref 0), some (.ref 124), some (.ref 146), some (.ref 147), some (.int i), v6, v7, v8] (hs, kc, ks) [] := by
  have hTY9 : TYg (gp g0 wp) := hTY
  obtain ⟨p1, p2, p3⟩ := id hP
  have j1 := i_k (i := i) (k := 1) (by omega) (by omega) (by decide) (by decide)
  have j2 := i_k (i := i) (k := 2) (by omega) (by omega) (by decide) (by decide)
  have j3 := i_k (i := i) (k := 3) (by omega) (by omega) (by decide) (by decide)
  have j4 := i_k (i := i) (k := 4) (by omega) (by omega) (by decide) (by decide)
  have j5 := i_k (i := i) (k := 5) (by omega) (by omega) (by decide) (by decide)
  rw [show (1 : Int32).toInt = 1 from rfl] at j1
  rw [show (2 : Int32).toInt = 2 from rfl] at j2
  rw [show (3 : Int32).toInt = 3 from rfl] at j3
  rw [show (4 : Int32).toInt = 4 from rfl] at j4
  rw [show (5 : Int32).toInt = 5 from rfl] at j5
  refine g_loadA act (gx gp_0 (w := 0x103bc03) rfl (by decide) rfl) (a := 1) (n := 956) rfl rfl rfl ?_
  refine g_loadA act (gx gp_0 (w := 0x3bd03) rfl (by decide) rfl) (a := 0) (n := 957) rfl rfl rfl ?_
  refine g_loadI act (gx gp_0 (w := 0x503bf02) rfl (by decide) rfl) (a := 5) (n := 959) rfl rfl rfl ?_
  refine g_constI act (gx gp_0 (w := 0x40000000c0000000900000003c001) rfl (by decide) rfl) (n := 960) (x := (1 : Int32)) (by decide) rfl ?_
  refine g_iadd act (gx gp_0 (w := 0x3c10a) rfl (by decide) rfl) (n := 961) rfl ?_
  refine g_sald act (gx gp_0 (w := 0x3c21a) rfl (by decide) rfl) (n := 962) rfl (by omega) (by omega) ?_
  refine g_loadA act (gx gp_0 (w := 0x3c303) rfl (by decide) rfl) (a := 0) (n := 963) rfl rfl rfl ?_
  refine g_loadI act (gx gp_0 (w := 0x503c502) rfl (by decide) rfl) (a := 5) (n := 965) rfl rfl rfl ?_
  refine g_constI act (gx gp_0 (w := 0x4000000140000001100000003c601) rfl (by decide) rfl) (n := 966) (x := (2 : Int32)) (by decide) rfl ?_
  refine g_iadd act (gx gp_0 (w := 0x3c70a) rfl (by decide) rfl) (n := 967) rfl ?_
  refine g_sald act (gx gp_0 (w := 0x3c81a) rfl (by decide) rfl) (n := 968) rfl (by omega) (by omega) ?_
  refine g_loadA act (gx gp_0 (w := 0x303c903) rfl (by decide) rfl) (a := 3) (n := 969) rfl rfl rfl ?_
  refine n_call tb_pres act hEnd (gx (P := G_call) gp_0 (w := 0x400000000000004144400009703cc0f) rfl (by decide) rfl) (d' := D_151) rfl (f' := 11) (lam' := 234) (mc := 15) (ms := 165) (as := [.ref 0, .int (xs (i + (1 : Int32)).toInt.toNat), .int (xs (i + (2 : Int32)).toInt.toNat), .ref 146]) (rest := []) ((sem_useQ (c := c151_0Q) (es := [(-2147483648, 2147483647, false), (-2147483648, 2147483647, false)]) (vs := [(xs (i + (1 : Int32)).toInt.toNat), (xs (i + (2 : Int32)).toInt.toNat)]) (ws := [.ref 0, .int (xs (i + (1 : Int32)).toInt.toNat), .int (xs (i + (2 : Int32)).toInt.toNat), .ref 146]) (sc151_0Q (handsB_KCQ invC_KCQ)) (d := D_151) rfl rfl rfl rfl (by decide) hTY9 hI.1 hI.2.1 (by show hs.length + 15 ≤ _; omega) (hvF (by decide) rfl) (Or.inl ⟨rfl, ⟨0, 501, rfl, hI.2.2.1.1, by decide, by decide⟩, (Or.inr ⟨(xs (i + (1 : Int32)).toInt.toNat), [(xs (i + (2 : Int32)).toInt.toNat)], rfl, rfl, rfl, (Or.inr ⟨(xs (i + (2 : Int32)).toInt.toNat), [], rfl, rfl, rfl, (Or.inl ⟨rfl, ⟨146, 55, rfl, hI.2.2.1.2.2.2.2.2.2.2.1, by decide, by decide⟩, trivial⟩)⟩)⟩)⟩)).imp (fun kd r h2 h => w_useX (by decide +kernel) h)) (show (4 : Nat) = fb 0x400000000000004144400009703cc0f % 16 by decide) (by show (4 : Nat) ≤ 5; decide) (fun q => absurd q (by decide)) (by omega) (by show 8 + (5 + 11) + 234 ≤ R.locals; omega) (by show (0 : Nat) ≤ 8; decide) (by show kc + 15 ≤ _; omega) (by show ks + 165 ≤ _; omega) (fun r9 h2 hpo hr9 => ?_) (fun x9 hs9 hx9 hpo => ?_)
  · obtain ⟨-, ⟨a6, rfl⟩, R2, hXX, hln⟩ := hpo
    have hln : h2.length ≤ hs.length + 15 := hln
    have hI2 := hI.hx hXX
    show WpN (gp g0 wp) CLS p l e R s m args below meth c Q D_0.2.2.1 kc0 ks0 972 [some (.ref 7000000000003), some (.ref 0), some (.ref 124), some (.ref 146), some (.ref 147), some (.int i), v6, v7, v8] (h2, kc + 15, ks + 165) [.int a6]
    refine g_storeI act (gx gp_0 (w := 0x603ce10) rfl (by decide) rfl) (a := 6) (n := 974) rfl rfl (L2 := [some (.ref 7000000000003), some (.ref 0), some (.ref 124), some (.ref 146), some (.ref 147), some (.int i), some (.int a6), v7, v8]) rfl ?_
    refine g_loadA act (gx gp_0 (w := 0x203cf03) rfl (by decide) rfl) (a := 2) (n := 975) rfl rfl rfl ?_
    refine g_loadA act (gx gp_0 (w := 0x3d003) rfl (by decide) rfl) (a := 0) (n := 976) rfl rfl rfl ?_
    refine g_loadI act (gx gp_0 (w := 0x503d202) rfl (by decide) rfl) (a := 5) (n := 978) rfl rfl rfl ?_
    refine g_constI act (gx gp_0 (w := 0x40000000c0000000900000003d301) rfl (by decide) rfl) (n := 979) (x := (1 : Int32)) (by decide) rfl ?_
    refine g_iadd act (gx gp_0 (w := 0x3d40a) rfl (by decide) rfl) (n := 980) rfl ?_
    refine g_sald act (gx gp_0 (w := 0x3d51a) rfl (by decide) rfl) (n := 981) rfl (by omega) (by omega) ?_
    refine g_loadA act (gx gp_0 (w := 0x3d603) rfl (by decide) rfl) (a := 0) (n := 982) rfl rfl rfl ?_
    refine g_loadI act (gx gp_0 (w := 0x503d802) rfl (by decide) rfl) (a := 5) (n := 984) rfl rfl rfl ?_
    refine g_constI act (gx gp_0 (w := 0x4000000140000001100000003d901) rfl (by decide) rfl) (n := 985) (x := (2 : Int32)) (by decide) rfl ?_
    refine g_iadd act (gx gp_0 (w := 0x3da0a) rfl (by decide) rfl) (n := 986) rfl ?_
    refine g_sald act (gx gp_0 (w := 0x3db1a) rfl (by decide) rfl) (n := 987) rfl (by omega) (by omega) ?_
    obtain ⟨tl, wl, nl, n, ng, nr, hNW, hL1, hB, hM⟩ := hI2.num
    refine n_call tb_pres act hEnd (gx (P := G_call) gp_0 (w := 0xa000000000000c0c330000eb03de0f) rfl (by decide) rfl) (d' := D_235) rfl (f' := 10) (lam' := 251) (mc := 0) (ms := 0) (as := [.ref 124, .int (xs (i + (1 : Int32)).toInt.toNat), .int (xs (i + (2 : Int32)).toInt.toNat)]) (rest := []) (b_leastCost hNW hB hM) (show (3 : Nat) = fb 0xa000000000000c0c330000eb03de0f % 16 by decide) (by show (3 : Nat) ≤ 3; decide) (fun _ => ⟨_, _, rfl, _, shp_at hB.1.1, Or.inr (show fb 0xa000000000000c0c330000eb03de0f >>> 68 = 10 by decide)⟩) (by omega) (by show 8 + (3 + 11) + 251 ≤ R.locals; omega) (by show (0 : Nat) ≤ 8; decide) (by show kc + 15 + 0 ≤ _; omega) (by show ks + 165 + 0 ≤ _; omega) (fun r9 h3 hpo hr9 => ?_) (fun x9 hs9 hx9 hpo => ?_)
    · obtain ⟨-, ⟨b7, rfl⟩, hM3, f3⟩ := hpo
      have hI3 := hI2.wm f3 hM3
      have ln3 : h3.length = h2.length := f3.1
      show WpN (gp g0 wp) CLS p l e R s m args below meth c Q D_0.2.2.1 kc0 ks0 990 [some (.ref 7000000000003), some (.ref 0), some (.ref 124), some (.ref 146), some (.ref 147), some (.int i), some (.int a6), v7, v8] (h3, kc + 15, ks + 165) [.long b7]
      refine g_storeL act (gx gp_0 (w := 0x703e00b) rfl (by decide) rfl) (a := 7) (n := 992) rfl rfl (L2 := [some (.ref 7000000000003), some (.ref 0), some (.ref 124), some (.ref 146), some (.ref 147), some (.int i), some (.int a6), some (.long b7), none]) rfl ?_
      refine g_goto act (gx gp_0 (w := 0x72507) rfl (by decide) rfl) (n := 1829) rfl ?_
      exact K _ _ _ _ _ _ _ _ _ _ _ hI3 (pt_step hP (by decide) (by decide) (by rw [ln3]; omega))
    · exact absurd hpo.1 (by omega)
  · exact absurd hpo.1 (by omega)

theorem lb_995 (hTY : TYg g0) (act : Act SSX TBL (gp g0 wp) CLS bl xs D_0 p l s m args meth c) (hEnd : EndN SSX TBL (gp g0 wp) CLS D_0 p l e R s m args below meth c Q kc0 ks0 15 616 KC9 KS9 PE) (hf : 15 ≤ R.frames) (hl : 616 ≤ R.locals) (hc : 638008 ≤ R.cells + kc0) (hsl : 7182079 ≤ R.slots + ks0) (hI : LJ hs R0 tx L ec ep) (hP : PT kc ks hs.length t) (ht : t ≤ 511) (hi : i.toInt = 6 * (t : Int)) (hib : i.toInt + 6 ≤ (bl : Int)) (K : ∀ (h2 : List CE) (R2 : List Nat) (tx2 : Nat → Int) (L2 : Nat) (ec2 ep2 : Int) (kc2 ks2 : Nat) (v6 v7 v8 : Option Value), LJ h2 R2 tx2 L2 ec2 ep2 → PT kc2 ks2 h2.length (t + 1) → WpN (gp g0 wp) CLS p l e R s m args below meth c Q D_0.2.2.1 kc0 ks0 1829 [some (.ref 7000000000003), some (.ref 0), some (.ref 124), some (.ref 146), some (.ref 147), some (.int i), v6, v7, v8] (h2, kc2, ks2) []) : WpN (gp g0 wp) CLS p l e R s m args below meth c Q D_0.2.2.1 kc0 ks0 995 [some (.ref 7000000000003), some (.ref 0), some (.ref 124), some (.ref 146), some (.ref 147), some (.int i), v6, v7, v8] (hs, kc, ks) [] := by
  have hTY9 : TYg (gp g0 wp) := hTY
  obtain ⟨p1, p2, p3⟩ := id hP
  have j1 := i_k (i := i) (k := 1) (by omega) (by omega) (by decide) (by decide)
  have j2 := i_k (i := i) (k := 2) (by omega) (by omega) (by decide) (by decide)
  have j3 := i_k (i := i) (k := 3) (by omega) (by omega) (by decide) (by decide)
  have j4 := i_k (i := i) (k := 4) (by omega) (by omega) (by decide) (by decide)
  have j5 := i_k (i := i) (k := 5) (by omega) (by omega) (by decide) (by decide)
  rw [show (1 : Int32).toInt = 1 from rfl] at j1
  rw [show (2 : Int32).toInt = 2 from rfl] at j2
  rw [show (3 : Int32).toInt = 3 from rfl] at j3
  rw [show (4 : Int32).toInt = 4 from rfl] at j4
  rw [show (5 : Int32).toInt = 5 from rfl] at j5
  refine g_loadA act (gx gp_0 (w := 0x103e403) rfl (by decide) rfl) (a := 1) (n := 996) rfl rfl rfl ?_
  refine g_loadA act (gx gp_0 (w := 0x3e503) rfl (by decide) rfl) (a := 0) (n := 997) rfl rfl rfl ?_
  refine g_loadI act (gx gp_0 (w := 0x503e702) rfl (by decide) rfl) (a := 5) (n := 999) rfl rfl rfl ?_
  refine g_constI act (gx gp_0 (w := 0x40000000c0000000900000003e801) rfl (by decide) rfl) (n := 1000) (x := (1 : Int32)) (by decide) rfl ?_
  refine g_iadd act (gx gp_0 (w := 0x3e90a) rfl (by decide) rfl) (n := 1001) rfl ?_
  refine g_sald act (gx gp_0 (w := 0x3ea1a) rfl (by decide) rfl) (n := 1002) rfl (by omega) (by omega) ?_
  refine g_loadA act (gx gp_0 (w := 0x3eb03) rfl (by decide) rfl) (a := 0) (n := 1003) rfl rfl rfl ?_
  refine g_loadI act (gx gp_0 (w := 0x503ed02) rfl (by decide) rfl) (a := 5) (n := 1005) rfl rfl rfl ?_
  refine g_constI act (gx gp_0 (w := 0x4000000140000001100000003ee01) rfl (by decide) rfl) (n := 1006) (x := (2 : Int32)) (by decide) rfl ?_
  refine g_iadd act (gx gp_0 (w := 0x3ef0a) rfl (by decide) rfl) (n := 1007) rfl ?_
  refine g_sald act (gx gp_0 (w := 0x3f01a) rfl (by decide) rfl) (n := 1008) rfl (by omega) (by omega) ?_
  refine g_loadA act (gx gp_0 (w := 0x303f103) rfl (by decide) rfl) (a := 3) (n := 1009) rfl rfl rfl ?_
  refine n_call tb_pres act hEnd (gx (P := G_call) gp_0 (w := 0x400000000000004144400008d03f40f) rfl (by decide) rfl) (d' := D_141) rfl (f' := 11) (lam' := 235) (mc := 17) (ms := 187) (as := [.ref 0, .int (xs (i + (1 : Int32)).toInt.toNat), .int (xs (i + (2 : Int32)).toInt.toNat), .ref 146]) (rest := []) ((sem_useQ (c := c141_0Q) (es := [(-2147483648, 2147483647, false), (-2147483648, 2147483647, false)]) (vs := [(xs (i + (1 : Int32)).toInt.toNat), (xs (i + (2 : Int32)).toInt.toNat)]) (ws := [.ref 0, .int (xs (i + (1 : Int32)).toInt.toNat), .int (xs (i + (2 : Int32)).toInt.toNat), .ref 146]) (sc141_0Q (handsB_KCQ invC_KCQ)) (d := D_141) rfl rfl rfl rfl (by decide) hTY9 hI.1 hI.2.1 (by show hs.length + 17 ≤ _; omega) (hvF (by decide) rfl) (Or.inl ⟨rfl, ⟨0, 501, rfl, hI.2.2.1.1, by decide, by decide⟩, (Or.inr ⟨(xs (i + (1 : Int32)).toInt.toNat), [(xs (i + (2 : Int32)).toInt.toNat)], rfl, rfl, rfl, (Or.inr ⟨(xs (i + (2 : Int32)).toInt.toNat), [], rfl, rfl, rfl, (Or.inl ⟨rfl, ⟨146, 55, rfl, hI.2.2.1.2.2.2.2.2.2.2.1, by decide, by decide⟩, trivial⟩)⟩)⟩)⟩)).imp (fun kd r h2 h => w_useX (by decide +kernel) h)) (show (4 : Nat) = fb 0x400000000000004144400008d03f40f % 16 by decide) (by show (4 : Nat) ≤ 5; decide) (fun q => absurd q (by decide)) (by omega) (by show 8 + (5 + 11) + 235 ≤ R.locals; omega) (by show (0 : Nat) ≤ 8; decide) (by show kc + 17 ≤ _; omega) (by show ks + 187 ≤ _; omega) (fun r9 h2 hpo hr9 => ?_) (fun x9 hs9 hx9 hpo => ?_)
  · obtain ⟨-, ⟨a6, rfl⟩, R2, hXX, hln⟩ := hpo
    have hln : h2.length ≤ hs.length + 17 := hln
    have hI2 := hI.hx hXX
    show WpN (gp g0 wp) CLS p l e R s m args below meth c Q D_0.2.2.1 kc0 ks0 1012 [some (.ref 7000000000003), some (.ref 0), some (.ref 124), some (.ref 146), some (.ref 147), some (.int i), v6, v7, v8] (h2, kc + 17, ks + 187) [.int a6]
    refine g_storeI act (gx gp_0 (w := 0x603f610) rfl (by decide) rfl) (a := 6) (n := 1014) rfl rfl (L2 := [some (.ref 7000000000003), some (.ref 0), some (.ref 124), some (.ref 146), some (.ref 147), some (.int i), some (.int a6), v7, v8]) rfl ?_
    refine g_loadA act (gx gp_0 (w := 0x203f703) rfl (by decide) rfl) (a := 2) (n := 1015) rfl rfl rfl ?_
    refine g_loadA act (gx gp_0 (w := 0x3f803) rfl (by decide) rfl) (a := 0) (n := 1016) rfl rfl rfl ?_
    refine g_loadI act (gx gp_0 (w := 0x503fa02) rfl (by decide) rfl) (a := 5) (n := 1018) rfl rfl rfl ?_
    refine g_constI act (gx gp_0 (w := 0x40000000c0000000900000003fb01) rfl (by decide) rfl) (n := 1019) (x := (1 : Int32)) (by decide) rfl ?_
    refine g_iadd act (gx gp_0 (w := 0x3fc0a) rfl (by decide) rfl) (n := 1020) rfl ?_
    refine g_sald act (gx gp_0 (w := 0x3fd1a) rfl (by decide) rfl) (n := 1021) rfl (by omega) (by omega) ?_
    refine g_loadA act (gx gp_0 (w := 0x3fe03) rfl (by decide) rfl) (a := 0) (n := 1022) rfl rfl rfl ?_
    refine g_loadI act (gx gp_0 (w := 0x5040002) rfl (by decide) rfl) (a := 5) (n := 1024) rfl rfl rfl ?_
    refine g_constI act (gx gp_0 (w := 0x40000001400000011000000040101) rfl (by decide) rfl) (n := 1025) (x := (2 : Int32)) (by decide) rfl ?_
    refine g_iadd act (gx gp_0 (w := 0x4020a) rfl (by decide) rfl) (n := 1026) rfl ?_
    refine g_sald act (gx gp_0 (w := 0x4031a) rfl (by decide) rfl) (n := 1027) rfl (by omega) (by omega) ?_
    obtain ⟨tl, wl, nl, n, ng, nr, hNW, hL1, hB, hM⟩ := hI2.num
    refine n_call tb_pres act hEnd (gx (P := G_call) gp_0 (w := 0xa000000000000c10330000c004060f) rfl (by decide) rfl) (d' := D_192) rfl (f' := 10) (lam' := 251) (mc := 0) (ms := 0) (as := [.ref 124, .int (xs (i + (1 : Int32)).toInt.toNat), .int (xs (i + (2 : Int32)).toInt.toNat)]) (rest := []) (b_congestionCost hNW hB hM) (show (3 : Nat) = fb 0xa000000000000c10330000c004060f % 16 by decide) (by show (3 : Nat) ≤ 4; decide) (fun _ => ⟨_, _, rfl, _, shp_at hB.1.1, Or.inr (show fb 0xa000000000000c10330000c004060f >>> 68 = 10 by decide)⟩) (by omega) (by show 8 + (4 + 11) + 251 ≤ R.locals; omega) (by show (0 : Nat) ≤ 8; decide) (by show kc + 17 + 0 ≤ _; omega) (by show ks + 187 + 0 ≤ _; omega) (fun r9 h3 hpo hr9 => ?_) (fun x9 hs9 hx9 hpo => ?_)
    · obtain ⟨-, ⟨b7, rfl⟩, hM3, f3⟩ := hpo
      have hI3 := hI2.wm f3 hM3
      have ln3 : h3.length = h2.length := f3.1
      show WpN (gp g0 wp) CLS p l e R s m args below meth c Q D_0.2.2.1 kc0 ks0 1030 [some (.ref 7000000000003), some (.ref 0), some (.ref 124), some (.ref 146), some (.ref 147), some (.int i), some (.int a6), v7, v8] (h3, kc + 17, ks + 187) [.long b7]
      refine g_storeL act (gx gp_0 (w := 0x704080b) rfl (by decide) rfl) (a := 7) (n := 1032) rfl rfl (L2 := [some (.ref 7000000000003), some (.ref 0), some (.ref 124), some (.ref 146), some (.ref 147), some (.int i), some (.int a6), some (.long b7), none]) rfl ?_
      refine g_goto act (gx gp_0 (w := 0x72507) rfl (by decide) rfl) (n := 1829) rfl ?_
      exact K _ _ _ _ _ _ _ _ _ _ _ hI3 (pt_step hP (by decide) (by decide) (by rw [ln3]; omega))
    · exact absurd hpo.1 (by omega)
  · exact absurd hpo.1 (by omega)

theorem lb_1035 (hTY : TYg g0) (act : Act SSX TBL (gp g0 wp) CLS bl xs D_0 p l s m args meth c) (hEnd : EndN SSX TBL (gp g0 wp) CLS D_0 p l e R s m args below meth c Q kc0 ks0 15 616 KC9 KS9 PE) (hf : 15 ≤ R.frames) (hl : 616 ≤ R.locals) (hc : 638008 ≤ R.cells + kc0) (hsl : 7182079 ≤ R.slots + ks0) (hI : LJ hs R0 tx L ec ep) (hP : PT kc ks hs.length t) (ht : t ≤ 511) (hi : i.toInt = 6 * (t : Int)) (hib : i.toInt + 6 ≤ (bl : Int)) (K : ∀ (h2 : List CE) (R2 : List Nat) (tx2 : Nat → Int) (L2 : Nat) (ec2 ep2 : Int) (kc2 ks2 : Nat) (v6 v7 v8 : Option Value), LJ h2 R2 tx2 L2 ec2 ep2 → PT kc2 ks2 h2.length (t + 1) → WpN (gp g0 wp) CLS p l e R s m args below meth c Q D_0.2.2.1 kc0 ks0 1829 [some (.ref 7000000000003), some (.ref 0), some (.ref 124), some (.ref 146), some (.ref 147), some (.int i), v6, v7, v8] (h2, kc2, ks2) []) : WpN (gp g0 wp) CLS p l e R s m args below meth c Q D_0.2.2.1 kc0 ks0 1035 [some (.ref 7000000000003), some (.ref 0), some (.ref 124), some (.ref 146), some (.ref 147), some (.int i), v6, v7, v8] (hs, kc, ks) [] := by
  have hTY9 : TYg (gp g0 wp) := hTY
  obtain ⟨p1, p2, p3⟩ := id hP
  have j1 := i_k (i := i) (k := 1) (by omega) (by omega) (by decide) (by decide)
  have j2 := i_k (i := i) (k := 2) (by omega) (by omega) (by decide) (by decide)
  have j3 := i_k (i := i) (k := 3) (by omega) (by omega) (by decide) (by decide)
  have j4 := i_k (i := i) (k := 4) (by omega) (by omega) (by decide) (by decide)
  have j5 := i_k (i := i) (k := 5) (by omega) (by omega) (by decide) (by decide)
  rw [show (1 : Int32).toInt = 1 from rfl] at j1
  rw [show (2 : Int32).toInt = 2 from rfl] at j2
  rw [show (3 : Int32).toInt = 3 from rfl] at j3
  rw [show (4 : Int32).toInt = 4 from rfl] at j4
  rw [show (5 : Int32).toInt = 5 from rfl] at j5
  refine g_loadA act (gx gp_0 (w := 0x1040c03) rfl (by decide) rfl) (a := 1) (n := 1036) rfl rfl rfl ?_
  refine g_loadA act (gx gp_0 (w := 0x40d03) rfl (by decide) rfl) (a := 0) (n := 1037) rfl rfl rfl ?_
  refine g_loadI act (gx gp_0 (w := 0x5040f02) rfl (by decide) rfl) (a := 5) (n := 1039) rfl rfl rfl ?_
  refine g_constI act (gx gp_0 (w := 0x40000000c00000009000000041001) rfl (by decide) rfl) (n := 1040) (x := (1 : Int32)) (by decide) rfl ?_
  refine g_iadd act (gx gp_0 (w := 0x4110a) rfl (by decide) rfl) (n := 1041) rfl ?_
  refine g_sald act (gx gp_0 (w := 0x4121a) rfl (by decide) rfl) (n := 1042) rfl (by omega) (by omega) ?_
  refine g_loadA act (gx gp_0 (w := 0x41303) rfl (by decide) rfl) (a := 0) (n := 1043) rfl rfl rfl ?_
  refine g_loadI act (gx gp_0 (w := 0x5041502) rfl (by decide) rfl) (a := 5) (n := 1045) rfl rfl rfl ?_
  refine g_constI act (gx gp_0 (w := 0x40000001400000011000000041601) rfl (by decide) rfl) (n := 1046) (x := (2 : Int32)) (by decide) rfl ?_
  refine g_iadd act (gx gp_0 (w := 0x4170a) rfl (by decide) rfl) (n := 1047) rfl ?_
  refine g_sald act (gx gp_0 (w := 0x4181a) rfl (by decide) rfl) (n := 1048) rfl (by omega) (by omega) ?_
  refine g_loadA act (gx gp_0 (w := 0x41903) rfl (by decide) rfl) (a := 0) (n := 1049) rfl rfl rfl ?_
  refine g_loadI act (gx gp_0 (w := 0x5041b02) rfl (by decide) rfl) (a := 5) (n := 1051) rfl rfl rfl ?_
  refine g_constI act (gx gp_0 (w := 0x40000001c00000019000000041c01) rfl (by decide) rfl) (n := 1052) (x := (3 : Int32)) (by decide) rfl ?_
  refine g_iadd act (gx gp_0 (w := 0x41d0a) rfl (by decide) rfl) (n := 1053) rfl ?_
  refine g_sald act (gx gp_0 (w := 0x41e1a) rfl (by decide) rfl) (n := 1054) rfl (by omega) (by omega) ?_
  refine g_loadA act (gx gp_0 (w := 0x3041f03) rfl (by decide) rfl) (a := 3) (n := 1055) rfl rfl rfl ?_
  refine n_call tb_pres act hEnd (gx (P := G_call) gp_0 (w := 0x400000000000004185500009e04220f) rfl (by decide) rfl) (d' := D_158) rfl (f' := 11) (lam' := 235) (mc := 16) (ms := 176) (as := [.ref 0, .int (xs (i + (1 : Int32)).toInt.toNat), .int (xs (i + (2 : Int32)).toInt.toNat), .int (xs (i + (3 : Int32)).toInt.toNat), .ref 146]) (rest := []) ((sem_useQ (c := c158_0Q) (es := [(-2147483648, 2147483647, false), (-2147483648, 2147483647, false), (-2147483648, 2147483647, false)]) (vs := [(xs (i + (1 : Int32)).toInt.toNat), (xs (i + (2 : Int32)).toInt.toNat), (xs (i + (3 : Int32)).toInt.toNat)]) (ws := [.ref 0, .int (xs (i + (1 : Int32)).toInt.toNat), .int (xs (i + (2 : Int32)).toInt.toNat), .int (xs (i + (3 : Int32)).toInt.toNat), .ref 146]) (sc158_0Q (handsB_KCQ invC_KCQ)) (d := D_158) rfl rfl rfl rfl (by decide) hTY9 hI.1 hI.2.1 (by show hs.length + 16 ≤ _; omega) (hvF (by decide) rfl) (Or.inl ⟨rfl, ⟨0, 501, rfl, hI.2.2.1.1, by decide, by decide⟩, (Or.inr ⟨(xs (i + (1 : Int32)).toInt.toNat), [(xs (i + (2 : Int32)).toInt.toNat), (xs (i + (3 : Int32)).toInt.toNat)], rfl, rfl, rfl, (Or.inr ⟨(xs (i + (2 : Int32)).toInt.toNat), [(xs (i + (3 : Int32)).toInt.toNat)], rfl, rfl, rfl, (Or.inr ⟨(xs (i + (3 : Int32)).toInt.toNat), [], rfl, rfl, rfl, (Or.inl ⟨rfl, ⟨146, 55, rfl, hI.2.2.1.2.2.2.2.2.2.2.1, by decide, by decide⟩, trivial⟩)⟩)⟩)⟩)⟩)).imp (fun kd r h2 h => w_useX (by decide +kernel) h)) (show (5 : Nat) = fb 0x400000000000004185500009e04220f % 16 by decide) (by show (5 : Nat) ≤ 6; decide) (fun q => absurd q (by decide)) (by omega) (by show 8 + (6 + 11) + 235 ≤ R.locals; omega) (by show (0 : Nat) ≤ 8; decide) (by show kc + 16 ≤ _; omega) (by show ks + 176 ≤ _; omega) (fun r9 h2 hpo hr9 => ?_) (fun x9 hs9 hx9 hpo => ?_)
  · obtain ⟨-, ⟨a6, rfl⟩, R2, hXX, hln⟩ := hpo
    have hln : h2.length ≤ hs.length + 16 := hln
    have hI2 := hI.hx hXX
    show WpN (gp g0 wp) CLS p l e R s m args below meth c Q D_0.2.2.1 kc0 ks0 1058 [some (.ref 7000000000003), some (.ref 0), some (.ref 124), some (.ref 146), some (.ref 147), some (.int i), v6, v7, v8] (h2, kc + 16, ks + 176) [.int a6]
    refine g_storeI act (gx gp_0 (w := 0x6042410) rfl (by decide) rfl) (a := 6) (n := 1060) rfl rfl (L2 := [some (.ref 7000000000003), some (.ref 0), some (.ref 124), some (.ref 146), some (.ref 147), some (.int i), some (.int a6), v7, v8]) rfl ?_
    refine g_loadA act (gx gp_0 (w := 0x2042503) rfl (by decide) rfl) (a := 2) (n := 1061) rfl rfl rfl ?_
    refine g_loadA act (gx gp_0 (w := 0x42603) rfl (by decide) rfl) (a := 0) (n := 1062) rfl rfl rfl ?_
    refine g_loadI act (gx gp_0 (w := 0x5042802) rfl (by decide) rfl) (a := 5) (n := 1064) rfl rfl rfl ?_
    refine g_constI act (gx gp_0 (w := 0x40000000c00000009000000042901) rfl (by decide) rfl) (n := 1065) (x := (1 : Int32)) (by decide) rfl ?_
    refine g_iadd act (gx gp_0 (w := 0x42a0a) rfl (by decide) rfl) (n := 1066) rfl ?_
    refine g_sald act (gx gp_0 (w := 0x42b1a) rfl (by decide) rfl) (n := 1067) rfl (by omega) (by omega) ?_
    refine g_loadA act (gx gp_0 (w := 0x42c03) rfl (by decide) rfl) (a := 0) (n := 1068) rfl rfl rfl ?_
    refine g_loadI act (gx gp_0 (w := 0x5042e02) rfl (by decide) rfl) (a := 5) (n := 1070) rfl rfl rfl ?_
    refine g_constI act (gx gp_0 (w := 0x40000001400000011000000042f01) rfl (by decide) rfl) (n := 1071) (x := (2 : Int32)) (by decide) rfl ?_
    refine g_iadd act (gx gp_0 (w := 0x4300a) rfl (by decide) rfl) (n := 1072) rfl ?_
    refine g_sald act (gx gp_0 (w := 0x4311a) rfl (by decide) rfl) (n := 1073) rfl (by omega) (by omega) ?_
    refine g_loadA act (gx gp_0 (w := 0x43203) rfl (by decide) rfl) (a := 0) (n := 1074) rfl rfl rfl ?_
    refine g_loadI act (gx gp_0 (w := 0x5043402) rfl (by decide) rfl) (a := 5) (n := 1076) rfl rfl rfl ?_
    refine g_constI act (gx gp_0 (w := 0x40000001c00000019000000043501) rfl (by decide) rfl) (n := 1077) (x := (3 : Int32)) (by decide) rfl ?_
    refine g_iadd act (gx gp_0 (w := 0x4360a) rfl (by decide) rfl) (n := 1078) rfl ?_
    refine g_sald act (gx gp_0 (w := 0x4371a) rfl (by decide) rfl) (n := 1079) rfl (by omega) (by omega) ?_
    obtain ⟨tl, wl, nl, n, ng, nr, hNW, hL1, hB, hM⟩ := hI2.num
    refine n_call tb_pres act hEnd (gx (P := G_call) gp_0 (w := 0xa000000000000c10440000f8043a0f) rfl (by decide) rfl) (d' := D_248) rfl (f' := 10) (lam' := 251) (mc := 0) (ms := 0) (as := [.ref 124, .int (xs (i + (1 : Int32)).toInt.toNat), .int (xs (i + (2 : Int32)).toInt.toNat), .int (xs (i + (3 : Int32)).toInt.toNat)]) (rest := []) (b_output hNW hB hM) (show (4 : Nat) = fb 0xa000000000000c10440000f8043a0f % 16 by decide) (by show (4 : Nat) ≤ 4; decide) (fun _ => ⟨_, _, rfl, _, shp_at hB.1.1, Or.inr (show fb 0xa000000000000c10440000f8043a0f >>> 68 = 10 by decide)⟩) (by omega) (by show 8 + (4 + 11) + 251 ≤ R.locals; omega) (by show (0 : Nat) ≤ 8; decide) (by show kc + 16 + 0 ≤ _; omega) (by show ks + 176 + 0 ≤ _; omega) (fun r9 h3 hpo hr9 => ?_) (fun x9 hs9 hx9 hpo => ?_)
    · obtain ⟨-, ⟨b7, rfl⟩, hM3, f3⟩ := hpo
      have hI3 := hI2.wm f3 hM3
      have ln3 : h3.length = h2.length := f3.1
      show WpN (gp g0 wp) CLS p l e R s m args below meth c Q D_0.2.2.1 kc0 ks0 1082 [some (.ref 7000000000003), some (.ref 0), some (.ref 124), some (.ref 146), some (.ref 147), some (.int i), some (.int a6), v7, v8] (h3, kc + 16, ks + 176) [.long b7]
      refine g_storeL act (gx gp_0 (w := 0x7043c0b) rfl (by decide) rfl) (a := 7) (n := 1084) rfl rfl (L2 := [some (.ref 7000000000003), some (.ref 0), some (.ref 124), some (.ref 146), some (.ref 147), some (.int i), some (.int a6), some (.long b7), none]) rfl ?_
      refine g_goto act (gx gp_0 (w := 0x72507) rfl (by decide) rfl) (n := 1829) rfl ?_
      exact K _ _ _ _ _ _ _ _ _ _ _ hI3 (pt_step hP (by decide) (by decide) (by rw [ln3]; omega))
    · exact absurd hpo.1 (by omega)
  · exact absurd hpo.1 (by omega)

theorem lb_1087 (hTY : TYg g0) (act : Act SSX TBL (gp g0 wp) CLS bl xs D_0 p l s m args meth c) (hEnd : EndN SSX TBL (gp g0 wp) CLS D_0 p l e R s m args below meth c Q kc0 ks0 15 616 KC9 KS9 PE) (hf : 15 ≤ R.frames) (hl : 616 ≤ R.locals) (hc : 638008 ≤ R.cells + kc0) (hsl : 7182079 ≤ R.slots + ks0) (hI : LJ hs R0 tx L ec ep) (hP : PT kc ks hs.length t) (ht : t ≤ 511) (hi : i.toInt = 6 * (t : Int)) (hib : i.toInt + 6 ≤ (bl : Int)) (K : ∀ (h2 : List CE) (R2 : List Nat) (tx2 : Nat → Int) (L2 : Nat) (ec2 ep2 : Int) (kc2 ks2 : Nat) (v6 v7 v8 : Option Value), LJ h2 R2 tx2 L2 ec2 ep2 → PT kc2 ks2 h2.length (t + 1) → WpN (gp g0 wp) CLS p l e R s m args below meth c Q D_0.2.2.1 kc0 ks0 1829 [some (.ref 7000000000003), some (.ref 0), some (.ref 124), some (.ref 146), some (.ref 147), some (.int i), v6, v7, v8] (h2, kc2, ks2) []) : WpN (gp g0 wp) CLS p l e R s m args below meth c Q D_0.2.2.1 kc0 ks0 1087 [some (.ref 7000000000003), some (.ref 0), some (.ref 124), some (.ref 146), some (.ref 147), some (.int i), v6, v7, v8] (hs, kc, ks) [] := by
  have hTY9 : TYg (gp g0 wp) := hTY
  obtain ⟨p1, p2, p3⟩ := id hP
  have j1 := i_k (i := i) (k := 1) (by omega) (by omega) (by decide) (by decide)
  have j2 := i_k (i := i) (k := 2) (by omega) (by omega) (by decide) (by decide)
  have j3 := i_k (i := i) (k := 3) (by omega) (by omega) (by decide) (by decide)
  have j4 := i_k (i := i) (k := 4) (by omega) (by omega) (by decide) (by decide)
  have j5 := i_k (i := i) (k := 5) (by omega) (by omega) (by decide) (by decide)
  rw [show (1 : Int32).toInt = 1 from rfl] at j1
  rw [show (2 : Int32).toInt = 2 from rfl] at j2
  rw [show (3 : Int32).toInt = 3 from rfl] at j3
  rw [show (4 : Int32).toInt = 4 from rfl] at j4
  rw [show (5 : Int32).toInt = 5 from rfl] at j5
  refine g_loadA act (gx gp_0 (w := 0x1044003) rfl (by decide) rfl) (a := 1) (n := 1088) rfl rfl rfl ?_
  refine g_loadA act (gx gp_0 (w := 0x44103) rfl (by decide) rfl) (a := 0) (n := 1089) rfl rfl rfl ?_
  refine g_loadI act (gx gp_0 (w := 0x5044302) rfl (by decide) rfl) (a := 5) (n := 1091) rfl rfl rfl ?_
  refine g_constI act (gx gp_0 (w := 0x40000000c00000009000000044401) rfl (by decide) rfl) (n := 1092) (x := (1 : Int32)) (by decide) rfl ?_
  refine g_iadd act (gx gp_0 (w := 0x4450a) rfl (by decide) rfl) (n := 1093) rfl ?_
  refine g_sald act (gx gp_0 (w := 0x4461a) rfl (by decide) rfl) (n := 1094) rfl (by omega) (by omega) ?_
  refine g_loadA act (gx gp_0 (w := 0x44703) rfl (by decide) rfl) (a := 0) (n := 1095) rfl rfl rfl ?_
  refine g_loadI act (gx gp_0 (w := 0x5044902) rfl (by decide) rfl) (a := 5) (n := 1097) rfl rfl rfl ?_
  refine g_constI act (gx gp_0 (w := 0x40000001400000011000000044a01) rfl (by decide) rfl) (n := 1098) (x := (2 : Int32)) (by decide) rfl ?_
  refine g_iadd act (gx gp_0 (w := 0x44b0a) rfl (by decide) rfl) (n := 1099) rfl ?_
  refine g_sald act (gx gp_0 (w := 0x44c1a) rfl (by decide) rfl) (n := 1100) rfl (by omega) (by omega) ?_
  refine g_loadA act (gx gp_0 (w := 0x44d03) rfl (by decide) rfl) (a := 0) (n := 1101) rfl rfl rfl ?_
  refine g_loadI act (gx gp_0 (w := 0x5044f02) rfl (by decide) rfl) (a := 5) (n := 1103) rfl rfl rfl ?_
  refine g_constI act (gx gp_0 (w := 0x40000001c00000019000000045001) rfl (by decide) rfl) (n := 1104) (x := (3 : Int32)) (by decide) rfl ?_
  refine g_iadd act (gx gp_0 (w := 0x4510a) rfl (by decide) rfl) (n := 1105) rfl ?_
  refine g_sald act (gx gp_0 (w := 0x4521a) rfl (by decide) rfl) (n := 1106) rfl (by omega) (by omega) ?_
  refine g_loadA act (gx gp_0 (w := 0x3045303) rfl (by decide) rfl) (a := 3) (n := 1107) rfl rfl rfl ?_
  refine n_call tb_pres act hEnd (gx (P := G_call) gp_0 (w := 0x400000000000004185500009204560f) rfl (by decide) rfl) (d' := D_146) rfl (f' := 11) (lam' := 235) (mc := 37) (ms := 407) (as := [.ref 0, .int (xs (i + (1 : Int32)).toInt.toNat), .int (xs (i + (2 : Int32)).toInt.toNat), .int (xs (i + (3 : Int32)).toInt.toNat), .ref 146]) (rest := []) ((sem_useQ (c := c146_0Q) (es := [(-2147483648, 2147483647, false), (-2147483648, 2147483647, false), (-2147483648, 2147483647, false)]) (vs := [(xs (i + (1 : Int32)).toInt.toNat), (xs (i + (2 : Int32)).toInt.toNat), (xs (i + (3 : Int32)).toInt.toNat)]) (ws := [.ref 0, .int (xs (i + (1 : Int32)).toInt.toNat), .int (xs (i + (2 : Int32)).toInt.toNat), .int (xs (i + (3 : Int32)).toInt.toNat), .ref 146]) (sc146_0Q (handsB_KCQ invC_KCQ)) (d := D_146) rfl rfl rfl rfl (by decide) hTY9 hI.1 hI.2.1 (by show hs.length + 37 ≤ _; omega) (hvF (by decide) rfl) (Or.inl ⟨rfl, ⟨0, 501, rfl, hI.2.2.1.1, by decide, by decide⟩, (Or.inr ⟨(xs (i + (1 : Int32)).toInt.toNat), [(xs (i + (2 : Int32)).toInt.toNat), (xs (i + (3 : Int32)).toInt.toNat)], rfl, rfl, rfl, (Or.inr ⟨(xs (i + (2 : Int32)).toInt.toNat), [(xs (i + (3 : Int32)).toInt.toNat)], rfl, rfl, rfl, (Or.inr ⟨(xs (i + (3 : Int32)).toInt.toNat), [], rfl, rfl, rfl, (Or.inl ⟨rfl, ⟨146, 55, rfl, hI.2.2.1.2.2.2.2.2.2.2.1, by decide, by decide⟩, trivial⟩)⟩)⟩)⟩)⟩)).imp (fun kd r h2 h => w_useX (by decide +kernel) h)) (show (5 : Nat) = fb 0x400000000000004185500009204560f % 16 by decide) (by show (5 : Nat) ≤ 6; decide) (fun q => absurd q (by decide)) (by omega) (by show 8 + (6 + 11) + 235 ≤ R.locals; omega) (by show (0 : Nat) ≤ 8; decide) (by show kc + 37 ≤ _; omega) (by show ks + 407 ≤ _; omega) (fun r9 h2 hpo hr9 => ?_) (fun x9 hs9 hx9 hpo => ?_)
  · obtain ⟨-, ⟨a6, rfl⟩, R2, hXX, hln⟩ := hpo
    have hln : h2.length ≤ hs.length + 37 := hln
    have hI2 := hI.hx hXX
    show WpN (gp g0 wp) CLS p l e R s m args below meth c Q D_0.2.2.1 kc0 ks0 1110 [some (.ref 7000000000003), some (.ref 0), some (.ref 124), some (.ref 146), some (.ref 147), some (.int i), v6, v7, v8] (h2, kc + 37, ks + 407) [.int a6]
    refine g_storeI act (gx gp_0 (w := 0x6045810) rfl (by decide) rfl) (a := 6) (n := 1112) rfl rfl (L2 := [some (.ref 7000000000003), some (.ref 0), some (.ref 124), some (.ref 146), some (.ref 147), some (.int i), some (.int a6), v7, v8]) rfl ?_
    refine g_loadA act (gx gp_0 (w := 0x2045903) rfl (by decide) rfl) (a := 2) (n := 1113) rfl rfl rfl ?_
    refine g_loadA act (gx gp_0 (w := 0x45a03) rfl (by decide) rfl) (a := 0) (n := 1114) rfl rfl rfl ?_
    refine g_loadI act (gx gp_0 (w := 0x5045c02) rfl (by decide) rfl) (a := 5) (n := 1116) rfl rfl rfl ?_
    refine g_constI act (gx gp_0 (w := 0x40000000c00000009000000045d01) rfl (by decide) rfl) (n := 1117) (x := (1 : Int32)) (by decide) rfl ?_
    refine g_iadd act (gx gp_0 (w := 0x45e0a) rfl (by decide) rfl) (n := 1118) rfl ?_
    refine g_sald act (gx gp_0 (w := 0x45f1a) rfl (by decide) rfl) (n := 1119) rfl (by omega) (by omega) ?_
    refine g_loadA act (gx gp_0 (w := 0x46003) rfl (by decide) rfl) (a := 0) (n := 1120) rfl rfl rfl ?_
    refine g_loadI act (gx gp_0 (w := 0x5046202) rfl (by decide) rfl) (a := 5) (n := 1122) rfl rfl rfl ?_
    refine g_constI act (gx gp_0 (w := 0x40000001400000011000000046301) rfl (by decide) rfl) (n := 1123) (x := (2 : Int32)) (by decide) rfl ?_
    refine g_iadd act (gx gp_0 (w := 0x4640a) rfl (by decide) rfl) (n := 1124) rfl ?_
    refine g_sald act (gx gp_0 (w := 0x4651a) rfl (by decide) rfl) (n := 1125) rfl (by omega) (by omega) ?_
    refine g_loadA act (gx gp_0 (w := 0x46603) rfl (by decide) rfl) (a := 0) (n := 1126) rfl rfl rfl ?_
    refine g_loadI act (gx gp_0 (w := 0x5046802) rfl (by decide) rfl) (a := 5) (n := 1128) rfl rfl rfl ?_
    refine g_constI act (gx gp_0 (w := 0x40000001c00000019000000046901) rfl (by decide) rfl) (n := 1129) (x := (3 : Int32)) (by decide) rfl ?_
    refine g_iadd act (gx gp_0 (w := 0x46a0a) rfl (by decide) rfl) (n := 1130) rfl ?_
    refine g_sald act (gx gp_0 (w := 0x46b1a) rfl (by decide) rfl) (n := 1131) rfl (by omega) (by omega) ?_
    obtain ⟨tl, wl, nl, n, ng, nr, hNW, hL1, hB, hM⟩ := hI2.num
    refine n_call tb_pres act hEnd (gx (P := G_call) gp_0 (w := 0xa000000000000c10440000cf046e0f) rfl (by decide) rfl) (d' := D_207) rfl (f' := 10) (lam' := 251) (mc := 0) (ms := 0) (as := [.ref 124, .int (xs (i + (1 : Int32)).toInt.toNat), .int (xs (i + (2 : Int32)).toInt.toNat), .int (xs (i + (3 : Int32)).toInt.toNat)]) (rest := []) (b_flow hNW hB hM) (show (4 : Nat) = fb 0xa000000000000c10440000cf046e0f % 16 by decide) (by show (4 : Nat) ≤ 4; decide) (fun _ => ⟨_, _, rfl, _, shp_at hB.1.1, Or.inr (show fb 0xa000000000000c10440000cf046e0f >>> 68 = 10 by decide)⟩) (by omega) (by show 8 + (4 + 11) + 251 ≤ R.locals; omega) (by show (0 : Nat) ≤ 8; decide) (by show kc + 37 + 0 ≤ _; omega) (by show ks + 407 + 0 ≤ _; omega) (fun r9 h3 hpo hr9 => ?_) (fun x9 hs9 hx9 hpo => ?_)
    · obtain ⟨-, ⟨b7, rfl⟩, hM3, f3⟩ := hpo
      have hI3 := hI2.wm f3 hM3
      have ln3 : h3.length = h2.length := f3.1
      show WpN (gp g0 wp) CLS p l e R s m args below meth c Q D_0.2.2.1 kc0 ks0 1134 [some (.ref 7000000000003), some (.ref 0), some (.ref 124), some (.ref 146), some (.ref 147), some (.int i), some (.int a6), v7, v8] (h3, kc + 37, ks + 407) [.long b7]
      refine g_storeL act (gx gp_0 (w := 0x704700b) rfl (by decide) rfl) (a := 7) (n := 1136) rfl rfl (L2 := [some (.ref 7000000000003), some (.ref 0), some (.ref 124), some (.ref 146), some (.ref 147), some (.int i), some (.int a6), some (.long b7), none]) rfl ?_
      refine g_goto act (gx gp_0 (w := 0x72507) rfl (by decide) rfl) (n := 1829) rfl ?_
      exact K _ _ _ _ _ _ _ _ _ _ _ hI3 (pt_step hP (by decide) (by decide) (by rw [ln3]; omega))
    · exact absurd hpo.1 (by omega)
  · exact absurd hpo.1 (by omega)

theorem lb_1139 (hTY : TYg g0) (act : Act SSX TBL (gp g0 wp) CLS bl xs D_0 p l s m args meth c) (hEnd : EndN SSX TBL (gp g0 wp) CLS D_0 p l e R s m args below meth c Q kc0 ks0 15 616 KC9 KS9 PE) (hf : 15 ≤ R.frames) (hl : 616 ≤ R.locals) (hc : 638008 ≤ R.cells + kc0) (hsl : 7182079 ≤ R.slots + ks0) (hI : LJ hs R0 tx L ec ep) (hP : PT kc ks hs.length t) (ht : t ≤ 511) (hi : i.toInt = 6 * (t : Int)) (hib : i.toInt + 6 ≤ (bl : Int)) (K : ∀ (h2 : List CE) (R2 : List Nat) (tx2 : Nat → Int) (L2 : Nat) (ec2 ep2 : Int) (kc2 ks2 : Nat) (v6 v7 v8 : Option Value), LJ h2 R2 tx2 L2 ec2 ep2 → PT kc2 ks2 h2.length (t + 1) → WpN (gp g0 wp) CLS p l e R s m args below meth c Q D_0.2.2.1 kc0 ks0 1829 [some (.ref 7000000000003), some (.ref 0), some (.ref 124), some (.ref 146), some (.ref 147), some (.int i), v6, v7, v8] (h2, kc2, ks2) []) : WpN (gp g0 wp) CLS p l e R s m args below meth c Q D_0.2.2.1 kc0 ks0 1139 [some (.ref 7000000000003), some (.ref 0), some (.ref 124), some (.ref 146), some (.ref 147), some (.int i), v6, v7, v8] (hs, kc, ks) [] := by
  have hTY9 : TYg (gp g0 wp) := hTY
  obtain ⟨p1, p2, p3⟩ := id hP
  have j1 := i_k (i := i) (k := 1) (by omega) (by omega) (by decide) (by decide)
  have j2 := i_k (i := i) (k := 2) (by omega) (by omega) (by decide) (by decide)
  have j3 := i_k (i := i) (k := 3) (by omega) (by omega) (by decide) (by decide)
  have j4 := i_k (i := i) (k := 4) (by omega) (by omega) (by decide) (by decide)
  have j5 := i_k (i := i) (k := 5) (by omega) (by omega) (by decide) (by decide)
  rw [show (1 : Int32).toInt = 1 from rfl] at j1
  rw [show (2 : Int32).toInt = 2 from rfl] at j2
  rw [show (3 : Int32).toInt = 3 from rfl] at j3
  rw [show (4 : Int32).toInt = 4 from rfl] at j4
  rw [show (5 : Int32).toInt = 5 from rfl] at j5
  refine g_loadA act (gx gp_0 (w := 0x1047403) rfl (by decide) rfl) (a := 1) (n := 1140) rfl rfl rfl ?_
  refine g_loadA act (gx gp_0 (w := 0x47503) rfl (by decide) rfl) (a := 0) (n := 1141) rfl rfl rfl ?_
  refine g_loadI act (gx gp_0 (w := 0x5047702) rfl (by decide) rfl) (a := 5) (n := 1143) rfl rfl rfl ?_
  refine g_constI act (gx gp_0 (w := 0x40000000c00000009000000047801) rfl (by decide) rfl) (n := 1144) (x := (1 : Int32)) (by decide) rfl ?_
  refine g_iadd act (gx gp_0 (w := 0x4790a) rfl (by decide) rfl) (n := 1145) rfl ?_
  refine g_sald act (gx gp_0 (w := 0x47a1a) rfl (by decide) rfl) (n := 1146) rfl (by omega) (by omega) ?_
  refine g_loadA act (gx gp_0 (w := 0x47b03) rfl (by decide) rfl) (a := 0) (n := 1147) rfl rfl rfl ?_
  refine g_loadI act (gx gp_0 (w := 0x5047d02) rfl (by decide) rfl) (a := 5) (n := 1149) rfl rfl rfl ?_
  refine g_constI act (gx gp_0 (w := 0x40000001400000011000000047e01) rfl (by decide) rfl) (n := 1150) (x := (2 : Int32)) (by decide) rfl ?_
  refine g_iadd act (gx gp_0 (w := 0x47f0a) rfl (by decide) rfl) (n := 1151) rfl ?_
  refine g_sald act (gx gp_0 (w := 0x4801a) rfl (by decide) rfl) (n := 1152) rfl (by omega) (by omega) ?_
  refine g_loadA act (gx gp_0 (w := 0x48103) rfl (by decide) rfl) (a := 0) (n := 1153) rfl rfl rfl ?_
  refine g_loadI act (gx gp_0 (w := 0x5048302) rfl (by decide) rfl) (a := 5) (n := 1155) rfl rfl rfl ?_
  refine g_constI act (gx gp_0 (w := 0x40000001c00000019000000048401) rfl (by decide) rfl) (n := 1156) (x := (3 : Int32)) (by decide) rfl ?_
  refine g_iadd act (gx gp_0 (w := 0x4850a) rfl (by decide) rfl) (n := 1157) rfl ?_
  refine g_sald act (gx gp_0 (w := 0x4861a) rfl (by decide) rfl) (n := 1158) rfl (by omega) (by omega) ?_
  refine g_loadA act (gx gp_0 (w := 0x3048703) rfl (by decide) rfl) (a := 3) (n := 1159) rfl rfl rfl ?_
  refine n_call tb_pres act hEnd (gx (P := G_call) gp_0 (w := 0x4000000000000041855000093048a0f) rfl (by decide) rfl) (d' := D_147) rfl (f' := 11) (lam' := 235) (mc := 38) (ms := 418) (as := [.ref 0, .int (xs (i + (1 : Int32)).toInt.toNat), .int (xs (i + (2 : Int32)).toInt.toNat), .int (xs (i + (3 : Int32)).toInt.toNat), .ref 146]) (rest := []) ((sem_useQ (c := c147_0Q) (es := [(-2147483648, 2147483647, false), (-2147483648, 2147483647, false), (-2147483648, 2147483647, false)]) (vs := [(xs (i + (1 : Int32)).toInt.toNat), (xs (i + (2 : Int32)).toInt.toNat), (xs (i + (3 : Int32)).toInt.toNat)]) (ws := [.ref 0, .int (xs (i + (1 : Int32)).toInt.toNat), .int (xs (i + (2 : Int32)).toInt.toNat), .int (xs (i + (3 : Int32)).toInt.toNat), .ref 146]) (sc147_0Q (handsB_KCQ invC_KCQ)) (d := D_147) rfl rfl rfl rfl (by decide) hTY9 hI.1 hI.2.1 (by show hs.length + 38 ≤ _; omega) (hvF (by decide) rfl) (Or.inl ⟨rfl, ⟨0, 501, rfl, hI.2.2.1.1, by decide, by decide⟩, (Or.inr ⟨(xs (i + (1 : Int32)).toInt.toNat), [(xs (i + (2 : Int32)).toInt.toNat), (xs (i + (3 : Int32)).toInt.toNat)], rfl, rfl, rfl, (Or.inr ⟨(xs (i + (2 : Int32)).toInt.toNat), [(xs (i + (3 : Int32)).toInt.toNat)], rfl, rfl, rfl, (Or.inr ⟨(xs (i + (3 : Int32)).toInt.toNat), [], rfl, rfl, rfl, (Or.inl ⟨rfl, ⟨146, 55, rfl, hI.2.2.1.2.2.2.2.2.2.2.1, by decide, by decide⟩, trivial⟩)⟩)⟩)⟩)⟩)).imp (fun kd r h2 h => w_useX (by decide +kernel) h)) (show (5 : Nat) = fb 0x4000000000000041855000093048a0f % 16 by decide) (by show (5 : Nat) ≤ 6; decide) (fun q => absurd q (by decide)) (by omega) (by show 8 + (6 + 11) + 235 ≤ R.locals; omega) (by show (0 : Nat) ≤ 8; decide) (by show kc + 38 ≤ _; omega) (by show ks + 418 ≤ _; omega) (fun r9 h2 hpo hr9 => ?_) (fun x9 hs9 hx9 hpo => ?_)
  · obtain ⟨-, ⟨a6, rfl⟩, R2, hXX, hln⟩ := hpo
    have hln : h2.length ≤ hs.length + 38 := hln
    have hI2 := hI.hx hXX
    show WpN (gp g0 wp) CLS p l e R s m args below meth c Q D_0.2.2.1 kc0 ks0 1162 [some (.ref 7000000000003), some (.ref 0), some (.ref 124), some (.ref 146), some (.ref 147), some (.int i), v6, v7, v8] (h2, kc + 38, ks + 418) [.int a6]
    refine g_storeI act (gx gp_0 (w := 0x6048c10) rfl (by decide) rfl) (a := 6) (n := 1164) rfl rfl (L2 := [some (.ref 7000000000003), some (.ref 0), some (.ref 124), some (.ref 146), some (.ref 147), some (.int i), some (.int a6), v7, v8]) rfl ?_
    refine g_loadA act (gx gp_0 (w := 0x2048d03) rfl (by decide) rfl) (a := 2) (n := 1165) rfl rfl rfl ?_
    refine g_loadA act (gx gp_0 (w := 0x48e03) rfl (by decide) rfl) (a := 0) (n := 1166) rfl rfl rfl ?_
    refine g_loadI act (gx gp_0 (w := 0x5049002) rfl (by decide) rfl) (a := 5) (n := 1168) rfl rfl rfl ?_
    refine g_constI act (gx gp_0 (w := 0x40000000c00000009000000049101) rfl (by decide) rfl) (n := 1169) (x := (1 : Int32)) (by decide) rfl ?_
    refine g_iadd act (gx gp_0 (w := 0x4920a) rfl (by decide) rfl) (n := 1170) rfl ?_
    refine g_sald act (gx gp_0 (w := 0x4931a) rfl (by decide) rfl) (n := 1171) rfl (by omega) (by omega) ?_
    refine g_loadA act (gx gp_0 (w := 0x49403) rfl (by decide) rfl) (a := 0) (n := 1172) rfl rfl rfl ?_
    refine g_loadI act (gx gp_0 (w := 0x5049602) rfl (by decide) rfl) (a := 5) (n := 1174) rfl rfl rfl ?_
    refine g_constI act (gx gp_0 (w := 0x40000001400000011000000049701) rfl (by decide) rfl) (n := 1175) (x := (2 : Int32)) (by decide) rfl ?_
    refine g_iadd act (gx gp_0 (w := 0x4980a) rfl (by decide) rfl) (n := 1176) rfl ?_
    refine g_sald act (gx gp_0 (w := 0x4991a) rfl (by decide) rfl) (n := 1177) rfl (by omega) (by omega) ?_
    refine g_loadA act (gx gp_0 (w := 0x49a03) rfl (by decide) rfl) (a := 0) (n := 1178) rfl rfl rfl ?_
    refine g_loadI act (gx gp_0 (w := 0x5049c02) rfl (by decide) rfl) (a := 5) (n := 1180) rfl rfl rfl ?_
    refine g_constI act (gx gp_0 (w := 0x40000001c00000019000000049d01) rfl (by decide) rfl) (n := 1181) (x := (3 : Int32)) (by decide) rfl ?_
    refine g_iadd act (gx gp_0 (w := 0x49e0a) rfl (by decide) rfl) (n := 1182) rfl ?_
    refine g_sald act (gx gp_0 (w := 0x49f1a) rfl (by decide) rfl) (n := 1183) rfl (by omega) (by omega) ?_
    obtain ⟨tl, wl, nl, n, ng, nr, hNW, hL1, hB, hM⟩ := hI2.num
    refine n_call tb_pres act hEnd (gx (P := G_call) gp_0 (w := 0xa000000000000c10440000d004a20f) rfl (by decide) rfl) (d' := D_208) rfl (f' := 10) (lam' := 251) (mc := 0) (ms := 0) (as := [.ref 124, .int (xs (i + (1 : Int32)).toInt.toNat), .int (xs (i + (2 : Int32)).toInt.toNat), .int (xs (i + (3 : Int32)).toInt.toNat)]) (rest := []) (b_flowAfter hNW hB hM) (show (4 : Nat) = fb 0xa000000000000c10440000d004a20f % 16 by decide) (by show (4 : Nat) ≤ 4; decide) (fun _ => ⟨_, _, rfl, _, shp_at hB.1.1, Or.inr (show fb 0xa000000000000c10440000d004a20f >>> 68 = 10 by decide)⟩) (by omega) (by show 8 + (4 + 11) + 251 ≤ R.locals; omega) (by show (0 : Nat) ≤ 8; decide) (by show kc + 38 + 0 ≤ _; omega) (by show ks + 418 + 0 ≤ _; omega) (fun r9 h3 hpo hr9 => ?_) (fun x9 hs9 hx9 hpo => ?_)
    · obtain ⟨-, ⟨b7, rfl⟩, hM3, f3⟩ := hpo
      have hI3 := hI2.wm f3 hM3
      have ln3 : h3.length = h2.length := f3.1
      show WpN (gp g0 wp) CLS p l e R s m args below meth c Q D_0.2.2.1 kc0 ks0 1186 [some (.ref 7000000000003), some (.ref 0), some (.ref 124), some (.ref 146), some (.ref 147), some (.int i), some (.int a6), v7, v8] (h3, kc + 38, ks + 418) [.long b7]
      refine g_storeL act (gx gp_0 (w := 0x704a40b) rfl (by decide) rfl) (a := 7) (n := 1188) rfl rfl (L2 := [some (.ref 7000000000003), some (.ref 0), some (.ref 124), some (.ref 146), some (.ref 147), some (.int i), some (.int a6), some (.long b7), none]) rfl ?_
      refine g_goto act (gx gp_0 (w := 0x72507) rfl (by decide) rfl) (n := 1829) rfl ?_
      exact K _ _ _ _ _ _ _ _ _ _ _ hI3 (pt_step hP (by decide) (by decide) (by rw [ln3]; omega))
    · exact absurd hpo.1 (by omega)
  · exact absurd hpo.1 (by omega)

theorem lb_1191 (hTY : TYg g0) (act : Act SSX TBL (gp g0 wp) CLS bl xs D_0 p l s m args meth c) (hEnd : EndN SSX TBL (gp g0 wp) CLS D_0 p l e R s m args below meth c Q kc0 ks0 15 616 KC9 KS9 PE) (hf : 15 ≤ R.frames) (hl : 616 ≤ R.locals) (hc : 638008 ≤ R.cells + kc0) (hsl : 7182079 ≤ R.slots + ks0) (hI : LJ hs R0 tx L ec ep) (hP : PT kc ks hs.length t) (ht : t ≤ 511) (hi : i.toInt = 6 * (t : Int)) (hib : i.toInt + 6 ≤ (bl : Int)) (K : ∀ (h2 : List CE) (R2 : List Nat) (tx2 : Nat → Int) (L2 : Nat) (ec2 ep2 : Int) (kc2 ks2 : Nat) (v6 v7 v8 : Option Value), LJ h2 R2 tx2 L2 ec2 ep2 → PT kc2 ks2 h2.length (t + 1) → WpN (gp g0 wp) CLS p l e R s m args below meth c Q D_0.2.2.1 kc0 ks0 1829 [some (.ref 7000000000003), some (.ref 0), some (.ref 124), some (.ref 146), some (.ref 147), some (.int i), v6, v7, v8] (h2, kc2, ks2) []) : WpN (gp g0 wp) CLS p l e R s m args below meth c Q D_0.2.2.1 kc0 ks0 1191 [some (.ref 7000000000003), some (.ref 0), some (.ref 124), some (.ref 146), some (.ref 147), some (.int i), v6, v7, v8] (hs, kc, ks) [] := by
  have hTY9 : TYg (gp g0 wp) := hTY
  obtain ⟨p1, p2, p3⟩ := id hP
  have j1 := i_k (i := i) (k := 1) (by omega) (by omega) (by decide) (by decide)
  have j2 := i_k (i := i) (k := 2) (by omega) (by omega) (by decide) (by decide)
  have j3 := i_k (i := i) (k := 3) (by omega) (by omega) (by decide) (by decide)
  have j4 := i_k (i := i) (k := 4) (by omega) (by omega) (by decide) (by decide)
  have j5 := i_k (i := i) (k := 5) (by omega) (by omega) (by decide) (by decide)
  rw [show (1 : Int32).toInt = 1 from rfl] at j1
  rw [show (2 : Int32).toInt = 2 from rfl] at j2
  rw [show (3 : Int32).toInt = 3 from rfl] at j3
  rw [show (4 : Int32).toInt = 4 from rfl] at j4
  rw [show (5 : Int32).toInt = 5 from rfl] at j5
  refine g_loadA act (gx gp_0 (w := 0x104a803) rfl (by decide) rfl) (a := 1) (n := 1192) rfl rfl rfl ?_
  refine g_loadA act (gx gp_0 (w := 0x4a903) rfl (by decide) rfl) (a := 0) (n := 1193) rfl rfl rfl ?_
  refine g_loadI act (gx gp_0 (w := 0x504ab02) rfl (by decide) rfl) (a := 5) (n := 1195) rfl rfl rfl ?_
  refine g_constI act (gx gp_0 (w := 0x40000000c0000000900000004ac01) rfl (by decide) rfl) (n := 1196) (x := (1 : Int32)) (by decide) rfl ?_
  refine g_iadd act (gx gp_0 (w := 0x4ad0a) rfl (by decide) rfl) (n := 1197) rfl ?_
  refine g_sald act (gx gp_0 (w := 0x4ae1a) rfl (by decide) rfl) (n := 1198) rfl (by omega) (by omega) ?_
  refine g_loadA act (gx gp_0 (w := 0x4af03) rfl (by decide) rfl) (a := 0) (n := 1199) rfl rfl rfl ?_
  refine g_loadI act (gx gp_0 (w := 0x504b102) rfl (by decide) rfl) (a := 5) (n := 1201) rfl rfl rfl ?_
  refine g_constI act (gx gp_0 (w := 0x4000000140000001100000004b201) rfl (by decide) rfl) (n := 1202) (x := (2 : Int32)) (by decide) rfl ?_
  refine g_iadd act (gx gp_0 (w := 0x4b30a) rfl (by decide) rfl) (n := 1203) rfl ?_
  refine g_sald act (gx gp_0 (w := 0x4b41a) rfl (by decide) rfl) (n := 1204) rfl (by omega) (by omega) ?_
  refine g_ifEq act (gx gp_0 (w := 0x4bb04b70e) rfl (by decide) rfl) (tgt := 1211) (n := 1207) rfl rfl (fun h10 => ?_) (fun h10 => ?_)
  · simp only [i_eq, show (2 : Int32).toInt = 2 from by decide, i0] at h10
    refine g_constI act (gx gp_0 (w := 0x4000000040000000100000004bc01) rfl (by decide) rfl) (n := 1212) (x := (0 : Int32)) (by decide) rfl ?_
    refine g_loadA act (gx gp_0 (w := 0x304bd03) rfl (by decide) rfl) (a := 3) (n := 1213) rfl rfl rfl ?_
    refine n_call tb_pres act hEnd (gx (P := G_call) gp_0 (w := 0x400000000000004144400008c04c00f) rfl (by decide) rfl) (d' := D_140) rfl (f' := 11) (lam' := 257) (mc := 542) (ms := 5962) (as := [.ref 0, .int (xs (i + (1 : Int32)).toInt.toNat), .int (0 : Int32), .ref 146]) (rest := []) ((sem_useQ (c := c140_0Q) (es := [(-2147483648, 2147483647, false), (0, 1, false)]) (vs := [(xs (i + (1 : Int32)).toInt.toNat), (0 : Int32)]) (ws := [.ref 0, .int (xs (i + (1 : Int32)).toInt.toNat), .int (0 : Int32), .ref 146]) (sc140_0Q (handsB_KCQ invC_KCQ)) (d := D_140) rfl rfl rfl rfl (by decide) hTY9 hI.1 hI.2.1 (by show hs.length + 542 ≤ _; omega) (fun i hi => by
        match i, hi with
        | 0, _ => exact ⟨Int32.le_toInt _, Int32.toInt_le _, rfl⟩
        | 1, _ => exact ⟨by show (0 : Int) ≤ Int32.toInt (0 : Int32); decide, by show Int32.toInt (0 : Int32) ≤ (1 : Int); decide, rfl⟩) (Or.inl ⟨rfl, ⟨0, 501, rfl, hI.2.2.1.1, by decide, by decide⟩, (Or.inr ⟨(xs (i + (1 : Int32)).toInt.toNat), [(0 : Int32)], rfl, rfl, rfl, (Or.inr ⟨(0 : Int32), [], rfl, rfl, rfl, (Or.inl ⟨rfl, ⟨146, 55, rfl, hI.2.2.1.2.2.2.2.2.2.2.1, by decide, by decide⟩, trivial⟩)⟩)⟩)⟩)).imp (fun kd r h2 h => w_useX (by decide +kernel) h)) (show (4 : Nat) = fb 0x400000000000004144400008c04c00f % 16 by decide) (by show (4 : Nat) ≤ 5; decide) (fun q => absurd q (by decide)) (by omega) (by show 8 + (5 + 11) + 257 ≤ R.locals; omega) (by show (0 : Nat) ≤ 8; decide) (by show kc + 542 ≤ _; omega) (by show ks + 5962 ≤ _; omega) (fun r9 h2 hpo hr9 => ?_) (fun x9 hs9 hx9 hpo => ?_)
    · obtain ⟨-, ⟨a6, rfl⟩, R2, hXX, hln⟩ := hpo
      have hln : h2.length ≤ hs.length + 542 := hln
      have hI2 := hI.hx hXX
      show WpN (gp g0 wp) CLS p l e R s m args below meth c Q D_0.2.2.1 kc0 ks0 1216 [some (.ref 7000000000003), some (.ref 0), some (.ref 124), some (.ref 146), some (.ref 147), some (.int i), v6, v7, v8] (h2, kc + 542, ks + 5962) [.int a6]
      refine g_storeI act (gx gp_0 (w := 0x604c210) rfl (by decide) rfl) (a := 6) (n := 1218) rfl rfl (L2 := [some (.ref 7000000000003), some (.ref 0), some (.ref 124), some (.ref 146), some (.ref 147), some (.int i), some (.int a6), v7, v8]) rfl ?_
      refine g_loadA act (gx gp_0 (w := 0x204c303) rfl (by decide) rfl) (a := 2) (n := 1219) rfl rfl rfl ?_
      refine g_loadA act (gx gp_0 (w := 0x4c403) rfl (by decide) rfl) (a := 0) (n := 1220) rfl rfl rfl ?_
      refine g_loadI act (gx gp_0 (w := 0x504c602) rfl (by decide) rfl) (a := 5) (n := 1222) rfl rfl rfl ?_
      refine g_constI act (gx gp_0 (w := 0x40000000c0000000900000004c701) rfl (by decide) rfl) (n := 1223) (x := (1 : Int32)) (by decide) rfl ?_
      refine g_iadd act (gx gp_0 (w := 0x4c80a) rfl (by decide) rfl) (n := 1224) rfl ?_
      refine g_sald act (gx gp_0 (w := 0x4c91a) rfl (by decide) rfl) (n := 1225) rfl (by omega) (by omega) ?_
      refine g_loadA act (gx gp_0 (w := 0x4ca03) rfl (by decide) rfl) (a := 0) (n := 1226) rfl rfl rfl ?_
      refine g_loadI act (gx gp_0 (w := 0x504cc02) rfl (by decide) rfl) (a := 5) (n := 1228) rfl rfl rfl ?_
      refine g_constI act (gx gp_0 (w := 0x4000000140000001100000004cd01) rfl (by decide) rfl) (n := 1229) (x := (2 : Int32)) (by decide) rfl ?_
      refine g_iadd act (gx gp_0 (w := 0x4ce0a) rfl (by decide) rfl) (n := 1230) rfl ?_
      refine g_sald act (gx gp_0 (w := 0x4cf1a) rfl (by decide) rfl) (n := 1231) rfl (by omega) (by omega) ?_
      refine g_ifEq act (gx gp_0 (w := 0x4d604d20e) rfl (by decide) rfl) (tgt := 1238) (n := 1234) rfl rfl (fun h23 => ?_) (fun h23 => ?_)
      · simp only [i_eq, show (2 : Int32).toInt = 2 from by decide, i0] at h23
        refine g_constI act (gx gp_0 (w := 0x4000000040000000100000004d701) rfl (by decide) rfl) (n := 1239) (x := (0 : Int32)) (by decide) rfl ?_
        obtain ⟨tl, wl, nl, n, ng, nr, hNW, hL1, hB, hM⟩ := hI2.num
        refine n_call tb_pres act hEnd (gx (P := G_call) gp_0 (w := 0xa000000000000c18330000b804da0f) rfl (by decide) rfl) (d' := D_184) rfl (f' := 10) (lam' := 251) (mc := 0) (ms := 0) (as := [.ref 124, .int (xs (i + (1 : Int32)).toInt.toNat), .int (0 : Int32)]) (rest := []) (b_binding hNW hB hM) (show (3 : Nat) = fb 0xa000000000000c18330000b804da0f % 16 by decide) (by show (3 : Nat) ≤ 6; decide) (fun _ => ⟨_, _, rfl, _, shp_at hB.1.1, Or.inr (show fb 0xa000000000000c18330000b804da0f >>> 68 = 10 by decide)⟩) (by omega) (by show 8 + (6 + 11) + 251 ≤ R.locals; omega) (by show (0 : Nat) ≤ 8; decide) (by show kc + 542 + 0 ≤ _; omega) (by show ks + 5962 + 0 ≤ _; omega) (fun r9 h3 hpo hr9 => ?_) (fun x9 hs9 hx9 hpo => ?_)
        · obtain ⟨-, ⟨b7, rfl⟩, hM3, f3⟩ := hpo
          have hI3 := hI2.wm f3 hM3
          have ln3 : h3.length = h2.length := f3.1
          show WpN (gp g0 wp) CLS p l e R s m args below meth c Q D_0.2.2.1 kc0 ks0 1242 [some (.ref 7000000000003), some (.ref 0), some (.ref 124), some (.ref 146), some (.ref 147), some (.int i), some (.int a6), v7, v8] (h3, kc + 542, ks + 5962) [.int b7]
          refine g_storeI act (gx gp_0 (w := 0x704dc10) rfl (by decide) rfl) (a := 7) (n := 1244) rfl rfl (L2 := [some (.ref 7000000000003), some (.ref 0), some (.ref 124), some (.ref 146), some (.ref 147), some (.int i), some (.int a6), some (.int b7), v8]) rfl ?_
          refine g_goto act (gx gp_0 (w := 0x72507) rfl (by decide) rfl) (n := 1829) rfl ?_
          exact K _ _ _ _ _ _ _ _ _ _ _ hI3 (pt_step hP (by decide) (by decide) (by rw [ln3]; omega))
        · exact absurd hpo.1 (by omega)
      · simp only [i_eq, show (2 : Int32).toInt = 2 from by decide, i0] at h23
        refine g_constI act (gx gp_0 (w := 0x40000000c0000000900000004d301) rfl (by decide) rfl) (n := 1235) (x := (1 : Int32)) (by decide) rfl ?_
        refine g_goto act (gx gp_0 (w := 0x4d707) rfl (by decide) rfl) (n := 1239) rfl ?_
        obtain ⟨tl, wl, nl, n, ng, nr, hNW, hL1, hB, hM⟩ := hI2.num
        refine n_call tb_pres act hEnd (gx (P := G_call) gp_0 (w := 0xa000000000000c18330000b804da0f) rfl (by decide) rfl) (d' := D_184) rfl (f' := 10) (lam' := 251) (mc := 0) (ms := 0) (as := [.ref 124, .int (xs (i + (1 : Int32)).toInt.toNat), .int (1 : Int32)]) (rest := []) (b_binding hNW hB hM) (show (3 : Nat) = fb 0xa000000000000c18330000b804da0f % 16 by decide) (by show (3 : Nat) ≤ 6; decide) (fun _ => ⟨_, _, rfl, _, shp_at hB.1.1, Or.inr (show fb 0xa000000000000c18330000b804da0f >>> 68 = 10 by decide)⟩) (by omega) (by show 8 + (6 + 11) + 251 ≤ R.locals; omega) (by show (0 : Nat) ≤ 8; decide) (by show kc + 542 + 0 ≤ _; omega) (by show ks + 5962 + 0 ≤ _; omega) (fun r9 h3 hpo hr9 => ?_) (fun x9 hs9 hx9 hpo => ?_)
        · obtain ⟨-, ⟨b7, rfl⟩, hM3, f3⟩ := hpo
          have hI3 := hI2.wm f3 hM3
          have ln3 : h3.length = h2.length := f3.1
          show WpN (gp g0 wp) CLS p l e R s m args below meth c Q D_0.2.2.1 kc0 ks0 1242 [some (.ref 7000000000003), some (.ref 0), some (.ref 124), some (.ref 146), some (.ref 147), some (.int i), some (.int a6), v7, v8] (h3, kc + 542, ks + 5962) [.int b7]
          refine g_storeI act (gx gp_0 (w := 0x704dc10) rfl (by decide) rfl) (a := 7) (n := 1244) rfl rfl (L2 := [some (.ref 7000000000003), some (.ref 0), some (.ref 124), some (.ref 146), some (.ref 147), some (.int i), some (.int a6), some (.int b7), v8]) rfl ?_
          refine g_goto act (gx gp_0 (w := 0x72507) rfl (by decide) rfl) (n := 1829) rfl ?_
          exact K _ _ _ _ _ _ _ _ _ _ _ hI3 (pt_step hP (by decide) (by decide) (by rw [ln3]; omega))
        · exact absurd hpo.1 (by omega)
    · exact absurd hpo.1 (by omega)
  · simp only [i_eq, show (2 : Int32).toInt = 2 from by decide, i0] at h10
    refine g_constI act (gx gp_0 (w := 0x40000000c0000000900000004b801) rfl (by decide) rfl) (n := 1208) (x := (1 : Int32)) (by decide) rfl ?_
    refine g_goto act (gx gp_0 (w := 0x4bc07) rfl (by decide) rfl) (n := 1212) rfl ?_
    refine g_loadA act (gx gp_0 (w := 0x304bd03) rfl (by decide) rfl) (a := 3) (n := 1213) rfl rfl rfl ?_
    refine n_call tb_pres act hEnd (gx (P := G_call) gp_0 (w := 0x400000000000004144400008c04c00f) rfl (by decide) rfl) (d' := D_140) rfl (f' := 11) (lam' := 257) (mc := 542) (ms := 5962) (as := [.ref 0, .int (xs (i + (1 : Int32)).toInt.toNat), .int (1 : Int32), .ref 146]) (rest := []) ((sem_useQ (c := c140_0Q) (es := [(-2147483648, 2147483647, false), (0, 1, false)]) (vs := [(xs (i + (1 : Int32)).toInt.toNat), (1 : Int32)]) (ws := [.ref 0, .int (xs (i + (1 : Int32)).toInt.toNat), .int (1 : Int32), .ref 146]) (sc140_0Q (handsB_KCQ invC_KCQ)) (d := D_140) rfl rfl rfl rfl (by decide) hTY9 hI.1 hI.2.1 (by show hs.length + 542 ≤ _; omega) (fun i hi => by
        match i, hi with
        | 0, _ => exact ⟨Int32.le_toInt _, Int32.toInt_le _, rfl⟩
        | 1, _ => exact ⟨by show (0 : Int) ≤ Int32.toInt (1 : Int32); decide, by show Int32.toInt (1 : Int32) ≤ (1 : Int); decide, rfl⟩) (Or.inl ⟨rfl, ⟨0, 501, rfl, hI.2.2.1.1, by decide, by decide⟩, (Or.inr ⟨(xs (i + (1 : Int32)).toInt.toNat), [(1 : Int32)], rfl, rfl, rfl, (Or.inr ⟨(1 : Int32), [], rfl, rfl, rfl, (Or.inl ⟨rfl, ⟨146, 55, rfl, hI.2.2.1.2.2.2.2.2.2.2.1, by decide, by decide⟩, trivial⟩)⟩)⟩)⟩)).imp (fun kd r h2 h => w_useX (by decide +kernel) h)) (show (4 : Nat) = fb 0x400000000000004144400008c04c00f % 16 by decide) (by show (4 : Nat) ≤ 5; decide) (fun q => absurd q (by decide)) (by omega) (by show 8 + (5 + 11) + 257 ≤ R.locals; omega) (by show (0 : Nat) ≤ 8; decide) (by show kc + 542 ≤ _; omega) (by show ks + 5962 ≤ _; omega) (fun r9 h2 hpo hr9 => ?_) (fun x9 hs9 hx9 hpo => ?_)
    · obtain ⟨-, ⟨a6, rfl⟩, R2, hXX, hln⟩ := hpo
      have hln : h2.length ≤ hs.length + 542 := hln
      have hI2 := hI.hx hXX
      show WpN (gp g0 wp) CLS p l e R s m args below meth c Q D_0.2.2.1 kc0 ks0 1216 [some (.ref 7000000000003), some (.ref 0), some (.ref 124), some (.ref 146), some (.ref 147), some (.int i), v6, v7, v8] (h2, kc + 542, ks + 5962) [.int a6]
      refine g_storeI act (gx gp_0 (w := 0x604c210) rfl (by decide) rfl) (a := 6) (n := 1218) rfl rfl (L2 := [some (.ref 7000000000003), some (.ref 0), some (.ref 124), some (.ref 146), some (.ref 147), some (.int i), some (.int a6), v7, v8]) rfl ?_
      refine g_loadA act (gx gp_0 (w := 0x204c303) rfl (by decide) rfl) (a := 2) (n := 1219) rfl rfl rfl ?_
      refine g_loadA act (gx gp_0 (w := 0x4c403) rfl (by decide) rfl) (a := 0) (n := 1220) rfl rfl rfl ?_
      refine g_loadI act (gx gp_0 (w := 0x504c602) rfl (by decide) rfl) (a := 5) (n := 1222) rfl rfl rfl ?_
      refine g_constI act (gx gp_0 (w := 0x40000000c0000000900000004c701) rfl (by decide) rfl) (n := 1223) (x := (1 : Int32)) (by decide) rfl ?_
      refine g_iadd act (gx gp_0 (w := 0x4c80a) rfl (by decide) rfl) (n := 1224) rfl ?_
      refine g_sald act (gx gp_0 (w := 0x4c91a) rfl (by decide) rfl) (n := 1225) rfl (by omega) (by omega) ?_
      refine g_loadA act (gx gp_0 (w := 0x4ca03) rfl (by decide) rfl) (a := 0) (n := 1226) rfl rfl rfl ?_
      refine g_loadI act (gx gp_0 (w := 0x504cc02) rfl (by decide) rfl) (a := 5) (n := 1228) rfl rfl rfl ?_
      refine g_constI act (gx gp_0 (w := 0x4000000140000001100000004cd01) rfl (by decide) rfl) (n := 1229) (x := (2 : Int32)) (by decide) rfl ?_
      refine g_iadd act (gx gp_0 (w := 0x4ce0a) rfl (by decide) rfl) (n := 1230) rfl ?_
      refine g_sald act (gx gp_0 (w := 0x4cf1a) rfl (by decide) rfl) (n := 1231) rfl (by omega) (by omega) ?_
      refine g_ifEq act (gx gp_0 (w := 0x4d604d20e) rfl (by decide) rfl) (tgt := 1238) (n := 1234) rfl rfl (fun h44 => ?_) (fun h44 => ?_)
      · simp only [i_eq, show (2 : Int32).toInt = 2 from by decide, i0] at h44
        refine g_constI act (gx gp_0 (w := 0x4000000040000000100000004d701) rfl (by decide) rfl) (n := 1239) (x := (0 : Int32)) (by decide) rfl ?_
        obtain ⟨tl, wl, nl, n, ng, nr, hNW, hL1, hB, hM⟩ := hI2.num
        refine n_call tb_pres act hEnd (gx (P := G_call) gp_0 (w := 0xa000000000000c18330000b804da0f) rfl (by decide) rfl) (d' := D_184) rfl (f' := 10) (lam' := 251) (mc := 0) (ms := 0) (as := [.ref 124, .int (xs (i + (1 : Int32)).toInt.toNat), .int (0 : Int32)]) (rest := []) (b_binding hNW hB hM) (show (3 : Nat) = fb 0xa000000000000c18330000b804da0f % 16 by decide) (by show (3 : Nat) ≤ 6; decide) (fun _ => ⟨_, _, rfl, _, shp_at hB.1.1, Or.inr (show fb 0xa000000000000c18330000b804da0f >>> 68 = 10 by decide)⟩) (by omega) (by show 8 + (6 + 11) + 251 ≤ R.locals; omega) (by show (0 : Nat) ≤ 8; decide) (by show kc + 542 + 0 ≤ _; omega) (by show ks + 5962 + 0 ≤ _; omega) (fun r9 h3 hpo hr9 => ?_) (fun x9 hs9 hx9 hpo => ?_)
        · obtain ⟨-, ⟨b7, rfl⟩, hM3, f3⟩ := hpo
          have hI3 := hI2.wm f3 hM3
          have ln3 : h3.length = h2.length := f3.1
          show WpN (gp g0 wp) CLS p l e R s m args below meth c Q D_0.2.2.1 kc0 ks0 1242 [some (.ref 7000000000003), some (.ref 0), some (.ref 124), some (.ref 146), some (.ref 147), some (.int i), some (.int a6), v7, v8] (h3, kc + 542, ks + 5962) [.int b7]
          refine g_storeI act (gx gp_0 (w := 0x704dc10) rfl (by decide) rfl) (a := 7) (n := 1244) rfl rfl (L2 := [some (.ref 7000000000003), some (.ref 0), some (.ref 124), some (.ref 146), some (.ref 147), some (.int i), some (.int a6), some (.int b7), v8]) rfl ?_
          refine g_goto act (gx gp_0 (w := 0x72507) rfl (by decide) rfl) (n := 1829) rfl ?_
          exact K _ _ _ _ _ _ _ _ _ _ _ hI3 (pt_step hP (by decide) (by decide) (by rw [ln3]; omega))
        · exact absurd hpo.1 (by omega)
      · simp only [i_eq, show (2 : Int32).toInt = 2 from by decide, i0] at h44
        refine g_constI act (gx gp_0 (w := 0x40000000c0000000900000004d301) rfl (by decide) rfl) (n := 1235) (x := (1 : Int32)) (by decide) rfl ?_
        refine g_goto act (gx gp_0 (w := 0x4d707) rfl (by decide) rfl) (n := 1239) rfl ?_
        obtain ⟨tl, wl, nl, n, ng, nr, hNW, hL1, hB, hM⟩ := hI2.num
        refine n_call tb_pres act hEnd (gx (P := G_call) gp_0 (w := 0xa000000000000c18330000b804da0f) rfl (by decide) rfl) (d' := D_184) rfl (f' := 10) (lam' := 251) (mc := 0) (ms := 0) (as := [.ref 124, .int (xs (i + (1 : Int32)).toInt.toNat), .int (1 : Int32)]) (rest := []) (b_binding hNW hB hM) (show (3 : Nat) = fb 0xa000000000000c18330000b804da0f % 16 by decide) (by show (3 : Nat) ≤ 6; decide) (fun _ => ⟨_, _, rfl, _, shp_at hB.1.1, Or.inr (show fb 0xa000000000000c18330000b804da0f >>> 68 = 10 by decide)⟩) (by omega) (by show 8 + (6 + 11) + 251 ≤ R.locals; omega) (by show (0 : Nat) ≤ 8; decide) (by show kc + 542 + 0 ≤ _; omega) (by show ks + 5962 + 0 ≤ _; omega) (fun r9 h3 hpo hr9 => ?_) (fun x9 hs9 hx9 hpo => ?_)
        · obtain ⟨-, ⟨b7, rfl⟩, hM3, f3⟩ := hpo
          have hI3 := hI2.wm f3 hM3
          have ln3 : h3.length = h2.length := f3.1
          show WpN (gp g0 wp) CLS p l e R s m args below meth c Q D_0.2.2.1 kc0 ks0 1242 [some (.ref 7000000000003), some (.ref 0), some (.ref 124), some (.ref 146), some (.ref 147), some (.int i), some (.int a6), v7, v8] (h3, kc + 542, ks + 5962) [.int b7]
          refine g_storeI act (gx gp_0 (w := 0x704dc10) rfl (by decide) rfl) (a := 7) (n := 1244) rfl rfl (L2 := [some (.ref 7000000000003), some (.ref 0), some (.ref 124), some (.ref 146), some (.ref 147), some (.int i), some (.int a6), some (.int b7), v8]) rfl ?_
          refine g_goto act (gx gp_0 (w := 0x72507) rfl (by decide) rfl) (n := 1829) rfl ?_
          exact K _ _ _ _ _ _ _ _ _ _ _ hI3 (pt_step hP (by decide) (by decide) (by rw [ln3]; omega))
        · exact absurd hpo.1 (by omega)
    · exact absurd hpo.1 (by omega)

theorem lb_1247 (hTY : TYg g0) (act : Act SSX TBL (gp g0 wp) CLS bl xs D_0 p l s m args meth c) (hEnd : EndN SSX TBL (gp g0 wp) CLS D_0 p l e R s m args below meth c Q kc0 ks0 15 616 KC9 KS9 PE) (hf : 15 ≤ R.frames) (hl : 616 ≤ R.locals) (hc : 638008 ≤ R.cells + kc0) (hsl : 7182079 ≤ R.slots + ks0) (hI : LJ hs R0 tx L ec ep) (hP : PT kc ks hs.length t) (ht : t ≤ 511) (hi : i.toInt = 6 * (t : Int)) (hib : i.toInt + 6 ≤ (bl : Int)) (K : ∀ (h2 : List CE) (R2 : List Nat) (tx2 : Nat → Int) (L2 : Nat) (ec2 ep2 : Int) (kc2 ks2 : Nat) (v6 v7 v8 : Option Value), LJ h2 R2 tx2 L2 ec2 ep2 → PT kc2 ks2 h2.length (t + 1) → WpN (gp g0 wp) CLS p l e R s m args below meth c Q D_0.2.2.1 kc0 ks0 1829 [some (.ref 7000000000003), some (.ref 0), some (.ref 124), some (.ref 146), some (.ref 147), some (.int i), v6, v7, v8] (h2, kc2, ks2) []) : WpN (gp g0 wp) CLS p l e R s m args below meth c Q D_0.2.2.1 kc0 ks0 1247 [some (.ref 7000000000003), some (.ref 0), some (.ref 124), some (.ref 146), some (.ref 147), some (.int i), v6, v7, v8] (hs, kc, ks) [] := by
  have hTY9 : TYg (gp g0 wp) := hTY
  obtain ⟨p1, p2, p3⟩ := id hP
  have j1 := i_k (i := i) (k := 1) (by omega) (by omega) (by decide) (by decide)
  have j2 := i_k (i := i) (k := 2) (by omega) (by omega) (by decide) (by decide)
  have j3 := i_k (i := i) (k := 3) (by omega) (by omega) (by decide) (by decide)
  have j4 := i_k (i := i) (k := 4) (by omega) (by omega) (by decide) (by decide)
  have j5 := i_k (i := i) (k := 5) (by omega) (by omega) (by decide) (by decide)
  rw [show (1 : Int32).toInt = 1 from rfl] at j1
  rw [show (2 : Int32).toInt = 2 from rfl] at j2
  rw [show (3 : Int32).toInt = 3 from rfl] at j3
  rw [show (4 : Int32).toInt = 4 from rfl] at j4
  rw [show (5 : Int32).toInt = 5 from rfl] at j5
  refine g_loadA act (gx gp_0 (w := 0x104e003) rfl (by decide) rfl) (a := 1) (n := 1248) rfl rfl rfl ?_
  refine g_loadA act (gx gp_0 (w := 0x4e103) rfl (by decide) rfl) (a := 0) (n := 1249) rfl rfl rfl ?_
  refine g_loadI act (gx gp_0 (w := 0x504e302) rfl (by decide) rfl) (a := 5) (n := 1251) rfl rfl rfl ?_
  refine g_constI act (gx gp_0 (w := 0x40000000c0000000900000004e401) rfl (by decide) rfl) (n := 1252) (x := (1 : Int32)) (by decide) rfl ?_
  refine g_iadd act (gx gp_0 (w := 0x4e50a) rfl (by decide) rfl) (n := 1253) rfl ?_
  refine g_sald act (gx gp_0 (w := 0x4e61a) rfl (by decide) rfl) (n := 1254) rfl (by omega) (by omega) ?_
  refine g_loadA act (gx gp_0 (w := 0x4e703) rfl (by decide) rfl) (a := 0) (n := 1255) rfl rfl rfl ?_
  refine g_loadI act (gx gp_0 (w := 0x504e902) rfl (by decide) rfl) (a := 5) (n := 1257) rfl rfl rfl ?_
  refine g_constI act (gx gp_0 (w := 0x4000000140000001100000004ea01) rfl (by decide) rfl) (n := 1258) (x := (2 : Int32)) (by decide) rfl ?_
  refine g_iadd act (gx gp_0 (w := 0x4eb0a) rfl (by decide) rfl) (n := 1259) rfl ?_
  refine g_sald act (gx gp_0 (w := 0x4ec1a) rfl (by decide) rfl) (n := 1260) rfl (by omega) (by omega) ?_
  refine g_loadA act (gx gp_0 (w := 0x304ed03) rfl (by decide) rfl) (a := 3) (n := 1261) rfl rfl rfl ?_
  refine n_call tb_pres act hEnd (gx (P := G_call) gp_0 (w := 0x400000000000004144400009b04f00f) rfl (by decide) rfl) (d' := D_155) rfl (f' := 12) (lam' := 263) (mc := 80) (ms := 880) (as := [.ref 0, .int (xs (i + (1 : Int32)).toInt.toNat), .int (xs (i + (2 : Int32)).toInt.toNat), .ref 146]) (rest := []) ((sem_useQ (c := c155_0Q) (es := [(-2147483648, 2147483647, false), (-2147483648, 2147483647, false)]) (vs := [(xs (i + (1 : Int32)).toInt.toNat), (xs (i + (2 : Int32)).toInt.toNat)]) (ws := [.ref 0, .int (xs (i + (1 : Int32)).toInt.toNat), .int (xs (i + (2 : Int32)).toInt.toNat), .ref 146]) (sc155_0Q handsC_KCQ) (d := D_155) rfl rfl rfl rfl (by decide) hTY9 hI.1 hI.2.1 (by show hs.length + 80 ≤ _; omega) (hvF (by decide) rfl) (Or.inl ⟨rfl, ⟨0, 501, rfl, hI.2.2.1.1, by decide, by decide⟩, (Or.inr ⟨(xs (i + (1 : Int32)).toInt.toNat), [(xs (i + (2 : Int32)).toInt.toNat)], rfl, rfl, rfl, (Or.inr ⟨(xs (i + (2 : Int32)).toInt.toNat), [], rfl, rfl, rfl, (Or.inl ⟨rfl, ⟨146, 55, rfl, hI.2.2.1.2.2.2.2.2.2.2.1, by decide, by decide⟩, trivial⟩)⟩)⟩)⟩)).imp (fun kd r h2 h => w_useX (by decide +kernel) h)) (show (4 : Nat) = fb 0x400000000000004144400009b04f00f % 16 by decide) (by show (4 : Nat) ≤ 5; decide) (fun q => absurd q (by decide)) (by omega) (by show 8 + (5 + 11) + 263 ≤ R.locals; omega) (by show (0 : Nat) ≤ 8; decide) (by show kc + 80 ≤ _; omega) (by show ks + 880 ≤ _; omega) (fun r9 h2 hpo hr9 => ?_) (fun x9 hs9 hx9 hpo => ?_)
  · obtain ⟨-, ⟨a6, rfl⟩, R2, hXX, hln⟩ := hpo
    have hln : h2.length ≤ hs.length + 80 := hln
    have hI2 := hI.hx hXX
    show WpN (gp g0 wp) CLS p l e R s m args below meth c Q D_0.2.2.1 kc0 ks0 1264 [some (.ref 7000000000003), some (.ref 0), some (.ref 124), some (.ref 146), some (.ref 147), some (.int i), v6, v7, v8] (h2, kc + 80, ks + 880) [.int a6]
    refine g_storeI act (gx gp_0 (w := 0x604f210) rfl (by decide) rfl) (a := 6) (n := 1266) rfl rfl (L2 := [some (.ref 7000000000003), some (.ref 0), some (.ref 124), some (.ref 146), some (.ref 147), some (.int i), some (.int a6), v7, v8]) rfl ?_
    refine g_loadA act (gx gp_0 (w := 0x204f303) rfl (by decide) rfl) (a := 2) (n := 1267) rfl rfl rfl ?_
    refine g_loadA act (gx gp_0 (w := 0x4f403) rfl (by decide) rfl) (a := 0) (n := 1268) rfl rfl rfl ?_
    refine g_loadI act (gx gp_0 (w := 0x504f602) rfl (by decide) rfl) (a := 5) (n := 1270) rfl rfl rfl ?_
    refine g_constI act (gx gp_0 (w := 0x40000000c0000000900000004f701) rfl (by decide) rfl) (n := 1271) (x := (1 : Int32)) (by decide) rfl ?_
    refine g_iadd act (gx gp_0 (w := 0x4f80a) rfl (by decide) rfl) (n := 1272) rfl ?_
    refine g_sald act (gx gp_0 (w := 0x4f91a) rfl (by decide) rfl) (n := 1273) rfl (by omega) (by omega) ?_
    refine g_loadA act (gx gp_0 (w := 0x4fa03) rfl (by decide) rfl) (a := 0) (n := 1274) rfl rfl rfl ?_
    refine g_loadI act (gx gp_0 (w := 0x504fc02) rfl (by decide) rfl) (a := 5) (n := 1276) rfl rfl rfl ?_
    refine g_constI act (gx gp_0 (w := 0x4000000140000001100000004fd01) rfl (by decide) rfl) (n := 1277) (x := (2 : Int32)) (by decide) rfl ?_
    refine g_iadd act (gx gp_0 (w := 0x4fe0a) rfl (by decide) rfl) (n := 1278) rfl ?_
    refine g_sald act (gx gp_0 (w := 0x4ff1a) rfl (by decide) rfl) (n := 1279) rfl (by omega) (by omega) ?_
    obtain ⟨tl, wl, nl, n, ng, nr, hNW, hL1, hB, hM⟩ := hI2.num
    refine n_call tb_pres act hEnd (gx (P := G_call) gp_0 (w := 0xa000000000000c14330000f005020f) rfl (by decide) rfl) (d' := D_240) rfl (f' := 10) (lam' := 251) (mc := 0) (ms := 0) (as := [.ref 124, .int (xs (i + (1 : Int32)).toInt.toNat), .int (xs (i + (2 : Int32)).toInt.toNat)]) (rest := []) (b_loadBits hNW hL1 hB hM) (show (3 : Nat) = fb 0xa000000000000c14330000f005020f % 16 by decide) (by show (3 : Nat) ≤ 5; decide) (fun _ => ⟨_, _, rfl, _, shp_at hB.1.1, Or.inr (show fb 0xa000000000000c14330000f005020f >>> 68 = 10 by decide)⟩) (by omega) (by show 8 + (5 + 11) + 251 ≤ R.locals; omega) (by show (0 : Nat) ≤ 8; decide) (by show kc + 80 + 0 ≤ _; omega) (by show ks + 880 + 0 ≤ _; omega) (fun r9 h3 hpo hr9 => ?_) (fun x9 hs9 hx9 hpo => ?_)
    · obtain ⟨-, ⟨b7, rfl⟩, hM3, f3⟩ := hpo
      have hI3 := hI2.wm f3 hM3
      have ln3 : h3.length = h2.length := f3.1
      show WpN (gp g0 wp) CLS p l e R s m args below meth c Q D_0.2.2.1 kc0 ks0 1282 [some (.ref 7000000000003), some (.ref 0), some (.ref 124), some (.ref 146), some (.ref 147), some (.int i), some (.int a6), v7, v8] (h3, kc + 80, ks + 880) [.int b7]
      refine g_storeI act (gx gp_0 (w := 0x7050410) rfl (by decide) rfl) (a := 7) (n := 1284) rfl rfl (L2 := [some (.ref 7000000000003), some (.ref 0), some (.ref 124), some (.ref 146), some (.ref 147), some (.int i), some (.int a6), some (.int b7), v8]) rfl ?_
      refine g_goto act (gx gp_0 (w := 0x72507) rfl (by decide) rfl) (n := 1829) rfl ?_
      exact K _ _ _ _ _ _ _ _ _ _ _ hI3 (pt_step hP (by decide) (by decide) (by rw [ln3]; omega))
    · exact absurd hpo.1 (by omega)
  · exact absurd hpo.1 (by omega)

theorem lb_1287 (hTY : TYg g0) (act : Act SSX TBL (gp g0 wp) CLS bl xs D_0 p l s m args meth c) (hEnd : EndN SSX TBL (gp g0 wp) CLS D_0 p l e R s m args below meth c Q kc0 ks0 15 616 KC9 KS9 PE) (hf : 15 ≤ R.frames) (hl : 616 ≤ R.locals) (hc : 638008 ≤ R.cells + kc0) (hsl : 7182079 ≤ R.slots + ks0) (hI : LJ hs R0 tx L ec ep) (hP : PT kc ks hs.length t) (ht : t ≤ 511) (hi : i.toInt = 6 * (t : Int)) (hib : i.toInt + 6 ≤ (bl : Int)) (K : ∀ (h2 : List CE) (R2 : List Nat) (tx2 : Nat → Int) (L2 : Nat) (ec2 ep2 : Int) (kc2 ks2 : Nat) (v6 v7 v8 : Option Value), LJ h2 R2 tx2 L2 ec2 ep2 → PT kc2 ks2 h2.length (t + 1) → WpN (gp g0 wp) CLS p l e R s m args below meth c Q D_0.2.2.1 kc0 ks0 1829 [some (.ref 7000000000003), some (.ref 0), some (.ref 124), some (.ref 146), some (.ref 147), some (.int i), v6, v7, v8] (h2, kc2, ks2) []) : WpN (gp g0 wp) CLS p l e R s m args below meth c Q D_0.2.2.1 kc0 ks0 1287 [some (.ref 7000000000003), some (.ref 0), some (.ref 124), some (.ref 146), some (.ref 147), some (.int i), v6, v7, v8] (hs, kc, ks) [] := by
  have hTY9 : TYg (gp g0 wp) := hTY
  obtain ⟨p1, p2, p3⟩ := id hP
  have j1 := i_k (i := i) (k := 1) (by omega) (by omega) (by decide) (by decide)
  have j2 := i_k (i := i) (k := 2) (by omega) (by omega) (by decide) (by decide)
  have j3 := i_k (i := i) (k := 3) (by omega) (by omega) (by decide) (by decide)
  have j4 := i_k (i := i) (k := 4) (by omega) (by omega) (by decide) (by decide)
  have j5 := i_k (i := i) (k := 5) (by omega) (by omega) (by decide) (by decide)
  rw [show (1 : Int32).toInt = 1 from rfl] at j1
  rw [show (2 : Int32).toInt = 2 from rfl] at j2
  rw [show (3 : Int32).toInt = 3 from rfl] at j3
  rw [show (4 : Int32).toInt = 4 from rfl] at j4
  rw [show (5 : Int32).toInt = 5 from rfl] at j5
  refine g_loadA act (gx gp_0 (w := 0x1050803) rfl (by decide) rfl) (a := 1) (n := 1288) rfl rfl rfl ?_
  refine g_loadA act (gx gp_0 (w := 0x50903) rfl (by decide) rfl) (a := 0) (n := 1289) rfl rfl rfl ?_
  refine g_loadI act (gx gp_0 (w := 0x5050b02) rfl (by decide) rfl) (a := 5) (n := 1291) rfl rfl rfl ?_
  refine g_constI act (gx gp_0 (w := 0x40000000c00000009000000050c01) rfl (by decide) rfl) (n := 1292) (x := (1 : Int32)) (by decide) rfl ?_
  refine g_iadd act (gx gp_0 (w := 0x50d0a) rfl (by decide) rfl) (n := 1293) rfl ?_
  refine g_sald act (gx gp_0 (w := 0x50e1a) rfl (by decide) rfl) (n := 1294) rfl (by omega) (by omega) ?_
  refine g_loadA act (gx gp_0 (w := 0x50f03) rfl (by decide) rfl) (a := 0) (n := 1295) rfl rfl rfl ?_
  refine g_loadI act (gx gp_0 (w := 0x5051102) rfl (by decide) rfl) (a := 5) (n := 1297) rfl rfl rfl ?_
  refine g_constI act (gx gp_0 (w := 0x40000001400000011000000051201) rfl (by decide) rfl) (n := 1298) (x := (2 : Int32)) (by decide) rfl ?_
  refine g_iadd act (gx gp_0 (w := 0x5130a) rfl (by decide) rfl) (n := 1299) rfl ?_
  refine g_sald act (gx gp_0 (w := 0x5141a) rfl (by decide) rfl) (n := 1300) rfl (by omega) (by omega) ?_
  refine g_loadA act (gx gp_0 (w := 0x51503) rfl (by decide) rfl) (a := 0) (n := 1301) rfl rfl rfl ?_
  refine g_loadI act (gx gp_0 (w := 0x5051702) rfl (by decide) rfl) (a := 5) (n := 1303) rfl rfl rfl ?_
  refine g_constI act (gx gp_0 (w := 0x40000001c00000019000000051801) rfl (by decide) rfl) (n := 1304) (x := (3 : Int32)) (by decide) rfl ?_
  refine g_iadd act (gx gp_0 (w := 0x5190a) rfl (by decide) rfl) (n := 1305) rfl ?_
  refine g_sald act (gx gp_0 (w := 0x51a1a) rfl (by decide) rfl) (n := 1306) rfl (by omega) (by omega) ?_
  refine g_loadA act (gx gp_0 (w := 0x3051b03) rfl (by decide) rfl) (a := 3) (n := 1307) rfl rfl rfl ?_
  refine n_call tb_pres act hEnd (gx (P := G_call) gp_0 (w := 0x40000000000000418550000a0051e0f) rfl (by decide) rfl) (d' := D_160) rfl (f' := 11) (lam' := 235) (mc := 19) (ms := 209) (as := [.ref 0, .int (xs (i + (1 : Int32)).toInt.toNat), .int (xs (i + (2 : Int32)).toInt.toNat), .int (xs (i + (3 : Int32)).toInt.toNat), .ref 146]) (rest := []) ((sem_useQ (c := c160_0Q) (es := [(-2147483648, 2147483647, false), (-2147483648, 2147483647, false), (-2147483648, 2147483647, false)]) (vs := [(xs (i + (1 : Int32)).toInt.toNat), (xs (i + (2 : Int32)).toInt.toNat), (xs (i + (3 : Int32)).toInt.toNat)]) (ws := [.ref 0, .int (xs (i + (1 : Int32)).toInt.toNat), .int (xs (i + (2 : Int32)).toInt.toNat), .int (xs (i + (3 : Int32)).toInt.toNat), .ref 146]) (sc160_0Q (handsB_KCQ invC_KCQ)) (d := D_160) rfl rfl rfl rfl (by decide) hTY9 hI.1 hI.2.1 (by show hs.length + 19 ≤ _; omega) (hvF (by decide) rfl) (Or.inl ⟨rfl, ⟨0, 501, rfl, hI.2.2.1.1, by decide, by decide⟩, (Or.inr ⟨(xs (i + (1 : Int32)).toInt.toNat), [(xs (i + (2 : Int32)).toInt.toNat), (xs (i + (3 : Int32)).toInt.toNat)], rfl, rfl, rfl, (Or.inr ⟨(xs (i + (2 : Int32)).toInt.toNat), [(xs (i + (3 : Int32)).toInt.toNat)], rfl, rfl, rfl, (Or.inr ⟨(xs (i + (3 : Int32)).toInt.toNat), [], rfl, rfl, rfl, (Or.inl ⟨rfl, ⟨146, 55, rfl, hI.2.2.1.2.2.2.2.2.2.2.1, by decide, by decide⟩, trivial⟩)⟩)⟩)⟩)⟩)).imp (fun kd r h2 h => w_useX (by decide +kernel) h)) (show (5 : Nat) = fb 0x40000000000000418550000a0051e0f % 16 by decide) (by show (5 : Nat) ≤ 6; decide) (fun q => absurd q (by decide)) (by omega) (by show 8 + (6 + 11) + 235 ≤ R.locals; omega) (by show (0 : Nat) ≤ 8; decide) (by show kc + 19 ≤ _; omega) (by show ks + 209 ≤ _; omega) (fun r9 h2 hpo hr9 => ?_) (fun x9 hs9 hx9 hpo => ?_)
  · obtain ⟨-, ⟨a6, rfl⟩, R2, hXX, hln⟩ := hpo
    have hln : h2.length ≤ hs.length + 19 := hln
    have hI2 := hI.hx hXX
    show WpN (gp g0 wp) CLS p l e R s m args below meth c Q D_0.2.2.1 kc0 ks0 1310 [some (.ref 7000000000003), some (.ref 0), some (.ref 124), some (.ref 146), some (.ref 147), some (.int i), v6, v7, v8] (h2, kc + 19, ks + 209) [.int a6]
    refine g_storeI act (gx gp_0 (w := 0x6052010) rfl (by decide) rfl) (a := 6) (n := 1312) rfl rfl (L2 := [some (.ref 7000000000003), some (.ref 0), some (.ref 124), some (.ref 146), some (.ref 147), some (.int i), some (.int a6), v7, v8]) rfl ?_
    refine g_loadA act (gx gp_0 (w := 0x2052103) rfl (by decide) rfl) (a := 2) (n := 1313) rfl rfl rfl ?_
    refine g_loadA act (gx gp_0 (w := 0x52203) rfl (by decide) rfl) (a := 0) (n := 1314) rfl rfl rfl ?_
    refine g_loadI act (gx gp_0 (w := 0x5052402) rfl (by decide) rfl) (a := 5) (n := 1316) rfl rfl rfl ?_
    refine g_constI act (gx gp_0 (w := 0x40000000c00000009000000052501) rfl (by decide) rfl) (n := 1317) (x := (1 : Int32)) (by decide) rfl ?_
    refine g_iadd act (gx gp_0 (w := 0x5260a) rfl (by decide) rfl) (n := 1318) rfl ?_
    refine g_sald act (gx gp_0 (w := 0x5271a) rfl (by decide) rfl) (n := 1319) rfl (by omega) (by omega) ?_
    refine g_loadA act (gx gp_0 (w := 0x52803) rfl (by decide) rfl) (a := 0) (n := 1320) rfl rfl rfl ?_
    refine g_loadI act (gx gp_0 (w := 0x5052a02) rfl (by decide) rfl) (a := 5) (n := 1322) rfl rfl rfl ?_
    refine g_constI act (gx gp_0 (w := 0x40000001400000011000000052b01) rfl (by decide) rfl) (n := 1323) (x := (2 : Int32)) (by decide) rfl ?_
    refine g_iadd act (gx gp_0 (w := 0x52c0a) rfl (by decide) rfl) (n := 1324) rfl ?_
    refine g_sald act (gx gp_0 (w := 0x52d1a) rfl (by decide) rfl) (n := 1325) rfl (by omega) (by omega) ?_
    refine g_loadA act (gx gp_0 (w := 0x52e03) rfl (by decide) rfl) (a := 0) (n := 1326) rfl rfl rfl ?_
    refine g_loadI act (gx gp_0 (w := 0x5053002) rfl (by decide) rfl) (a := 5) (n := 1328) rfl rfl rfl ?_
    refine g_constI act (gx gp_0 (w := 0x40000001c00000019000000053101) rfl (by decide) rfl) (n := 1329) (x := (3 : Int32)) (by decide) rfl ?_
    refine g_iadd act (gx gp_0 (w := 0x5320a) rfl (by decide) rfl) (n := 1330) rfl ?_
    refine g_sald act (gx gp_0 (w := 0x5331a) rfl (by decide) rfl) (n := 1331) rfl (by omega) (by omega) ?_
    obtain ⟨tl, wl, nl, n, ng, nr, hNW, hL1, hB, hM⟩ := hI2.num
    refine n_call tb_pres act hEnd (gx (P := G_call) gp_0 (w := 0xa000000000000c10440000fd05360f) rfl (by decide) rfl) (d' := D_253) rfl (f' := 11) (lam' := 275) (mc := 0) (ms := 0) (as := [.ref 124, .int (xs (i + (1 : Int32)).toInt.toNat), .int (xs (i + (2 : Int32)).toInt.toNat), .int (xs (i + (3 : Int32)).toInt.toNat)]) (rest := []) (b_price hNW hB hM) (show (4 : Nat) = fb 0xa000000000000c10440000fd05360f % 16 by decide) (by show (4 : Nat) ≤ 4; decide) (fun _ => ⟨_, _, rfl, _, shp_at hB.1.1, Or.inr (show fb 0xa000000000000c10440000fd05360f >>> 68 = 10 by decide)⟩) (by omega) (by show 8 + (4 + 11) + 275 ≤ R.locals; omega) (by show (0 : Nat) ≤ 8; decide) (by show kc + 19 + 0 ≤ _; omega) (by show ks + 209 + 0 ≤ _; omega) (fun r9 h3 hpo hr9 => ?_) (fun x9 hs9 hx9 hpo => ?_)
    · obtain ⟨-, ⟨b7, rfl⟩, hM3, f3⟩ := hpo
      have hI3 := hI2.wm f3 hM3
      have ln3 : h3.length = h2.length := f3.1
      show WpN (gp g0 wp) CLS p l e R s m args below meth c Q D_0.2.2.1 kc0 ks0 1334 [some (.ref 7000000000003), some (.ref 0), some (.ref 124), some (.ref 146), some (.ref 147), some (.int i), some (.int a6), v7, v8] (h3, kc + 19, ks + 209) [.long b7]
      refine g_storeL act (gx gp_0 (w := 0x705380b) rfl (by decide) rfl) (a := 7) (n := 1336) rfl rfl (L2 := [some (.ref 7000000000003), some (.ref 0), some (.ref 124), some (.ref 146), some (.ref 147), some (.int i), some (.int a6), some (.long b7), none]) rfl ?_
      refine g_goto act (gx gp_0 (w := 0x72507) rfl (by decide) rfl) (n := 1829) rfl ?_
      exact K _ _ _ _ _ _ _ _ _ _ _ hI3 (pt_step hP (by decide) (by decide) (by rw [ln3]; omega))
    · exact absurd hpo.1 (by omega)
  · exact absurd hpo.1 (by omega)

theorem lb_1339 (hTY : TYg g0) (act : Act SSX TBL (gp g0 wp) CLS bl xs D_0 p l s m args meth c) (hEnd : EndN SSX TBL (gp g0 wp) CLS D_0 p l e R s m args below meth c Q kc0 ks0 15 616 KC9 KS9 PE) (hf : 15 ≤ R.frames) (hl : 616 ≤ R.locals) (hc : 638008 ≤ R.cells + kc0) (hsl : 7182079 ≤ R.slots + ks0) (hI : LJ hs R0 tx L ec ep) (hP : PT kc ks hs.length t) (ht : t ≤ 511) (hi : i.toInt = 6 * (t : Int)) (hib : i.toInt + 6 ≤ (bl : Int)) (K : ∀ (h2 : List CE) (R2 : List Nat) (tx2 : Nat → Int) (L2 : Nat) (ec2 ep2 : Int) (kc2 ks2 : Nat) (v6 v7 v8 : Option Value), LJ h2 R2 tx2 L2 ec2 ep2 → PT kc2 ks2 h2.length (t + 1) → WpN (gp g0 wp) CLS p l e R s m args below meth c Q D_0.2.2.1 kc0 ks0 1829 [some (.ref 7000000000003), some (.ref 0), some (.ref 124), some (.ref 146), some (.ref 147), some (.int i), v6, v7, v8] (h2, kc2, ks2) []) : WpN (gp g0 wp) CLS p l e R s m args below meth c Q D_0.2.2.1 kc0 ks0 1339 [some (.ref 7000000000003), some (.ref 0), some (.ref 124), some (.ref 146), some (.ref 147), some (.int i), v6, v7, v8] (hs, kc, ks) [] := by
  have hTY9 : TYg (gp g0 wp) := hTY
  obtain ⟨p1, p2, p3⟩ := id hP
  have j1 := i_k (i := i) (k := 1) (by omega) (by omega) (by decide) (by decide)
  have j2 := i_k (i := i) (k := 2) (by omega) (by omega) (by decide) (by decide)
  have j3 := i_k (i := i) (k := 3) (by omega) (by omega) (by decide) (by decide)
  have j4 := i_k (i := i) (k := 4) (by omega) (by omega) (by decide) (by decide)
  have j5 := i_k (i := i) (k := 5) (by omega) (by omega) (by decide) (by decide)
  rw [show (1 : Int32).toInt = 1 from rfl] at j1
  rw [show (2 : Int32).toInt = 2 from rfl] at j2
  rw [show (3 : Int32).toInt = 3 from rfl] at j3
  rw [show (4 : Int32).toInt = 4 from rfl] at j4
  rw [show (5 : Int32).toInt = 5 from rfl] at j5
  refine g_loadA act (gx gp_0 (w := 0x1053c03) rfl (by decide) rfl) (a := 1) (n := 1340) rfl rfl rfl ?_
  refine g_loadA act (gx gp_0 (w := 0x53d03) rfl (by decide) rfl) (a := 0) (n := 1341) rfl rfl rfl ?_
  refine g_loadI act (gx gp_0 (w := 0x5053f02) rfl (by decide) rfl) (a := 5) (n := 1343) rfl rfl rfl ?_
  refine g_constI act (gx gp_0 (w := 0x40000000c00000009000000054001) rfl (by decide) rfl) (n := 1344) (x := (1 : Int32)) (by decide) rfl ?_
  refine g_iadd act (gx gp_0 (w := 0x5410a) rfl (by decide) rfl) (n := 1345) rfl ?_
  refine g_sald act (gx gp_0 (w := 0x5421a) rfl (by decide) rfl) (n := 1346) rfl (by omega) (by omega) ?_
  refine g_loadA act (gx gp_0 (w := 0x4054403) rfl (by decide) rfl) (a := 4) (n := 1348) rfl rfl rfl ?_
  refine n_call tb_pres act hEnd (gx (P := G_call) gp_0 (w := 0x400000000000004103300009c05470f) rfl (by decide) rfl) (d' := D_156) rfl (f' := 11) (lam' := 238) (mc := 40) (ms := 440) (as := [.ref 0, .int (xs (i + (1 : Int32)).toInt.toNat), .ref 147]) (rest := []) ((sem_useQ (c := c156_0Q) (es := [(-2147483648, 2147483647, false)]) (vs := [(xs (i + (1 : Int32)).toInt.toNat)]) (ws := [.ref 0, .int (xs (i + (1 : Int32)).toInt.toNat), .ref 147]) (sc156_0Q (handsB_KCQ invC_KCQ)) (d := D_156) rfl rfl rfl rfl (by decide) hTY9 hI.1 hI.2.1 (by show hs.length + 40 ≤ _; omega) (hvF (by decide) rfl) (Or.inl ⟨rfl, ⟨0, 501, rfl, hI.2.2.1.1, by decide, by decide⟩, (Or.inr ⟨(xs (i + (1 : Int32)).toInt.toNat), [], rfl, rfl, rfl, (Or.inl ⟨rfl, ⟨147, 56, rfl, hI.2.2.1.2.2.2.2.2.2.2.2, by decide, by decide⟩, trivial⟩)⟩)⟩)).imp (fun kd r h2 h => w_useX (by decide +kernel) h)) (show (3 : Nat) = fb 0x400000000000004103300009c05470f % 16 by decide) (by show (3 : Nat) ≤ 4; decide) (fun q => absurd q (by decide)) (by omega) (by show 8 + (4 + 11) + 238 ≤ R.locals; omega) (by show (0 : Nat) ≤ 8; decide) (by show kc + 40 ≤ _; omega) (by show ks + 440 ≤ _; omega) (fun r9 h2 hpo hr9 => ?_) (fun x9 hs9 hx9 hpo => ?_)
  · obtain ⟨-, ⟨a6, rfl⟩, R2, hXX, hln⟩ := hpo
    have hln : h2.length ≤ hs.length + 40 := hln
    have hI2 := hI.hx hXX
    show WpN (gp g0 wp) CLS p l e R s m args below meth c Q D_0.2.2.1 kc0 ks0 1351 [some (.ref 7000000000003), some (.ref 0), some (.ref 124), some (.ref 146), some (.ref 147), some (.int i), v6, v7, v8] (h2, kc + 40, ks + 440) [.int a6]
    refine g_storeI act (gx gp_0 (w := 0x6054910) rfl (by decide) rfl) (a := 6) (n := 1353) rfl rfl (L2 := [some (.ref 7000000000003), some (.ref 0), some (.ref 124), some (.ref 146), some (.ref 147), some (.int i), some (.int a6), v7, v8]) rfl ?_
    refine g_loadA act (gx gp_0 (w := 0x2054a03) rfl (by decide) rfl) (a := 2) (n := 1354) rfl rfl rfl ?_
    refine g_loadA act (gx gp_0 (w := 0x54b03) rfl (by decide) rfl) (a := 0) (n := 1355) rfl rfl rfl ?_
    refine g_loadI act (gx gp_0 (w := 0x5054d02) rfl (by decide) rfl) (a := 5) (n := 1357) rfl rfl rfl ?_
    refine g_constI act (gx gp_0 (w := 0x40000000c00000009000000054e01) rfl (by decide) rfl) (n := 1358) (x := (1 : Int32)) (by decide) rfl ?_
    refine g_iadd act (gx gp_0 (w := 0x54f0a) rfl (by decide) rfl) (n := 1359) rfl ?_
    refine g_sald act (gx gp_0 (w := 0x5501a) rfl (by decide) rfl) (n := 1360) rfl (by omega) (by omega) ?_
    obtain ⟨tl, wl, nl, n, ng, nr, hNW, hL1, hB, hM⟩ := hI2.num
    refine n_call tb_pres act hEnd (gx (P := G_call) gp_0 (w := 0xa000000000000c08220000f105530f) rfl (by decide) rfl) (d' := D_241) rfl (f' := 11) (lam' := 275) (mc := 0) (ms := 0) (as := [.ref 124, .int (xs (i + (1 : Int32)).toInt.toNat)]) (rest := []) (b_meanPrice hNW hB hM) (show (2 : Nat) = fb 0xa000000000000c08220000f105530f % 16 by decide) (by show (2 : Nat) ≤ 2; decide) (fun _ => ⟨_, _, rfl, _, shp_at hB.1.1, Or.inr (show fb 0xa000000000000c08220000f105530f >>> 68 = 10 by decide)⟩) (by omega) (by show 8 + (2 + 11) + 275 ≤ R.locals; omega) (by show (0 : Nat) ≤ 8; decide) (by show kc + 40 + 0 ≤ _; omega) (by show ks + 440 + 0 ≤ _; omega) (fun r9 h3 hpo hr9 => ?_) (fun x9 hs9 hx9 hpo => ?_)
    · obtain ⟨-, ⟨b7, rfl⟩, hM3, f3⟩ := hpo
      have hI3 := hI2.wm f3 hM3
      have ln3 : h3.length = h2.length := f3.1
      show WpN (gp g0 wp) CLS p l e R s m args below meth c Q D_0.2.2.1 kc0 ks0 1363 [some (.ref 7000000000003), some (.ref 0), some (.ref 124), some (.ref 146), some (.ref 147), some (.int i), some (.int a6), v7, v8] (h3, kc + 40, ks + 440) [.double b7]
      refine g_storeD act (gx gp_0 (w := 0x7055541) rfl (by decide) rfl) (a := 7) (n := 1365) rfl rfl (L2 := [some (.ref 7000000000003), some (.ref 0), some (.ref 124), some (.ref 146), some (.ref 147), some (.int i), some (.int a6), some (.double b7), none]) rfl ?_
      refine g_goto act (gx gp_0 (w := 0x72507) rfl (by decide) rfl) (n := 1829) rfl ?_
      exact K _ _ _ _ _ _ _ _ _ _ _ hI3 (pt_step hP (by decide) (by decide) (by rw [ln3]; omega))
    · exact absurd hpo.1 (by omega)
  · exact absurd hpo.1 (by omega)

theorem lb_1368 (hTY : TYg g0) (act : Act SSX TBL (gp g0 wp) CLS bl xs D_0 p l s m args meth c) (hEnd : EndN SSX TBL (gp g0 wp) CLS D_0 p l e R s m args below meth c Q kc0 ks0 15 616 KC9 KS9 PE) (hf : 15 ≤ R.frames) (hl : 616 ≤ R.locals) (hc : 638008 ≤ R.cells + kc0) (hsl : 7182079 ≤ R.slots + ks0) (hI : LJ hs R0 tx L ec ep) (hP : PT kc ks hs.length t) (ht : t ≤ 511) (hi : i.toInt = 6 * (t : Int)) (hib : i.toInt + 6 ≤ (bl : Int)) (K : ∀ (h2 : List CE) (R2 : List Nat) (tx2 : Nat → Int) (L2 : Nat) (ec2 ep2 : Int) (kc2 ks2 : Nat) (v6 v7 v8 : Option Value), LJ h2 R2 tx2 L2 ec2 ep2 → PT kc2 ks2 h2.length (t + 1) → WpN (gp g0 wp) CLS p l e R s m args below meth c Q D_0.2.2.1 kc0 ks0 1829 [some (.ref 7000000000003), some (.ref 0), some (.ref 124), some (.ref 146), some (.ref 147), some (.int i), v6, v7, v8] (h2, kc2, ks2) []) : WpN (gp g0 wp) CLS p l e R s m args below meth c Q D_0.2.2.1 kc0 ks0 1368 [some (.ref 7000000000003), some (.ref 0), some (.ref 124), some (.ref 146), some (.ref 147), some (.int i), v6, v7, v8] (hs, kc, ks) [] := by
  have hTY9 : TYg (gp g0 wp) := hTY
  obtain ⟨p1, p2, p3⟩ := id hP
  have j1 := i_k (i := i) (k := 1) (by omega) (by omega) (by decide) (by decide)
  have j2 := i_k (i := i) (k := 2) (by omega) (by omega) (by decide) (by decide)
  have j3 := i_k (i := i) (k := 3) (by omega) (by omega) (by decide) (by decide)
  have j4 := i_k (i := i) (k := 4) (by omega) (by omega) (by decide) (by decide)
  have j5 := i_k (i := i) (k := 5) (by omega) (by omega) (by decide) (by decide)
  rw [show (1 : Int32).toInt = 1 from rfl] at j1
  rw [show (2 : Int32).toInt = 2 from rfl] at j2
  rw [show (3 : Int32).toInt = 3 from rfl] at j3
  rw [show (4 : Int32).toInt = 4 from rfl] at j4
  rw [show (5 : Int32).toInt = 5 from rfl] at j5
  refine g_loadA act (gx gp_0 (w := 0x1055903) rfl (by decide) rfl) (a := 1) (n := 1369) rfl rfl rfl ?_
  refine g_loadA act (gx gp_0 (w := 0x55a03) rfl (by decide) rfl) (a := 0) (n := 1370) rfl rfl rfl ?_
  refine g_loadI act (gx gp_0 (w := 0x5055c02) rfl (by decide) rfl) (a := 5) (n := 1372) rfl rfl rfl ?_
  refine g_constI act (gx gp_0 (w := 0x40000000c00000009000000055d01) rfl (by decide) rfl) (n := 1373) (x := (1 : Int32)) (by decide) rfl ?_
  refine g_iadd act (gx gp_0 (w := 0x55e0a) rfl (by decide) rfl) (n := 1374) rfl ?_
  refine g_sald act (gx gp_0 (w := 0x55f1a) rfl (by decide) rfl) (n := 1375) rfl (by omega) (by omega) ?_
  refine g_loadA act (gx gp_0 (w := 0x3056003) rfl (by decide) rfl) (a := 3) (n := 1376) rfl rfl rfl ?_
  refine n_call tb_pres act hEnd (gx (P := G_call) gp_0 (w := 0x400000000000004103300008f05630f) rfl (by decide) rfl) (d' := D_143) rfl (f' := 11) (lam' := 236) (mc := 70) (ms := 770) (as := [.ref 0, .int (xs (i + (1 : Int32)).toInt.toNat), .ref 146]) (rest := []) ((sem_useQ (c := c143_0Q) (es := [(-2147483648, 2147483647, false)]) (vs := [(xs (i + (1 : Int32)).toInt.toNat)]) (ws := [.ref 0, .int (xs (i + (1 : Int32)).toInt.toNat), .ref 146]) (sc143_0Q (handsB_KCQ invC_KCQ)) (d := D_143) rfl rfl rfl rfl (by decide) hTY9 hI.1 hI.2.1 (by show hs.length + 70 ≤ _; omega) (hvF (by decide) rfl) (Or.inl ⟨rfl, ⟨0, 501, rfl, hI.2.2.1.1, by decide, by decide⟩, (Or.inr ⟨(xs (i + (1 : Int32)).toInt.toNat), [], rfl, rfl, rfl, (Or.inl ⟨rfl, ⟨146, 55, rfl, hI.2.2.1.2.2.2.2.2.2.2.1, by decide, by decide⟩, trivial⟩)⟩)⟩)).imp (fun kd r h2 h => w_useX (by decide +kernel) h)) (show (3 : Nat) = fb 0x400000000000004103300008f05630f % 16 by decide) (by show (3 : Nat) ≤ 4; decide) (fun q => absurd q (by decide)) (by omega) (by show 8 + (4 + 11) + 236 ≤ R.locals; omega) (by show (0 : Nat) ≤ 8; decide) (by show kc + 70 ≤ _; omega) (by show ks + 770 ≤ _; omega) (fun r9 h2 hpo hr9 => ?_) (fun x9 hs9 hx9 hpo => ?_)
  · obtain ⟨-, ⟨a6, rfl⟩, R2, hXX, hln⟩ := hpo
    have hln : h2.length ≤ hs.length + 70 := hln
    have hI2 := hI.hx hXX
    show WpN (gp g0 wp) CLS p l e R s m args below meth c Q D_0.2.2.1 kc0 ks0 1379 [some (.ref 7000000000003), some (.ref 0), some (.ref 124), some (.ref 146), some (.ref 147), some (.int i), v6, v7, v8] (h2, kc + 70, ks + 770) [.int a6]
    refine g_storeI act (gx gp_0 (w := 0x6056510) rfl (by decide) rfl) (a := 6) (n := 1381) rfl rfl (L2 := [some (.ref 7000000000003), some (.ref 0), some (.ref 124), some (.ref 146), some (.ref 147), some (.int i), some (.int a6), v7, v8]) rfl ?_
    refine g_loadA act (gx gp_0 (w := 0x2056603) rfl (by decide) rfl) (a := 2) (n := 1382) rfl rfl rfl ?_
    refine g_loadA act (gx gp_0 (w := 0x56703) rfl (by decide) rfl) (a := 0) (n := 1383) rfl rfl rfl ?_
    refine g_loadI act (gx gp_0 (w := 0x5056902) rfl (by decide) rfl) (a := 5) (n := 1385) rfl rfl rfl ?_
    refine g_constI act (gx gp_0 (w := 0x40000000c00000009000000056a01) rfl (by decide) rfl) (n := 1386) (x := (1 : Int32)) (by decide) rfl ?_
    refine g_iadd act (gx gp_0 (w := 0x56b0a) rfl (by decide) rfl) (n := 1387) rfl ?_
    refine g_sald act (gx gp_0 (w := 0x56c1a) rfl (by decide) rfl) (n := 1388) rfl (by omega) (by omega) ?_
    obtain ⟨tl, wl, nl, n, ng, nr, hNW, hL1, hB, hM⟩ := hI2.num
    refine n_call tb_pres act hEnd (gx (P := G_call) gp_0 (w := 0xa000000000000c10220000c5056f0f) rfl (by decide) rfl) (d' := D_197) rfl (f' := 11) (lam' := 275) (mc := 0) (ms := 0) (as := [.ref 124, .int (xs (i + (1 : Int32)).toInt.toNat)]) (rest := []) (b_dearestNode hNW hB hM) (show (2 : Nat) = fb 0xa000000000000c10220000c5056f0f % 16 by decide) (by show (2 : Nat) ≤ 4; decide) (fun _ => ⟨_, _, rfl, _, shp_at hB.1.1, Or.inr (show fb 0xa000000000000c10220000c5056f0f >>> 68 = 10 by decide)⟩) (by omega) (by show 8 + (4 + 11) + 275 ≤ R.locals; omega) (by show (0 : Nat) ≤ 8; decide) (by show kc + 70 + 0 ≤ _; omega) (by show ks + 770 + 0 ≤ _; omega) (fun r9 h3 hpo hr9 => ?_) (fun x9 hs9 hx9 hpo => ?_)
    · obtain ⟨-, ⟨b7, rfl⟩, hM3, f3⟩ := hpo
      have hI3 := hI2.wm f3 hM3
      have ln3 : h3.length = h2.length := f3.1
      show WpN (gp g0 wp) CLS p l e R s m args below meth c Q D_0.2.2.1 kc0 ks0 1391 [some (.ref 7000000000003), some (.ref 0), some (.ref 124), some (.ref 146), some (.ref 147), some (.int i), some (.int a6), v7, v8] (h3, kc + 70, ks + 770) [.int b7]
      refine g_storeI act (gx gp_0 (w := 0x7057110) rfl (by decide) rfl) (a := 7) (n := 1393) rfl rfl (L2 := [some (.ref 7000000000003), some (.ref 0), some (.ref 124), some (.ref 146), some (.ref 147), some (.int i), some (.int a6), some (.int b7), v8]) rfl ?_
      refine g_goto act (gx gp_0 (w := 0x72507) rfl (by decide) rfl) (n := 1829) rfl ?_
      exact K _ _ _ _ _ _ _ _ _ _ _ hI3 (pt_step hP (by decide) (by decide) (by rw [ln3]; omega))
    · exact absurd hpo.1 (by omega)
  · exact absurd hpo.1 (by omega)

theorem lb_1396 (hTY : TYg g0) (act : Act SSX TBL (gp g0 wp) CLS bl xs D_0 p l s m args meth c) (hEnd : EndN SSX TBL (gp g0 wp) CLS D_0 p l e R s m args below meth c Q kc0 ks0 15 616 KC9 KS9 PE) (hf : 15 ≤ R.frames) (hl : 616 ≤ R.locals) (hc : 638008 ≤ R.cells + kc0) (hsl : 7182079 ≤ R.slots + ks0) (hI : LJ hs R0 tx L ec ep) (hP : PT kc ks hs.length t) (ht : t ≤ 511) (hi : i.toInt = 6 * (t : Int)) (hib : i.toInt + 6 ≤ (bl : Int)) (K : ∀ (h2 : List CE) (R2 : List Nat) (tx2 : Nat → Int) (L2 : Nat) (ec2 ep2 : Int) (kc2 ks2 : Nat) (v6 v7 v8 : Option Value), LJ h2 R2 tx2 L2 ec2 ep2 → PT kc2 ks2 h2.length (t + 1) → WpN (gp g0 wp) CLS p l e R s m args below meth c Q D_0.2.2.1 kc0 ks0 1829 [some (.ref 7000000000003), some (.ref 0), some (.ref 124), some (.ref 146), some (.ref 147), some (.int i), v6, v7, v8] (h2, kc2, ks2) []) : WpN (gp g0 wp) CLS p l e R s m args below meth c Q D_0.2.2.1 kc0 ks0 1396 [some (.ref 7000000000003), some (.ref 0), some (.ref 124), some (.ref 146), some (.ref 147), some (.int i), v6, v7, v8] (hs, kc, ks) [] := by
  have hTY9 : TYg (gp g0 wp) := hTY
  obtain ⟨p1, p2, p3⟩ := id hP
  have j1 := i_k (i := i) (k := 1) (by omega) (by omega) (by decide) (by decide)
  have j2 := i_k (i := i) (k := 2) (by omega) (by omega) (by decide) (by decide)
  have j3 := i_k (i := i) (k := 3) (by omega) (by omega) (by decide) (by decide)
  have j4 := i_k (i := i) (k := 4) (by omega) (by omega) (by decide) (by decide)
  have j5 := i_k (i := i) (k := 5) (by omega) (by omega) (by decide) (by decide)
  rw [show (1 : Int32).toInt = 1 from rfl] at j1
  rw [show (2 : Int32).toInt = 2 from rfl] at j2
  rw [show (3 : Int32).toInt = 3 from rfl] at j3
  rw [show (4 : Int32).toInt = 4 from rfl] at j4
  rw [show (5 : Int32).toInt = 5 from rfl] at j5
  refine g_loadA act (gx gp_0 (w := 0x1057503) rfl (by decide) rfl) (a := 1) (n := 1397) rfl rfl rfl ?_
  refine g_loadA act (gx gp_0 (w := 0x57603) rfl (by decide) rfl) (a := 0) (n := 1398) rfl rfl rfl ?_
  refine g_loadI act (gx gp_0 (w := 0x5057802) rfl (by decide) rfl) (a := 5) (n := 1400) rfl rfl rfl ?_
  refine g_constI act (gx gp_0 (w := 0x40000000c00000009000000057901) rfl (by decide) rfl) (n := 1401) (x := (1 : Int32)) (by decide) rfl ?_
  refine g_iadd act (gx gp_0 (w := 0x57a0a) rfl (by decide) rfl) (n := 1402) rfl ?_
  refine g_sald act (gx gp_0 (w := 0x57b1a) rfl (by decide) rfl) (n := 1403) rfl (by omega) (by omega) ?_
  refine g_loadA act (gx gp_0 (w := 0x57c03) rfl (by decide) rfl) (a := 0) (n := 1404) rfl rfl rfl ?_
  refine g_loadI act (gx gp_0 (w := 0x5057e02) rfl (by decide) rfl) (a := 5) (n := 1406) rfl rfl rfl ?_
  refine g_constI act (gx gp_0 (w := 0x40000001400000011000000057f01) rfl (by decide) rfl) (n := 1407) (x := (2 : Int32)) (by decide) rfl ?_
  refine g_iadd act (gx gp_0 (w := 0x5800a) rfl (by decide) rfl) (n := 1408) rfl ?_
  refine g_sald act (gx gp_0 (w := 0x5811a) rfl (by decide) rfl) (n := 1409) rfl (by omega) (by omega) ?_
  refine g_loadA act (gx gp_0 (w := 0x58203) rfl (by decide) rfl) (a := 0) (n := 1410) rfl rfl rfl ?_
  refine g_loadI act (gx gp_0 (w := 0x5058402) rfl (by decide) rfl) (a := 5) (n := 1412) rfl rfl rfl ?_
  refine g_constI act (gx gp_0 (w := 0x40000001c00000019000000058501) rfl (by decide) rfl) (n := 1413) (x := (3 : Int32)) (by decide) rfl ?_
  refine g_iadd act (gx gp_0 (w := 0x5860a) rfl (by decide) rfl) (n := 1414) rfl ?_
  refine g_sald act (gx gp_0 (w := 0x5871a) rfl (by decide) rfl) (n := 1415) rfl (by omega) (by omega) ?_
  refine g_loadA act (gx gp_0 (w := 0x3058803) rfl (by decide) rfl) (a := 3) (n := 1416) rfl rfl rfl ?_
  refine n_call tb_pres act hEnd (gx (P := G_call) gp_0 (w := 0x40000000000000418550000a1058b0f) rfl (by decide) rfl) (d' := D_161) rfl (f' := 11) (lam' := 238) (mc := 22) (ms := 242) (as := [.ref 0, .int (xs (i + (1 : Int32)).toInt.toNat), .int (xs (i + (2 : Int32)).toInt.toNat), .int (xs (i + (3 : Int32)).toInt.toNat), .ref 146]) (rest := []) ((sem_useQ (c := c161_0Q) (es := [(-2147483648, 2147483647, false), (-2147483648, 2147483647, false), (-2147483648, 2147483647, false)]) (vs := [(xs (i + (1 : Int32)).toInt.toNat), (xs (i + (2 : Int32)).toInt.toNat), (xs (i + (3 : Int32)).toInt.toNat)]) (ws := [.ref 0, .int (xs (i + (1 : Int32)).toInt.toNat), .int (xs (i + (2 : Int32)).toInt.toNat), .int (xs (i + (3 : Int32)).toInt.toNat), .ref 146]) (sc161_0Q (handsB_KCQ invC_KCQ)) (d := D_161) rfl rfl rfl rfl (by decide) hTY9 hI.1 hI.2.1 (by show hs.length + 22 ≤ _; omega) (hvF (by decide) rfl) (Or.inl ⟨rfl, ⟨0, 501, rfl, hI.2.2.1.1, by decide, by decide⟩, (Or.inr ⟨(xs (i + (1 : Int32)).toInt.toNat), [(xs (i + (2 : Int32)).toInt.toNat), (xs (i + (3 : Int32)).toInt.toNat)], rfl, rfl, rfl, (Or.inr ⟨(xs (i + (2 : Int32)).toInt.toNat), [(xs (i + (3 : Int32)).toInt.toNat)], rfl, rfl, rfl, (Or.inr ⟨(xs (i + (3 : Int32)).toInt.toNat), [], rfl, rfl, rfl, (Or.inl ⟨rfl, ⟨146, 55, rfl, hI.2.2.1.2.2.2.2.2.2.2.1, by decide, by decide⟩, trivial⟩)⟩)⟩)⟩)⟩)).imp (fun kd r h2 h => w_useX (by decide +kernel) h)) (show (5 : Nat) = fb 0x40000000000000418550000a1058b0f % 16 by decide) (by show (5 : Nat) ≤ 6; decide) (fun q => absurd q (by decide)) (by omega) (by show 8 + (6 + 11) + 238 ≤ R.locals; omega) (by show (0 : Nat) ≤ 8; decide) (by show kc + 22 ≤ _; omega) (by show ks + 242 ≤ _; omega) (fun r9 h2 hpo hr9 => ?_) (fun x9 hs9 hx9 hpo => ?_)
  · obtain ⟨-, ⟨a6, rfl⟩, R2, hXX, hln⟩ := hpo
    have hln : h2.length ≤ hs.length + 22 := hln
    have hI2 := hI.hx hXX
    show WpN (gp g0 wp) CLS p l e R s m args below meth c Q D_0.2.2.1 kc0 ks0 1419 [some (.ref 7000000000003), some (.ref 0), some (.ref 124), some (.ref 146), some (.ref 147), some (.int i), v6, v7, v8] (h2, kc + 22, ks + 242) [.int a6]
    refine g_storeI act (gx gp_0 (w := 0x6058d10) rfl (by decide) rfl) (a := 6) (n := 1421) rfl rfl (L2 := [some (.ref 7000000000003), some (.ref 0), some (.ref 124), some (.ref 146), some (.ref 147), some (.int i), some (.int a6), v7, v8]) rfl ?_
    refine g_loadA act (gx gp_0 (w := 0x2058e03) rfl (by decide) rfl) (a := 2) (n := 1422) rfl rfl rfl ?_
    refine g_loadA act (gx gp_0 (w := 0x58f03) rfl (by decide) rfl) (a := 0) (n := 1423) rfl rfl rfl ?_
    refine g_loadI act (gx gp_0 (w := 0x5059102) rfl (by decide) rfl) (a := 5) (n := 1425) rfl rfl rfl ?_
    refine g_constI act (gx gp_0 (w := 0x40000000c00000009000000059201) rfl (by decide) rfl) (n := 1426) (x := (1 : Int32)) (by decide) rfl ?_
    refine g_iadd act (gx gp_0 (w := 0x5930a) rfl (by decide) rfl) (n := 1427) rfl ?_
    refine g_sald act (gx gp_0 (w := 0x5941a) rfl (by decide) rfl) (n := 1428) rfl (by omega) (by omega) ?_
    refine g_loadA act (gx gp_0 (w := 0x59503) rfl (by decide) rfl) (a := 0) (n := 1429) rfl rfl rfl ?_
    refine g_loadI act (gx gp_0 (w := 0x5059702) rfl (by decide) rfl) (a := 5) (n := 1431) rfl rfl rfl ?_
    refine g_constI act (gx gp_0 (w := 0x40000001400000011000000059801) rfl (by decide) rfl) (n := 1432) (x := (2 : Int32)) (by decide) rfl ?_
    refine g_iadd act (gx gp_0 (w := 0x5990a) rfl (by decide) rfl) (n := 1433) rfl ?_
    refine g_sald act (gx gp_0 (w := 0x59a1a) rfl (by decide) rfl) (n := 1434) rfl (by omega) (by omega) ?_
    refine g_loadA act (gx gp_0 (w := 0x59b03) rfl (by decide) rfl) (a := 0) (n := 1435) rfl rfl rfl ?_
    refine g_loadI act (gx gp_0 (w := 0x5059d02) rfl (by decide) rfl) (a := 5) (n := 1437) rfl rfl rfl ?_
    refine g_constI act (gx gp_0 (w := 0x40000001c00000019000000059e01) rfl (by decide) rfl) (n := 1438) (x := (3 : Int32)) (by decide) rfl ?_
    refine g_iadd act (gx gp_0 (w := 0x59f0a) rfl (by decide) rfl) (n := 1439) rfl ?_
    refine g_sald act (gx gp_0 (w := 0x5a01a) rfl (by decide) rfl) (n := 1440) rfl (by omega) (by omega) ?_
    obtain ⟨tl, wl, nl, n, ng, nr, hNW, hL1, hB, hM⟩ := hI2.num
    refine n_call tb_pres act hEnd (gx (P := G_call) gp_0 (w := 0xa000000000000c14440000ff05a30f) rfl (by decide) rfl) (d' := D_255) rfl (f' := 11) (lam' := 275) (mc := 0) (ms := 0) (as := [.ref 124, .int (xs (i + (1 : Int32)).toInt.toNat), .int (xs (i + (2 : Int32)).toInt.toNat), .int (xs (i + (3 : Int32)).toInt.toNat)]) (rest := []) (b_profit hNW hB hM) (show (4 : Nat) = fb 0xa000000000000c14440000ff05a30f % 16 by decide) (by show (4 : Nat) ≤ 5; decide) (fun _ => ⟨_, _, rfl, _, shp_at hB.1.1, Or.inr (show fb 0xa000000000000c14440000ff05a30f >>> 68 = 10 by decide)⟩) (by omega) (by show 8 + (5 + 11) + 275 ≤ R.locals; omega) (by show (0 : Nat) ≤ 8; decide) (by show kc + 22 + 0 ≤ _; omega) (by show ks + 242 + 0 ≤ _; omega) (fun r9 h3 hpo hr9 => ?_) (fun x9 hs9 hx9 hpo => ?_)
    · obtain ⟨-, ⟨b7, rfl⟩, hM3, f3⟩ := hpo
      have hI3 := hI2.wm f3 hM3
      have ln3 : h3.length = h2.length := f3.1
      show WpN (gp g0 wp) CLS p l e R s m args below meth c Q D_0.2.2.1 kc0 ks0 1443 [some (.ref 7000000000003), some (.ref 0), some (.ref 124), some (.ref 146), some (.ref 147), some (.int i), some (.int a6), v7, v8] (h3, kc + 22, ks + 242) [.long b7]
      refine g_storeL act (gx gp_0 (w := 0x705a50b) rfl (by decide) rfl) (a := 7) (n := 1445) rfl rfl (L2 := [some (.ref 7000000000003), some (.ref 0), some (.ref 124), some (.ref 146), some (.ref 147), some (.int i), some (.int a6), some (.long b7), none]) rfl ?_
      refine g_goto act (gx gp_0 (w := 0x72507) rfl (by decide) rfl) (n := 1829) rfl ?_
      exact K _ _ _ _ _ _ _ _ _ _ _ hI3 (pt_step hP (by decide) (by decide) (by rw [ln3]; omega))
    · exact absurd hpo.1 (by omega)
  · exact absurd hpo.1 (by omega)

theorem lb_1448 (hTY : TYg g0) (act : Act SSX TBL (gp g0 wp) CLS bl xs D_0 p l s m args meth c) (hEnd : EndN SSX TBL (gp g0 wp) CLS D_0 p l e R s m args below meth c Q kc0 ks0 15 616 KC9 KS9 PE) (hf : 15 ≤ R.frames) (hl : 616 ≤ R.locals) (hc : 638008 ≤ R.cells + kc0) (hsl : 7182079 ≤ R.slots + ks0) (hI : LJ hs R0 tx L ec ep) (hP : PT kc ks hs.length t) (ht : t ≤ 511) (hi : i.toInt = 6 * (t : Int)) (hib : i.toInt + 6 ≤ (bl : Int)) (K : ∀ (h2 : List CE) (R2 : List Nat) (tx2 : Nat → Int) (L2 : Nat) (ec2 ep2 : Int) (kc2 ks2 : Nat) (v6 v7 v8 : Option Value), LJ h2 R2 tx2 L2 ec2 ep2 → PT kc2 ks2 h2.length (t + 1) → WpN (gp g0 wp) CLS p l e R s m args below meth c Q D_0.2.2.1 kc0 ks0 1829 [some (.ref 7000000000003), some (.ref 0), some (.ref 124), some (.ref 146), some (.ref 147), some (.int i), v6, v7, v8] (h2, kc2, ks2) []) : WpN (gp g0 wp) CLS p l e R s m args below meth c Q D_0.2.2.1 kc0 ks0 1448 [some (.ref 7000000000003), some (.ref 0), some (.ref 124), some (.ref 146), some (.ref 147), some (.int i), v6, v7, v8] (hs, kc, ks) [] := by
  have hTY9 : TYg (gp g0 wp) := hTY
  obtain ⟨p1, p2, p3⟩ := id hP
  have j1 := i_k (i := i) (k := 1) (by omega) (by omega) (by decide) (by decide)
  have j2 := i_k (i := i) (k := 2) (by omega) (by omega) (by decide) (by decide)
  have j3 := i_k (i := i) (k := 3) (by omega) (by omega) (by decide) (by decide)
  have j4 := i_k (i := i) (k := 4) (by omega) (by omega) (by decide) (by decide)
  have j5 := i_k (i := i) (k := 5) (by omega) (by omega) (by decide) (by decide)
  rw [show (1 : Int32).toInt = 1 from rfl] at j1
  rw [show (2 : Int32).toInt = 2 from rfl] at j2
  rw [show (3 : Int32).toInt = 3 from rfl] at j3
  rw [show (4 : Int32).toInt = 4 from rfl] at j4
  rw [show (5 : Int32).toInt = 5 from rfl] at j5
  refine g_loadA act (gx gp_0 (w := 0x105a903) rfl (by decide) rfl) (a := 1) (n := 1449) rfl rfl rfl ?_
  refine g_loadA act (gx gp_0 (w := 0x5aa03) rfl (by decide) rfl) (a := 0) (n := 1450) rfl rfl rfl ?_
  refine g_loadI act (gx gp_0 (w := 0x505ac02) rfl (by decide) rfl) (a := 5) (n := 1452) rfl rfl rfl ?_
  refine g_constI act (gx gp_0 (w := 0x40000000c0000000900000005ad01) rfl (by decide) rfl) (n := 1453) (x := (1 : Int32)) (by decide) rfl ?_
  refine g_iadd act (gx gp_0 (w := 0x5ae0a) rfl (by decide) rfl) (n := 1454) rfl ?_
  refine g_sald act (gx gp_0 (w := 0x5af1a) rfl (by decide) rfl) (n := 1455) rfl (by omega) (by omega) ?_
  refine g_loadA act (gx gp_0 (w := 0x5b003) rfl (by decide) rfl) (a := 0) (n := 1456) rfl rfl rfl ?_
  refine g_loadI act (gx gp_0 (w := 0x505b202) rfl (by decide) rfl) (a := 5) (n := 1458) rfl rfl rfl ?_
  refine g_constI act (gx gp_0 (w := 0x4000000140000001100000005b301) rfl (by decide) rfl) (n := 1459) (x := (2 : Int32)) (by decide) rfl ?_
  refine g_iadd act (gx gp_0 (w := 0x5b40a) rfl (by decide) rfl) (n := 1460) rfl ?_
  refine g_sald act (gx gp_0 (w := 0x5b51a) rfl (by decide) rfl) (n := 1461) rfl (by omega) (by omega) ?_
  refine g_loadA act (gx gp_0 (w := 0x5b603) rfl (by decide) rfl) (a := 0) (n := 1462) rfl rfl rfl ?_
  refine g_loadI act (gx gp_0 (w := 0x505b802) rfl (by decide) rfl) (a := 5) (n := 1464) rfl rfl rfl ?_
  refine g_constI act (gx gp_0 (w := 0x40000001c0000001900000005b901) rfl (by decide) rfl) (n := 1465) (x := (3 : Int32)) (by decide) rfl ?_
  refine g_iadd act (gx gp_0 (w := 0x5ba0a) rfl (by decide) rfl) (n := 1466) rfl ?_
  refine g_sald act (gx gp_0 (w := 0x5bb1a) rfl (by decide) rfl) (n := 1467) rfl (by omega) (by omega) ?_
  refine g_loadA act (gx gp_0 (w := 0x305bc03) rfl (by decide) rfl) (a := 3) (n := 1468) rfl rfl rfl ?_
  refine n_call tb_pres act hEnd (gx (P := G_call) gp_0 (w := 0x40000000000000418550000a205bf0f) rfl (by decide) rfl) (d' := D_162) rfl (f' := 11) (lam' := 237) (mc := 45) (ms := 495) (as := [.ref 0, .int (xs (i + (1 : Int32)).toInt.toNat), .int (xs (i + (2 : Int32)).toInt.toNat), .int (xs (i + (3 : Int32)).toInt.toNat), .ref 146]) (rest := []) ((sem_useQ (c := c162_0Q) (es := [(-2147483648, 2147483647, false), (-2147483648, 2147483647, false), (-2147483648, 2147483647, false)]) (vs := [(xs (i + (1 : Int32)).toInt.toNat), (xs (i + (2 : Int32)).toInt.toNat), (xs (i + (3 : Int32)).toInt.toNat)]) (ws := [.ref 0, .int (xs (i + (1 : Int32)).toInt.toNat), .int (xs (i + (2 : Int32)).toInt.toNat), .int (xs (i + (3 : Int32)).toInt.toNat), .ref 146]) (sc162_0Q (handsB_KCQ invC_KCQ)) (d := D_162) rfl rfl rfl rfl (by decide) hTY9 hI.1 hI.2.1 (by show hs.length + 45 ≤ _; omega) (hvF (by decide) rfl) (Or.inl ⟨rfl, ⟨0, 501, rfl, hI.2.2.1.1, by decide, by decide⟩, (Or.inr ⟨(xs (i + (1 : Int32)).toInt.toNat), [(xs (i + (2 : Int32)).toInt.toNat), (xs (i + (3 : Int32)).toInt.toNat)], rfl, rfl, rfl, (Or.inr ⟨(xs (i + (2 : Int32)).toInt.toNat), [(xs (i + (3 : Int32)).toInt.toNat)], rfl, rfl, rfl, (Or.inr ⟨(xs (i + (3 : Int32)).toInt.toNat), [], rfl, rfl, rfl, (Or.inl ⟨rfl, ⟨146, 55, rfl, hI.2.2.1.2.2.2.2.2.2.2.1, by decide, by decide⟩, trivial⟩)⟩)⟩)⟩)⟩)).imp (fun kd r h2 h => w_useX (by decide +kernel) h)) (show (5 : Nat) = fb 0x40000000000000418550000a205bf0f % 16 by decide) (by show (5 : Nat) ≤ 6; decide) (fun q => absurd q (by decide)) (by omega) (by show 8 + (6 + 11) + 237 ≤ R.locals; omega) (by show (0 : Nat) ≤ 8; decide) (by show kc + 45 ≤ _; omega) (by show ks + 495 ≤ _; omega) (fun r9 h2 hpo hr9 => ?_) (fun x9 hs9 hx9 hpo => ?_)
  · obtain ⟨-, ⟨a6, rfl⟩, R2, hXX, hln⟩ := hpo
    have hln : h2.length ≤ hs.length + 45 := hln
    have hI2 := hI.hx hXX
    show WpN (gp g0 wp) CLS p l e R s m args below meth c Q D_0.2.2.1 kc0 ks0 1471 [some (.ref 7000000000003), some (.ref 0), some (.ref 124), some (.ref 146), some (.ref 147), some (.int i), v6, v7, v8] (h2, kc + 45, ks + 495) [.int a6]
    refine g_storeI act (gx gp_0 (w := 0x605c110) rfl (by decide) rfl) (a := 6) (n := 1473) rfl rfl (L2 := [some (.ref 7000000000003), some (.ref 0), some (.ref 124), some (.ref 146), some (.ref 147), some (.int i), some (.int a6), v7, v8]) rfl ?_
    refine g_loadA act (gx gp_0 (w := 0x205c203) rfl (by decide) rfl) (a := 2) (n := 1474) rfl rfl rfl ?_
    refine g_loadA act (gx gp_0 (w := 0x5c303) rfl (by decide) rfl) (a := 0) (n := 1475) rfl rfl rfl ?_
    refine g_loadI act (gx gp_0 (w := 0x505c502) rfl (by decide) rfl) (a := 5) (n := 1477) rfl rfl rfl ?_
    refine g_constI act (gx gp_0 (w := 0x40000000c0000000900000005c601) rfl (by decide) rfl) (n := 1478) (x := (1 : Int32)) (by decide) rfl ?_
    refine g_iadd act (gx gp_0 (w := 0x5c70a) rfl (by decide) rfl) (n := 1479) rfl ?_
    refine g_sald act (gx gp_0 (w := 0x5c81a) rfl (by decide) rfl) (n := 1480) rfl (by omega) (by omega) ?_
    refine g_loadA act (gx gp_0 (w := 0x5c903) rfl (by decide) rfl) (a := 0) (n := 1481) rfl rfl rfl ?_
    refine g_loadI act (gx gp_0 (w := 0x505cb02) rfl (by decide) rfl) (a := 5) (n := 1483) rfl rfl rfl ?_
    refine g_constI act (gx gp_0 (w := 0x4000000140000001100000005cc01) rfl (by decide) rfl) (n := 1484) (x := (2 : Int32)) (by decide) rfl ?_
    refine g_iadd act (gx gp_0 (w := 0x5cd0a) rfl (by decide) rfl) (n := 1485) rfl ?_
    refine g_sald act (gx gp_0 (w := 0x5ce1a) rfl (by decide) rfl) (n := 1486) rfl (by omega) (by omega) ?_
    refine g_loadA act (gx gp_0 (w := 0x5cf03) rfl (by decide) rfl) (a := 0) (n := 1487) rfl rfl rfl ?_
    refine g_loadI act (gx gp_0 (w := 0x505d102) rfl (by decide) rfl) (a := 5) (n := 1489) rfl rfl rfl ?_
    refine g_constI act (gx gp_0 (w := 0x40000001c0000001900000005d201) rfl (by decide) rfl) (n := 1490) (x := (3 : Int32)) (by decide) rfl ?_
    refine g_iadd act (gx gp_0 (w := 0x5d30a) rfl (by decide) rfl) (n := 1491) rfl ?_
    refine g_sald act (gx gp_0 (w := 0x5d41a) rfl (by decide) rfl) (n := 1492) rfl (by omega) (by omega) ?_
    obtain ⟨tl, wl, nl, n, ng, nr, hNW, hL1, hB, hM⟩ := hI2.num
    refine n_call tb_pres act hEnd (gx (P := G_call) gp_0 (w := 0xa000000000000c284400010705d70f) rfl (by decide) rfl) (d' := D_263) rfl (f' := 11) (lam' := 275) (mc := 0) (ms := 0) (as := [.ref 124, .int (xs (i + (1 : Int32)).toInt.toNat), .int (xs (i + (2 : Int32)).toInt.toNat), .int (xs (i + (3 : Int32)).toInt.toNat)]) (rest := []) (b_rent hNW hB hM) (show (4 : Nat) = fb 0xa000000000000c284400010705d70f % 16 by decide) (by show (4 : Nat) ≤ 10; decide) (fun _ => ⟨_, _, rfl, _, shp_at hB.1.1, Or.inr (show fb 0xa000000000000c284400010705d70f >>> 68 = 10 by decide)⟩) (by omega) (by show 8 + (10 + 11) + 275 ≤ R.locals; omega) (by show (0 : Nat) ≤ 8; decide) (by show kc + 45 + 0 ≤ _; omega) (by show ks + 495 + 0 ≤ _; omega) (fun r9 h3 hpo hr9 => ?_) (fun x9 hs9 hx9 hpo => ?_)
    · obtain ⟨-, ⟨b7, rfl⟩, hM3, f3⟩ := hpo
      have hI3 := hI2.wm f3 hM3
      have ln3 : h3.length = h2.length := f3.1
      show WpN (gp g0 wp) CLS p l e R s m args below meth c Q D_0.2.2.1 kc0 ks0 1495 [some (.ref 7000000000003), some (.ref 0), some (.ref 124), some (.ref 146), some (.ref 147), some (.int i), some (.int a6), v7, v8] (h3, kc + 45, ks + 495) [.long b7]
      refine g_storeL act (gx gp_0 (w := 0x705d90b) rfl (by decide) rfl) (a := 7) (n := 1497) rfl rfl (L2 := [some (.ref 7000000000003), some (.ref 0), some (.ref 124), some (.ref 146), some (.ref 147), some (.int i), some (.int a6), some (.long b7), none]) rfl ?_
      refine g_goto act (gx gp_0 (w := 0x72507) rfl (by decide) rfl) (n := 1829) rfl ?_
      exact K _ _ _ _ _ _ _ _ _ _ _ hI3 (pt_step hP (by decide) (by decide) (by rw [ln3]; omega))
    · exact absurd hpo.1 (by omega)
  · exact absurd hpo.1 (by omega)

theorem lb_1500 (hTY : TYg g0) (act : Act SSX TBL (gp g0 wp) CLS bl xs D_0 p l s m args meth c) (hEnd : EndN SSX TBL (gp g0 wp) CLS D_0 p l e R s m args below meth c Q kc0 ks0 15 616 KC9 KS9 PE) (hf : 15 ≤ R.frames) (hl : 616 ≤ R.locals) (hc : 638008 ≤ R.cells + kc0) (hsl : 7182079 ≤ R.slots + ks0) (hI : LJ hs R0 tx L ec ep) (hP : PT kc ks hs.length t) (ht : t ≤ 511) (hi : i.toInt = 6 * (t : Int)) (hib : i.toInt + 6 ≤ (bl : Int)) (K : ∀ (h2 : List CE) (R2 : List Nat) (tx2 : Nat → Int) (L2 : Nat) (ec2 ep2 : Int) (kc2 ks2 : Nat) (v6 v7 v8 : Option Value), LJ h2 R2 tx2 L2 ec2 ep2 → PT kc2 ks2 h2.length (t + 1) → WpN (gp g0 wp) CLS p l e R s m args below meth c Q D_0.2.2.1 kc0 ks0 1829 [some (.ref 7000000000003), some (.ref 0), some (.ref 124), some (.ref 146), some (.ref 147), some (.int i), v6, v7, v8] (h2, kc2, ks2) []) : WpN (gp g0 wp) CLS p l e R s m args below meth c Q D_0.2.2.1 kc0 ks0 1500 [some (.ref 7000000000003), some (.ref 0), some (.ref 124), some (.ref 146), some (.ref 147), some (.int i), v6, v7, v8] (hs, kc, ks) [] := by
  have hTY9 : TYg (gp g0 wp) := hTY
  obtain ⟨p1, p2, p3⟩ := id hP
  have j1 := i_k (i := i) (k := 1) (by omega) (by omega) (by decide) (by decide)
  have j2 := i_k (i := i) (k := 2) (by omega) (by omega) (by decide) (by decide)
  have j3 := i_k (i := i) (k := 3) (by omega) (by omega) (by decide) (by decide)
  have j4 := i_k (i := i) (k := 4) (by omega) (by omega) (by decide) (by decide)
  have j5 := i_k (i := i) (k := 5) (by omega) (by omega) (by decide) (by decide)
  rw [show (1 : Int32).toInt = 1 from rfl] at j1
  rw [show (2 : Int32).toInt = 2 from rfl] at j2
  rw [show (3 : Int32).toInt = 3 from rfl] at j3
  rw [show (4 : Int32).toInt = 4 from rfl] at j4
  rw [show (5 : Int32).toInt = 5 from rfl] at j5
  refine g_loadA act (gx gp_0 (w := 0x105dd03) rfl (by decide) rfl) (a := 1) (n := 1501) rfl rfl rfl ?_
  refine g_loadA act (gx gp_0 (w := 0x5de03) rfl (by decide) rfl) (a := 0) (n := 1502) rfl rfl rfl ?_
  refine g_loadI act (gx gp_0 (w := 0x505e002) rfl (by decide) rfl) (a := 5) (n := 1504) rfl rfl rfl ?_
  refine g_constI act (gx gp_0 (w := 0x40000000c0000000900000005e101) rfl (by decide) rfl) (n := 1505) (x := (1 : Int32)) (by decide) rfl ?_
  refine g_iadd act (gx gp_0 (w := 0x5e20a) rfl (by decide) rfl) (n := 1506) rfl ?_
  refine g_sald act (gx gp_0 (w := 0x5e31a) rfl (by decide) rfl) (n := 1507) rfl (by omega) (by omega) ?_
  refine g_loadA act (gx gp_0 (w := 0x5e403) rfl (by decide) rfl) (a := 0) (n := 1508) rfl rfl rfl ?_
  refine g_loadI act (gx gp_0 (w := 0x505e602) rfl (by decide) rfl) (a := 5) (n := 1510) rfl rfl rfl ?_
  refine g_constI act (gx gp_0 (w := 0x4000000140000001100000005e701) rfl (by decide) rfl) (n := 1511) (x := (2 : Int32)) (by decide) rfl ?_
  refine g_iadd act (gx gp_0 (w := 0x5e80a) rfl (by decide) rfl) (n := 1512) rfl ?_
  refine g_sald act (gx gp_0 (w := 0x5e91a) rfl (by decide) rfl) (n := 1513) rfl (by omega) (by omega) ?_
  refine g_loadA act (gx gp_0 (w := 0x305ea03) rfl (by decide) rfl) (a := 3) (n := 1514) rfl rfl rfl ?_
  refine n_call tb_pres act hEnd (gx (P := G_call) gp_0 (w := 0x40000000000000414440000aa05ed0f) rfl (by decide) rfl) (d' := D_170) rfl (f' := 11) (lam' := 245) (mc := 68) (ms := 748) (as := [.ref 0, .int (xs (i + (1 : Int32)).toInt.toNat), .int (xs (i + (2 : Int32)).toInt.toNat), .ref 146]) (rest := []) ((sem_useQ (c := c170_0Q) (es := [(-2147483648, 2147483647, false), (-2147483648, 2147483647, false)]) (vs := [(xs (i + (1 : Int32)).toInt.toNat), (xs (i + (2 : Int32)).toInt.toNat)]) (ws := [.ref 0, .int (xs (i + (1 : Int32)).toInt.toNat), .int (xs (i + (2 : Int32)).toInt.toNat), .ref 146]) (sc170_0Q (handsB_KCQ invC_KCQ)) (d := D_170) rfl rfl rfl rfl (by decide) hTY9 hI.1 hI.2.1 (by show hs.length + 68 ≤ _; omega) (hvF (by decide) rfl) (Or.inl ⟨rfl, ⟨0, 501, rfl, hI.2.2.1.1, by decide, by decide⟩, (Or.inr ⟨(xs (i + (1 : Int32)).toInt.toNat), [(xs (i + (2 : Int32)).toInt.toNat)], rfl, rfl, rfl, (Or.inr ⟨(xs (i + (2 : Int32)).toInt.toNat), [], rfl, rfl, rfl, (Or.inl ⟨rfl, ⟨146, 55, rfl, hI.2.2.1.2.2.2.2.2.2.2.1, by decide, by decide⟩, trivial⟩)⟩)⟩)⟩)).imp (fun kd r h2 h => w_useX (by decide +kernel) h)) (show (4 : Nat) = fb 0x40000000000000414440000aa05ed0f % 16 by decide) (by show (4 : Nat) ≤ 5; decide) (fun q => absurd q (by decide)) (by omega) (by show 8 + (5 + 11) + 245 ≤ R.locals; omega) (by show (0 : Nat) ≤ 8; decide) (by show kc + 68 ≤ _; omega) (by show ks + 748 ≤ _; omega) (fun r9 h2 hpo hr9 => ?_) (fun x9 hs9 hx9 hpo => ?_)
  · obtain ⟨-, ⟨a6, rfl⟩, R2, hXX, hln⟩ := hpo
    have hln : h2.length ≤ hs.length + 68 := hln
    have hI2 := hI.hx hXX
    show WpN (gp g0 wp) CLS p l e R s m args below meth c Q D_0.2.2.1 kc0 ks0 1517 [some (.ref 7000000000003), some (.ref 0), some (.ref 124), some (.ref 146), some (.ref 147), some (.int i), v6, v7, v8] (h2, kc + 68, ks + 748) [.int a6]
    refine g_storeI act (gx gp_0 (w := 0x605ef10) rfl (by decide) rfl) (a := 6) (n := 1519) rfl rfl (L2 := [some (.ref 7000000000003), some (.ref 0), some (.ref 124), some (.ref 146), some (.ref 147), some (.int i), some (.int a6), v7, v8]) rfl ?_
    refine g_loadA act (gx gp_0 (w := 0x205f003) rfl (by decide) rfl) (a := 2) (n := 1520) rfl rfl rfl ?_
    refine g_loadA act (gx gp_0 (w := 0x5f103) rfl (by decide) rfl) (a := 0) (n := 1521) rfl rfl rfl ?_
    refine g_loadI act (gx gp_0 (w := 0x505f302) rfl (by decide) rfl) (a := 5) (n := 1523) rfl rfl rfl ?_
    refine g_constI act (gx gp_0 (w := 0x40000000c0000000900000005f401) rfl (by decide) rfl) (n := 1524) (x := (1 : Int32)) (by decide) rfl ?_
    refine g_iadd act (gx gp_0 (w := 0x5f50a) rfl (by decide) rfl) (n := 1525) rfl ?_
    refine g_sald act (gx gp_0 (w := 0x5f61a) rfl (by decide) rfl) (n := 1526) rfl (by omega) (by omega) ?_
    refine g_loadA act (gx gp_0 (w := 0x5f703) rfl (by decide) rfl) (a := 0) (n := 1527) rfl rfl rfl ?_
    refine g_loadI act (gx gp_0 (w := 0x505f902) rfl (by decide) rfl) (a := 5) (n := 1529) rfl rfl rfl ?_
    refine g_constI act (gx gp_0 (w := 0x4000000140000001100000005fa01) rfl (by decide) rfl) (n := 1530) (x := (2 : Int32)) (by decide) rfl ?_
    refine g_iadd act (gx gp_0 (w := 0x5fb0a) rfl (by decide) rfl) (n := 1531) rfl ?_
    refine g_sald act (gx gp_0 (w := 0x5fc1a) rfl (by decide) rfl) (n := 1532) rfl (by omega) (by omega) ?_
    obtain ⟨tl, wl, nl, n, ng, nr, hNW, hL1, hB, hM⟩ := hI2.num
    refine n_call tb_pres act hEnd (gx (P := G_call) gp_0 (w := 0xa000000000000c0c3300011305ff0f) rfl (by decide) rfl) (d' := D_275) rfl (f' := 11) (lam' := 275) (mc := 0) (ms := 0) (as := [.ref 124, .int (xs (i + (1 : Int32)).toInt.toNat), .int (xs (i + (2 : Int32)).toInt.toNat)]) (rest := []) (b_surplus hNW hB hM) (show (3 : Nat) = fb 0xa000000000000c0c3300011305ff0f % 16 by decide) (by show (3 : Nat) ≤ 3; decide) (fun _ => ⟨_, _, rfl, _, shp_at hB.1.1, Or.inr (show fb 0xa000000000000c0c3300011305ff0f >>> 68 = 10 by decide)⟩) (by omega) (by show 8 + (3 + 11) + 275 ≤ R.locals; omega) (by show (0 : Nat) ≤ 8; decide) (by show kc + 68 + 0 ≤ _; omega) (by show ks + 748 + 0 ≤ _; omega) (fun r9 h3 hpo hr9 => ?_) (fun x9 hs9 hx9 hpo => ?_)
    · obtain ⟨-, ⟨b7, rfl⟩, hM3, f3⟩ := hpo
      have hI3 := hI2.wm f3 hM3
      have ln3 : h3.length = h2.length := f3.1
      show WpN (gp g0 wp) CLS p l e R s m args below meth c Q D_0.2.2.1 kc0 ks0 1535 [some (.ref 7000000000003), some (.ref 0), some (.ref 124), some (.ref 146), some (.ref 147), some (.int i), some (.int a6), v7, v8] (h3, kc + 68, ks + 748) [.long b7]
      refine g_storeL act (gx gp_0 (w := 0x706010b) rfl (by decide) rfl) (a := 7) (n := 1537) rfl rfl (L2 := [some (.ref 7000000000003), some (.ref 0), some (.ref 124), some (.ref 146), some (.ref 147), some (.int i), some (.int a6), some (.long b7), none]) rfl ?_
      refine g_goto act (gx gp_0 (w := 0x72507) rfl (by decide) rfl) (n := 1829) rfl ?_
      exact K _ _ _ _ _ _ _ _ _ _ _ hI3 (pt_step hP (by decide) (by decide) (by rw [ln3]; omega))
    · exact absurd hpo.1 (by omega)
  · exact absurd hpo.1 (by omega)

theorem lb_1540 (hTY : TYg g0) (act : Act SSX TBL (gp g0 wp) CLS bl xs D_0 p l s m args meth c) (hEnd : EndN SSX TBL (gp g0 wp) CLS D_0 p l e R s m args below meth c Q kc0 ks0 15 616 KC9 KS9 PE) (hf : 15 ≤ R.frames) (hl : 616 ≤ R.locals) (hc : 638008 ≤ R.cells + kc0) (hsl : 7182079 ≤ R.slots + ks0) (hI : LJ hs R0 tx L ec ep) (hP : PT kc ks hs.length t) (ht : t ≤ 511) (hi : i.toInt = 6 * (t : Int)) (hib : i.toInt + 6 ≤ (bl : Int)) (K : ∀ (h2 : List CE) (R2 : List Nat) (tx2 : Nat → Int) (L2 : Nat) (ec2 ep2 : Int) (kc2 ks2 : Nat) (v6 v7 v8 : Option Value), LJ h2 R2 tx2 L2 ec2 ep2 → PT kc2 ks2 h2.length (t + 1) → WpN (gp g0 wp) CLS p l e R s m args below meth c Q D_0.2.2.1 kc0 ks0 1829 [some (.ref 7000000000003), some (.ref 0), some (.ref 124), some (.ref 146), some (.ref 147), some (.int i), v6, v7, v8] (h2, kc2, ks2) []) : WpN (gp g0 wp) CLS p l e R s m args below meth c Q D_0.2.2.1 kc0 ks0 1540 [some (.ref 7000000000003), some (.ref 0), some (.ref 124), some (.ref 146), some (.ref 147), some (.int i), v6, v7, v8] (hs, kc, ks) [] := by
  have hTY9 : TYg (gp g0 wp) := hTY
  obtain ⟨p1, p2, p3⟩ := id hP
  have j1 := i_k (i := i) (k := 1) (by omega) (by omega) (by decide) (by decide)
  have j2 := i_k (i := i) (k := 2) (by omega) (by omega) (by decide) (by decide)
  have j3 := i_k (i := i) (k := 3) (by omega) (by omega) (by decide) (by decide)
  have j4 := i_k (i := i) (k := 4) (by omega) (by omega) (by decide) (by decide)
  have j5 := i_k (i := i) (k := 5) (by omega) (by omega) (by decide) (by decide)
  rw [show (1 : Int32).toInt = 1 from rfl] at j1
  rw [show (2 : Int32).toInt = 2 from rfl] at j2
  rw [show (3 : Int32).toInt = 3 from rfl] at j3
  rw [show (4 : Int32).toInt = 4 from rfl] at j4
  rw [show (5 : Int32).toInt = 5 from rfl] at j5
  refine g_loadA act (gx gp_0 (w := 0x1060503) rfl (by decide) rfl) (a := 1) (n := 1541) rfl rfl rfl ?_
  refine n_call tb_pres act hEnd (gx (P := G_call) gp_0 (w := 0x1000000000000c081100000306080f) rfl (by decide) rfl) (d' := D_3) rfl (f' := 1) (lam' := 26) (mc := 0) (ms := 0) (as := [.ref 0]) (rest := []) ((sem_useQ (c := c3_0Q) (es := []) (vs := []) (ws := [.ref 0]) (sc3_0Q (handsB_KCQ invC_KCQ)) (d := D_3) rfl rfl rfl rfl (by decide) hTY9 hI.1 hI.2.1 (by show hs.length + 0 ≤ _; omega) (fun i hi => absurd hi (Nat.not_lt_zero _)) (Or.inl ⟨rfl, ⟨0, 501, rfl, hI.2.2.1.1, by decide, by decide⟩, trivial⟩)).imp (fun kd r h2 h => w_useX (by decide +kernel) h)) (show (1 : Nat) = fb 0x1000000000000c081100000306080f % 16 by decide) (by show (1 : Nat) ≤ 2; decide) (fun _ => ⟨_, _, rfl, _, shp_at (ty_shpQ hI.1 hI.2.2.1.1 (by decide) (a := 0) (b := 7) rfl rfl), Or.inr (show fb 0x1000000000000c081100000306080f >>> 68 = 1 by decide)⟩) (by omega) (by show 8 + (2 + 11) + 26 ≤ R.locals; omega) (by show (0 : Nat) ≤ 8; decide) (by show kc + 0 ≤ _; omega) (by show ks + 0 ≤ _; omega) (fun r9 h2 hpo hr9 => ?_) (fun x9 hs9 hx9 hpo => ?_)
  · obtain ⟨-, ⟨a6, rfl⟩, R2, hXX, hln⟩ := hpo
    have hln : h2.length ≤ hs.length + 0 := hln
    have hI2 := hI.hx hXX
    show WpN (gp g0 wp) CLS p l e R s m args below meth c Q D_0.2.2.1 kc0 ks0 1544 [some (.ref 7000000000003), some (.ref 0), some (.ref 124), some (.ref 146), some (.ref 147), some (.int i), v6, v7, v8] (h2, kc, ks) [.int a6]
    refine g_pop act (gx gp_0 (w := 0x6093f) rfl (by decide) rfl) (n := 1545) rfl rfl ?_
    refine g_loadA act (gx gp_0 (w := 0x2060a03) rfl (by decide) rfl) (a := 2) (n := 1546) rfl rfl rfl ?_
    obtain ⟨tl, wl, nl, n, ng, nr, hNW, hL1, hB, hM⟩ := hI2.num
    refine n_call tb_pres act hEnd (gx (P := G_call) gp_0 (w := 0xa000000000000c14110000b5060d0f) rfl (by decide) rfl) (d' := D_181) rfl (f' := 6) (lam' := 169) (mc := 0) (ms := 0) (as := [.ref 124]) (rest := []) (b_areRightsFeasible hNW hB hM) (show (1 : Nat) = fb 0xa000000000000c14110000b5060d0f % 16 by decide) (by show (1 : Nat) ≤ 5; decide) (fun _ => ⟨_, _, rfl, _, shp_at hB.1.1, Or.inr (show fb 0xa000000000000c14110000b5060d0f >>> 68 = 10 by decide)⟩) (by omega) (by show 8 + (5 + 11) + 169 ≤ R.locals; omega) (by show (0 : Nat) ≤ 8; decide) (by show kc + 0 ≤ _; omega) (by show ks + 0 ≤ _; omega) (fun r9 h3 hpo hr9 => ?_) (fun x9 hs9 hx9 hpo => ?_)
    · obtain ⟨-, hz, hM3, f3⟩ := hpo
      obtain ⟨b7, rfl⟩ : ∃ x : Int32, r9 = some (.int x) := hz.elim (fun q => ⟨0, q⟩) (fun q => ⟨1, q⟩)
      have hI3 := hI2.wm f3 hM3
      have ln3 : h3.length = h2.length := f3.1
      show WpN (gp g0 wp) CLS p l e R s m args below meth c Q D_0.2.2.1 kc0 ks0 1549 [some (.ref 7000000000003), some (.ref 0), some (.ref 124), some (.ref 146), some (.ref 147), some (.int i), v6, v7, v8] (h3, kc, ks) [.int b7]
      refine g_pop act (gx gp_0 (w := 0x60e3f) rfl (by decide) rfl) (n := 1550) rfl rfl ?_
      refine g_goto act (gx gp_0 (w := 0x72507) rfl (by decide) rfl) (n := 1829) rfl ?_
      exact K _ _ _ _ _ _ _ _ _ _ _ hI3 (pt_step0 hP (by rw [ln3]; omega))
    · exact absurd hpo.1 (by omega)
  · exact absurd hpo.1 (by omega)

theorem lb_1553 (hTY : TYg g0) (act : Act SSX TBL (gp g0 wp) CLS bl xs D_0 p l s m args meth c) (hEnd : EndN SSX TBL (gp g0 wp) CLS D_0 p l e R s m args below meth c Q kc0 ks0 15 616 KC9 KS9 PE) (hf : 15 ≤ R.frames) (hl : 616 ≤ R.locals) (hc : 638008 ≤ R.cells + kc0) (hsl : 7182079 ≤ R.slots + ks0) (hI : LJ hs R0 tx L ec ep) (hP : PT kc ks hs.length t) (ht : t ≤ 511) (hi : i.toInt = 6 * (t : Int)) (hib : i.toInt + 6 ≤ (bl : Int)) (K : ∀ (h2 : List CE) (R2 : List Nat) (tx2 : Nat → Int) (L2 : Nat) (ec2 ep2 : Int) (kc2 ks2 : Nat) (v6 v7 v8 : Option Value), LJ h2 R2 tx2 L2 ec2 ep2 → PT kc2 ks2 h2.length (t + 1) → WpN (gp g0 wp) CLS p l e R s m args below meth c Q D_0.2.2.1 kc0 ks0 1829 [some (.ref 7000000000003), some (.ref 0), some (.ref 124), some (.ref 146), some (.ref 147), some (.int i), v6, v7, v8] (h2, kc2, ks2) []) : WpN (gp g0 wp) CLS p l e R s m args below meth c Q D_0.2.2.1 kc0 ks0 1553 [some (.ref 7000000000003), some (.ref 0), some (.ref 124), some (.ref 146), some (.ref 147), some (.int i), v6, v7, v8] (hs, kc, ks) [] := by
  have hTY9 : TYg (gp g0 wp) := hTY
  obtain ⟨p1, p2, p3⟩ := id hP
  have j1 := i_k (i := i) (k := 1) (by omega) (by omega) (by decide) (by decide)
  have j2 := i_k (i := i) (k := 2) (by omega) (by omega) (by decide) (by decide)
  have j3 := i_k (i := i) (k := 3) (by omega) (by omega) (by decide) (by decide)
  have j4 := i_k (i := i) (k := 4) (by omega) (by omega) (by decide) (by decide)
  have j5 := i_k (i := i) (k := 5) (by omega) (by omega) (by decide) (by decide)
  rw [show (1 : Int32).toInt = 1 from rfl] at j1
  rw [show (2 : Int32).toInt = 2 from rfl] at j2
  rw [show (3 : Int32).toInt = 3 from rfl] at j3
  rw [show (4 : Int32).toInt = 4 from rfl] at j4
  rw [show (5 : Int32).toInt = 5 from rfl] at j5
  refine g_loadA act (gx gp_0 (w := 0x1061203) rfl (by decide) rfl) (a := 1) (n := 1554) rfl rfl rfl ?_
  refine g_loadA act (gx gp_0 (w := 0x61303) rfl (by decide) rfl) (a := 0) (n := 1555) rfl rfl rfl ?_
  refine g_loadI act (gx gp_0 (w := 0x5061502) rfl (by decide) rfl) (a := 5) (n := 1557) rfl rfl rfl ?_
  refine g_constI act (gx gp_0 (w := 0x40000000c00000009000000061601) rfl (by decide) rfl) (n := 1558) (x := (1 : Int32)) (by decide) rfl ?_
  refine g_iadd act (gx gp_0 (w := 0x6170a) rfl (by decide) rfl) (n := 1559) rfl ?_
  refine g_sald act (gx gp_0 (w := 0x6181a) rfl (by decide) rfl) (n := 1560) rfl (by omega) (by omega) ?_
  refine g_loadA act (gx gp_0 (w := 0x61903) rfl (by decide) rfl) (a := 0) (n := 1561) rfl rfl rfl ?_
  refine g_loadI act (gx gp_0 (w := 0x5061b02) rfl (by decide) rfl) (a := 5) (n := 1563) rfl rfl rfl ?_
  refine g_constI act (gx gp_0 (w := 0x40000001400000011000000061c01) rfl (by decide) rfl) (n := 1564) (x := (2 : Int32)) (by decide) rfl ?_
  refine g_iadd act (gx gp_0 (w := 0x61d0a) rfl (by decide) rfl) (n := 1565) rfl ?_
  refine g_sald act (gx gp_0 (w := 0x61e1a) rfl (by decide) rfl) (n := 1566) rfl (by omega) (by omega) ?_
  refine g_loadA act (gx gp_0 (w := 0x61f03) rfl (by decide) rfl) (a := 0) (n := 1567) rfl rfl rfl ?_
  refine g_loadI act (gx gp_0 (w := 0x5062102) rfl (by decide) rfl) (a := 5) (n := 1569) rfl rfl rfl ?_
  refine g_constI act (gx gp_0 (w := 0x40000001c00000019000000062201) rfl (by decide) rfl) (n := 1570) (x := (3 : Int32)) (by decide) rfl ?_
  refine g_iadd act (gx gp_0 (w := 0x6230a) rfl (by decide) rfl) (n := 1571) rfl ?_
  refine g_sald act (gx gp_0 (w := 0x6241a) rfl (by decide) rfl) (n := 1572) rfl (by omega) (by omega) ?_
  refine g_loadA act (gx gp_0 (w := 0x3062503) rfl (by decide) rfl) (a := 3) (n := 1573) rfl rfl rfl ?_
  refine n_call tb_pres act hEnd (gx (P := G_call) gp_0 (w := 0x40000000000000418550000ab06280f) rfl (by decide) rfl) (d' := D_171) rfl (f' := 11) (lam' := 243) (mc := 25) (ms := 275) (as := [.ref 0, .int (xs (i + (1 : Int32)).toInt.toNat), .int (xs (i + (2 : Int32)).toInt.toNat), .int (xs (i + (3 : Int32)).toInt.toNat), .ref 146]) (rest := []) ((sem_useQ (c := c171_0Q) (es := [(-2147483648, 2147483647, false), (-2147483648, 2147483647, false), (-2147483648, 2147483647, false)]) (vs := [(xs (i + (1 : Int32)).toInt.toNat), (xs (i + (2 : Int32)).toInt.toNat), (xs (i + (3 : Int32)).toInt.toNat)]) (ws := [.ref 0, .int (xs (i + (1 : Int32)).toInt.toNat), .int (xs (i + (2 : Int32)).toInt.toNat), .int (xs (i + (3 : Int32)).toInt.toNat), .ref 146]) (sc171_0Q (handsB_KCQ invC_KCQ)) (d := D_171) rfl rfl rfl rfl (by decide) hTY9 hI.1 hI.2.1 (by show hs.length + 25 ≤ _; omega) (hvF (by decide) rfl) (Or.inl ⟨rfl, ⟨0, 501, rfl, hI.2.2.1.1, by decide, by decide⟩, (Or.inr ⟨(xs (i + (1 : Int32)).toInt.toNat), [(xs (i + (2 : Int32)).toInt.toNat), (xs (i + (3 : Int32)).toInt.toNat)], rfl, rfl, rfl, (Or.inr ⟨(xs (i + (2 : Int32)).toInt.toNat), [(xs (i + (3 : Int32)).toInt.toNat)], rfl, rfl, rfl, (Or.inr ⟨(xs (i + (3 : Int32)).toInt.toNat), [], rfl, rfl, rfl, (Or.inl ⟨rfl, ⟨146, 55, rfl, hI.2.2.1.2.2.2.2.2.2.2.1, by decide, by decide⟩, trivial⟩)⟩)⟩)⟩)⟩)).imp (fun kd r h2 h => w_useX (by decide +kernel) h)) (show (5 : Nat) = fb 0x40000000000000418550000ab06280f % 16 by decide) (by show (5 : Nat) ≤ 6; decide) (fun q => absurd q (by decide)) (by omega) (by show 8 + (6 + 11) + 243 ≤ R.locals; omega) (by show (0 : Nat) ≤ 8; decide) (by show kc + 25 ≤ _; omega) (by show ks + 275 ≤ _; omega) (fun r9 h2 hpo hr9 => ?_) (fun x9 hs9 hx9 hpo => ?_)
  · obtain ⟨-, ⟨a6, rfl⟩, R2, hXX, hln⟩ := hpo
    have hln : h2.length ≤ hs.length + 25 := hln
    have hI2 := hI.hx hXX
    show WpN (gp g0 wp) CLS p l e R s m args below meth c Q D_0.2.2.1 kc0 ks0 1576 [some (.ref 7000000000003), some (.ref 0), some (.ref 124), some (.ref 146), some (.ref 147), some (.int i), v6, v7, v8] (h2, kc + 25, ks + 275) [.int a6]
    refine g_storeI act (gx gp_0 (w := 0x6062a10) rfl (by decide) rfl) (a := 6) (n := 1578) rfl rfl (L2 := [some (.ref 7000000000003), some (.ref 0), some (.ref 124), some (.ref 146), some (.ref 147), some (.int i), some (.int a6), v7, v8]) rfl ?_
    refine g_loadA act (gx gp_0 (w := 0x2062b03) rfl (by decide) rfl) (a := 2) (n := 1579) rfl rfl rfl ?_
    refine g_loadA act (gx gp_0 (w := 0x62c03) rfl (by decide) rfl) (a := 0) (n := 1580) rfl rfl rfl ?_
    refine g_loadI act (gx gp_0 (w := 0x5062e02) rfl (by decide) rfl) (a := 5) (n := 1582) rfl rfl rfl ?_
    refine g_constI act (gx gp_0 (w := 0x40000000c00000009000000062f01) rfl (by decide) rfl) (n := 1583) (x := (1 : Int32)) (by decide) rfl ?_
    refine g_iadd act (gx gp_0 (w := 0x6300a) rfl (by decide) rfl) (n := 1584) rfl ?_
    refine g_sald act (gx gp_0 (w := 0x6311a) rfl (by decide) rfl) (n := 1585) rfl (by omega) (by omega) ?_
    refine g_loadA act (gx gp_0 (w := 0x63203) rfl (by decide) rfl) (a := 0) (n := 1586) rfl rfl rfl ?_
    refine g_loadI act (gx gp_0 (w := 0x5063402) rfl (by decide) rfl) (a := 5) (n := 1588) rfl rfl rfl ?_
    refine g_constI act (gx gp_0 (w := 0x40000001400000011000000063501) rfl (by decide) rfl) (n := 1589) (x := (2 : Int32)) (by decide) rfl ?_
    refine g_iadd act (gx gp_0 (w := 0x6360a) rfl (by decide) rfl) (n := 1590) rfl ?_
    refine g_sald act (gx gp_0 (w := 0x6371a) rfl (by decide) rfl) (n := 1591) rfl (by omega) (by omega) ?_
    refine g_loadA act (gx gp_0 (w := 0x63803) rfl (by decide) rfl) (a := 0) (n := 1592) rfl rfl rfl ?_
    refine g_loadI act (gx gp_0 (w := 0x5063a02) rfl (by decide) rfl) (a := 5) (n := 1594) rfl rfl rfl ?_
    refine g_constI act (gx gp_0 (w := 0x40000001c00000019000000063b01) rfl (by decide) rfl) (n := 1595) (x := (3 : Int32)) (by decide) rfl ?_
    refine g_iadd act (gx gp_0 (w := 0x63c0a) rfl (by decide) rfl) (n := 1596) rfl ?_
    refine g_sald act (gx gp_0 (w := 0x63d1a) rfl (by decide) rfl) (n := 1597) rfl (by omega) (by omega) ?_
    obtain ⟨tl, wl, nl, n, ng, nr, hNW, hL1, hB, hM⟩ := hI2.num
    refine n_call tb_pres act hEnd (gx (P := G_call) gp_0 (w := 0xa000000000000c144400011706400f) rfl (by decide) rfl) (d' := D_279) rfl (f' := 11) (lam' := 275) (mc := 0) (ms := 0) (as := [.ref 124, .int (xs (i + (1 : Int32)).toInt.toNat), .int (xs (i + (2 : Int32)).toInt.toNat), .int (xs (i + (3 : Int32)).toInt.toNat)]) (rest := []) (b_target hNW hB hM) (show (4 : Nat) = fb 0xa000000000000c144400011706400f % 16 by decide) (by show (4 : Nat) ≤ 5; decide) (fun _ => ⟨_, _, rfl, _, shp_at hB.1.1, Or.inr (show fb 0xa000000000000c144400011706400f >>> 68 = 10 by decide)⟩) (by omega) (by show 8 + (5 + 11) + 275 ≤ R.locals; omega) (by show (0 : Nat) ≤ 8; decide) (by show kc + 25 + 0 ≤ _; omega) (by show ks + 275 + 0 ≤ _; omega) (fun r9 h3 hpo hr9 => ?_) (fun x9 hs9 hx9 hpo => ?_)
    · obtain ⟨-, ⟨b7, rfl⟩, hM3, f3⟩ := hpo
      have hI3 := hI2.wm f3 hM3
      have ln3 : h3.length = h2.length := f3.1
      show WpN (gp g0 wp) CLS p l e R s m args below meth c Q D_0.2.2.1 kc0 ks0 1600 [some (.ref 7000000000003), some (.ref 0), some (.ref 124), some (.ref 146), some (.ref 147), some (.int i), some (.int a6), v7, v8] (h3, kc + 25, ks + 275) [.long b7]
      refine g_storeL act (gx gp_0 (w := 0x706420b) rfl (by decide) rfl) (a := 7) (n := 1602) rfl rfl (L2 := [some (.ref 7000000000003), some (.ref 0), some (.ref 124), some (.ref 146), some (.ref 147), some (.int i), some (.int a6), some (.long b7), none]) rfl ?_
      refine g_goto act (gx gp_0 (w := 0x72507) rfl (by decide) rfl) (n := 1829) rfl ?_
      exact K _ _ _ _ _ _ _ _ _ _ _ hI3 (pt_step hP (by decide) (by decide) (by rw [ln3]; omega))
    · exact absurd hpo.1 (by omega)
  · exact absurd hpo.1 (by omega)

theorem lb_1605 (hTY : TYg g0) (act : Act SSX TBL (gp g0 wp) CLS bl xs D_0 p l s m args meth c) (hEnd : EndN SSX TBL (gp g0 wp) CLS D_0 p l e R s m args below meth c Q kc0 ks0 15 616 KC9 KS9 PE) (hf : 15 ≤ R.frames) (hl : 616 ≤ R.locals) (hc : 638008 ≤ R.cells + kc0) (hsl : 7182079 ≤ R.slots + ks0) (hI : LJ hs R0 tx L ec ep) (hP : PT kc ks hs.length t) (ht : t ≤ 511) (hi : i.toInt = 6 * (t : Int)) (hib : i.toInt + 6 ≤ (bl : Int)) (K : ∀ (h2 : List CE) (R2 : List Nat) (tx2 : Nat → Int) (L2 : Nat) (ec2 ep2 : Int) (kc2 ks2 : Nat) (v6 v7 v8 : Option Value), LJ h2 R2 tx2 L2 ec2 ep2 → PT kc2 ks2 h2.length (t + 1) → WpN (gp g0 wp) CLS p l e R s m args below meth c Q D_0.2.2.1 kc0 ks0 1829 [some (.ref 7000000000003), some (.ref 0), some (.ref 124), some (.ref 146), some (.ref 147), some (.int i), v6, v7, v8] (h2, kc2, ks2) []) : WpN (gp g0 wp) CLS p l e R s m args below meth c Q D_0.2.2.1 kc0 ks0 1605 [some (.ref 7000000000003), some (.ref 0), some (.ref 124), some (.ref 146), some (.ref 147), some (.int i), v6, v7, v8] (hs, kc, ks) [] := by
  have hTY9 : TYg (gp g0 wp) := hTY
  obtain ⟨p1, p2, p3⟩ := id hP
  have j1 := i_k (i := i) (k := 1) (by omega) (by omega) (by decide) (by decide)
  have j2 := i_k (i := i) (k := 2) (by omega) (by omega) (by decide) (by decide)
  have j3 := i_k (i := i) (k := 3) (by omega) (by omega) (by decide) (by decide)
  have j4 := i_k (i := i) (k := 4) (by omega) (by omega) (by decide) (by decide)
  have j5 := i_k (i := i) (k := 5) (by omega) (by omega) (by decide) (by decide)
  rw [show (1 : Int32).toInt = 1 from rfl] at j1
  rw [show (2 : Int32).toInt = 2 from rfl] at j2
  rw [show (3 : Int32).toInt = 3 from rfl] at j3
  rw [show (4 : Int32).toInt = 4 from rfl] at j4
  rw [show (5 : Int32).toInt = 5 from rfl] at j5
  refine g_loadA act (gx gp_0 (w := 0x1064603) rfl (by decide) rfl) (a := 1) (n := 1606) rfl rfl rfl ?_
  refine g_loadA act (gx gp_0 (w := 0x64703) rfl (by decide) rfl) (a := 0) (n := 1607) rfl rfl rfl ?_
  refine g_loadI act (gx gp_0 (w := 0x5064902) rfl (by decide) rfl) (a := 5) (n := 1609) rfl rfl rfl ?_
  refine g_constI act (gx gp_0 (w := 0x40000000c00000009000000064a01) rfl (by decide) rfl) (n := 1610) (x := (1 : Int32)) (by decide) rfl ?_
  refine g_iadd act (gx gp_0 (w := 0x64b0a) rfl (by decide) rfl) (n := 1611) rfl ?_
  refine g_sald act (gx gp_0 (w := 0x64c1a) rfl (by decide) rfl) (n := 1612) rfl (by omega) (by omega) ?_
  refine g_loadA act (gx gp_0 (w := 0x64d03) rfl (by decide) rfl) (a := 0) (n := 1613) rfl rfl rfl ?_
  refine g_loadI act (gx gp_0 (w := 0x5064f02) rfl (by decide) rfl) (a := 5) (n := 1615) rfl rfl rfl ?_
  refine g_constI act (gx gp_0 (w := 0x40000001400000011000000065001) rfl (by decide) rfl) (n := 1616) (x := (2 : Int32)) (by decide) rfl ?_
  refine g_iadd act (gx gp_0 (w := 0x6510a) rfl (by decide) rfl) (n := 1617) rfl ?_
  refine g_sald act (gx gp_0 (w := 0x6521a) rfl (by decide) rfl) (n := 1618) rfl (by omega) (by omega) ?_
  refine g_loadA act (gx gp_0 (w := 0x3065303) rfl (by decide) rfl) (a := 3) (n := 1619) rfl rfl rfl ?_
  refine n_call tb_pres act hEnd (gx (P := G_call) gp_0 (w := 0x400000000000004144400009406560f) rfl (by decide) rfl) (d' := D_148) rfl (f' := 12) (lam' := 269) (mc := 193) (ms := 2123) (as := [.ref 0, .int (xs (i + (1 : Int32)).toInt.toNat), .int (xs (i + (2 : Int32)).toInt.toNat), .ref 146]) (rest := []) ((sem_useQ (c := c148_0Q) (es := [(-2147483648, 2147483647, false), (-2147483648, 2147483647, false)]) (vs := [(xs (i + (1 : Int32)).toInt.toNat), (xs (i + (2 : Int32)).toInt.toNat)]) (ws := [.ref 0, .int (xs (i + (1 : Int32)).toInt.toNat), .int (xs (i + (2 : Int32)).toInt.toNat), .ref 146]) (sc148_0Q (handsB_KCQ invC_KCQ)) (d := D_148) rfl rfl rfl rfl (by decide) hTY9 hI.1 hI.2.1 (by show hs.length + 193 ≤ _; omega) (hvF (by decide) rfl) (Or.inl ⟨rfl, ⟨0, 501, rfl, hI.2.2.1.1, by decide, by decide⟩, (Or.inr ⟨(xs (i + (1 : Int32)).toInt.toNat), [(xs (i + (2 : Int32)).toInt.toNat)], rfl, rfl, rfl, (Or.inr ⟨(xs (i + (2 : Int32)).toInt.toNat), [], rfl, rfl, rfl, (Or.inl ⟨rfl, ⟨146, 55, rfl, hI.2.2.1.2.2.2.2.2.2.2.1, by decide, by decide⟩, trivial⟩)⟩)⟩)⟩)).imp (fun kd r h2 h => w_useX (by decide +kernel) h)) (show (4 : Nat) = fb 0x400000000000004144400009406560f % 16 by decide) (by show (4 : Nat) ≤ 5; decide) (fun q => absurd q (by decide)) (by omega) (by show 8 + (5 + 11) + 269 ≤ R.locals; omega) (by show (0 : Nat) ≤ 8; decide) (by show kc + 193 ≤ _; omega) (by show ks + 2123 ≤ _; omega) (fun r9 h2 hpo hr9 => ?_) (fun x9 hs9 hx9 hpo => ?_)
  · obtain ⟨-, ⟨a6, rfl⟩, R2, hXX, hln⟩ := hpo
    have hln : h2.length ≤ hs.length + 193 := hln
    have hI2 := hI.hx hXX
    show WpN (gp g0 wp) CLS p l e R s m args below meth c Q D_0.2.2.1 kc0 ks0 1622 [some (.ref 7000000000003), some (.ref 0), some (.ref 124), some (.ref 146), some (.ref 147), some (.int i), v6, v7, v8] (h2, kc + 193, ks + 2123) [.int a6]
    refine g_storeI act (gx gp_0 (w := 0x6065810) rfl (by decide) rfl) (a := 6) (n := 1624) rfl rfl (L2 := [some (.ref 7000000000003), some (.ref 0), some (.ref 124), some (.ref 146), some (.ref 147), some (.int i), some (.int a6), v7, v8]) rfl ?_
    refine g_loadA act (gx gp_0 (w := 0x2065903) rfl (by decide) rfl) (a := 2) (n := 1625) rfl rfl rfl ?_
    refine g_loadA act (gx gp_0 (w := 0x65a03) rfl (by decide) rfl) (a := 0) (n := 1626) rfl rfl rfl ?_
    refine g_loadI act (gx gp_0 (w := 0x5065c02) rfl (by decide) rfl) (a := 5) (n := 1628) rfl rfl rfl ?_
    refine g_constI act (gx gp_0 (w := 0x40000000c00000009000000065d01) rfl (by decide) rfl) (n := 1629) (x := (1 : Int32)) (by decide) rfl ?_
    refine g_iadd act (gx gp_0 (w := 0x65e0a) rfl (by decide) rfl) (n := 1630) rfl ?_
    refine g_sald act (gx gp_0 (w := 0x65f1a) rfl (by decide) rfl) (n := 1631) rfl (by omega) (by omega) ?_
    refine g_loadA act (gx gp_0 (w := 0x66003) rfl (by decide) rfl) (a := 0) (n := 1632) rfl rfl rfl ?_
    refine g_loadI act (gx gp_0 (w := 0x5066202) rfl (by decide) rfl) (a := 5) (n := 1634) rfl rfl rfl ?_
    refine g_constI act (gx gp_0 (w := 0x40000001400000011000000066301) rfl (by decide) rfl) (n := 1635) (x := (2 : Int32)) (by decide) rfl ?_
    refine g_iadd act (gx gp_0 (w := 0x6640a) rfl (by decide) rfl) (n := 1636) rfl ?_
    refine g_sald act (gx gp_0 (w := 0x6651a) rfl (by decide) rfl) (n := 1637) rfl (by omega) (by omega) ?_
    obtain ⟨tl, wl, nl, n, ng, nr, hNW, hL1, hB, hM⟩ := hI2.num
    refine n_call tb_pres act hEnd (gx (P := G_call) gp_0 (w := 0xa000000000000c0c330000d306680f) rfl (by decide) rfl) (d' := D_211) rfl (f' := 11) (lam' := 275) (mc := 0) (ms := 0) (as := [.ref 124, .int (xs (i + (1 : Int32)).toInt.toNat), .int (xs (i + (2 : Int32)).toInt.toNat)]) (rest := []) (b_fundingRatio hNW hB hM) (show (3 : Nat) = fb 0xa000000000000c0c330000d306680f % 16 by decide) (by show (3 : Nat) ≤ 3; decide) (fun _ => ⟨_, _, rfl, _, shp_at hB.1.1, Or.inr (show fb 0xa000000000000c0c330000d306680f >>> 68 = 10 by decide)⟩) (by omega) (by show 8 + (3 + 11) + 275 ≤ R.locals; omega) (by show (0 : Nat) ≤ 8; decide) (by show kc + 193 + 0 ≤ _; omega) (by show ks + 2123 + 0 ≤ _; omega) (fun r9 h3 hpo hr9 => ?_) (fun x9 hs9 hx9 hpo => ?_)
    · obtain ⟨-, ⟨b7, rfl⟩, hM3, f3⟩ := hpo
      have hI3 := hI2.wm f3 hM3
      have ln3 : h3.length = h2.length := f3.1
      show WpN (gp g0 wp) CLS p l e R s m args below meth c Q D_0.2.2.1 kc0 ks0 1640 [some (.ref 7000000000003), some (.ref 0), some (.ref 124), some (.ref 146), some (.ref 147), some (.int i), some (.int a6), v7, v8] (h3, kc + 193, ks + 2123) [.long b7]
      refine g_storeL act (gx gp_0 (w := 0x7066a0b) rfl (by decide) rfl) (a := 7) (n := 1642) rfl rfl (L2 := [some (.ref 7000000000003), some (.ref 0), some (.ref 124), some (.ref 146), some (.ref 147), some (.int i), some (.int a6), some (.long b7), none]) rfl ?_
      refine g_goto act (gx gp_0 (w := 0x72507) rfl (by decide) rfl) (n := 1829) rfl ?_
      exact K _ _ _ _ _ _ _ _ _ _ _ hI3 (pt_step hP (by decide) (by decide) (by rw [ln3]; omega))
    · exact absurd hpo.1 (by omega)
  · exact absurd hpo.1 (by omega)

theorem lb_1645 (hTY : TYg g0) (act : Act SSX TBL (gp g0 wp) CLS bl xs D_0 p l s m args meth c) (hEnd : EndN SSX TBL (gp g0 wp) CLS D_0 p l e R s m args below meth c Q kc0 ks0 15 616 KC9 KS9 PE) (hf : 15 ≤ R.frames) (hl : 616 ≤ R.locals) (hc : 638008 ≤ R.cells + kc0) (hsl : 7182079 ≤ R.slots + ks0) (hI : LJ hs R0 tx L ec ep) (hP : PT kc ks hs.length t) (ht : t ≤ 511) (hi : i.toInt = 6 * (t : Int)) (hib : i.toInt + 6 ≤ (bl : Int)) (K : ∀ (h2 : List CE) (R2 : List Nat) (tx2 : Nat → Int) (L2 : Nat) (ec2 ep2 : Int) (kc2 ks2 : Nat) (v6 v7 v8 : Option Value), LJ h2 R2 tx2 L2 ec2 ep2 → PT kc2 ks2 h2.length (t + 1) → WpN (gp g0 wp) CLS p l e R s m args below meth c Q D_0.2.2.1 kc0 ks0 1829 [some (.ref 7000000000003), some (.ref 0), some (.ref 124), some (.ref 146), some (.ref 147), some (.int i), v6, v7, v8] (h2, kc2, ks2) []) : WpN (gp g0 wp) CLS p l e R s m args below meth c Q D_0.2.2.1 kc0 ks0 1645 [some (.ref 7000000000003), some (.ref 0), some (.ref 124), some (.ref 146), some (.ref 147), some (.int i), v6, v7, v8] (hs, kc, ks) [] := by
  have hTY9 : TYg (gp g0 wp) := hTY
  obtain ⟨p1, p2, p3⟩ := id hP
  have j1 := i_k (i := i) (k := 1) (by omega) (by omega) (by decide) (by decide)
  have j2 := i_k (i := i) (k := 2) (by omega) (by omega) (by decide) (by decide)
  have j3 := i_k (i := i) (k := 3) (by omega) (by omega) (by decide) (by decide)
  have j4 := i_k (i := i) (k := 4) (by omega) (by omega) (by decide) (by decide)
  have j5 := i_k (i := i) (k := 5) (by omega) (by omega) (by decide) (by decide)
  rw [show (1 : Int32).toInt = 1 from rfl] at j1
  rw [show (2 : Int32).toInt = 2 from rfl] at j2
  rw [show (3 : Int32).toInt = 3 from rfl] at j3
  rw [show (4 : Int32).toInt = 4 from rfl] at j4
  rw [show (5 : Int32).toInt = 5 from rfl] at j5
  refine g_loadA act (gx gp_0 (w := 0x1066e03) rfl (by decide) rfl) (a := 1) (n := 1646) rfl rfl rfl ?_
  refine g_loadA act (gx gp_0 (w := 0x66f03) rfl (by decide) rfl) (a := 0) (n := 1647) rfl rfl rfl ?_
  refine g_loadI act (gx gp_0 (w := 0x5067102) rfl (by decide) rfl) (a := 5) (n := 1649) rfl rfl rfl ?_
  refine g_constI act (gx gp_0 (w := 0x40000000c00000009000000067201) rfl (by decide) rfl) (n := 1650) (x := (1 : Int32)) (by decide) rfl ?_
  refine g_iadd act (gx gp_0 (w := 0x6730a) rfl (by decide) rfl) (n := 1651) rfl ?_
  refine g_sald act (gx gp_0 (w := 0x6741a) rfl (by decide) rfl) (n := 1652) rfl (by omega) (by omega) ?_
  refine g_loadA act (gx gp_0 (w := 0x67503) rfl (by decide) rfl) (a := 0) (n := 1653) rfl rfl rfl ?_
  refine g_loadI act (gx gp_0 (w := 0x5067702) rfl (by decide) rfl) (a := 5) (n := 1655) rfl rfl rfl ?_
  refine g_constI act (gx gp_0 (w := 0x40000001400000011000000067801) rfl (by decide) rfl) (n := 1656) (x := (2 : Int32)) (by decide) rfl ?_
  refine g_iadd act (gx gp_0 (w := 0x6790a) rfl (by decide) rfl) (n := 1657) rfl ?_
  refine g_sald act (gx gp_0 (w := 0x67a1a) rfl (by decide) rfl) (n := 1658) rfl (by omega) (by omega) ?_
  refine g_loadA act (gx gp_0 (w := 0x67b03) rfl (by decide) rfl) (a := 0) (n := 1659) rfl rfl rfl ?_
  refine g_loadI act (gx gp_0 (w := 0x5067d02) rfl (by decide) rfl) (a := 5) (n := 1661) rfl rfl rfl ?_
  refine g_constI act (gx gp_0 (w := 0x40000001c00000019000000067e01) rfl (by decide) rfl) (n := 1662) (x := (3 : Int32)) (by decide) rfl ?_
  refine g_iadd act (gx gp_0 (w := 0x67f0a) rfl (by decide) rfl) (n := 1663) rfl ?_
  refine g_sald act (gx gp_0 (w := 0x6801a) rfl (by decide) rfl) (n := 1664) rfl (by omega) (by omega) ?_
  refine g_loadA act (gx gp_0 (w := 0x3068103) rfl (by decide) rfl) (a := 3) (n := 1665) rfl rfl rfl ?_
  refine n_call tb_pres act hEnd (gx (P := G_call) gp_0 (w := 0x400000000000004185500009f06840f) rfl (by decide) rfl) (d' := D_159) rfl (f' := 12) (lam' := 275) (mc := 437) (ms := 4807) (as := [.ref 0, .int (xs (i + (1 : Int32)).toInt.toNat), .int (xs (i + (2 : Int32)).toInt.toNat), .int (xs (i + (3 : Int32)).toInt.toNat), .ref 146]) (rest := []) ((sem_useQ (c := c159_0Q) (es := [(-2147483648, 2147483647, false), (-2147483648, 2147483647, false), (-2147483648, 2147483647, false)]) (vs := [(xs (i + (1 : Int32)).toInt.toNat), (xs (i + (2 : Int32)).toInt.toNat), (xs (i + (3 : Int32)).toInt.toNat)]) (ws := [.ref 0, .int (xs (i + (1 : Int32)).toInt.toNat), .int (xs (i + (2 : Int32)).toInt.toNat), .int (xs (i + (3 : Int32)).toInt.toNat), .ref 146]) (sc159_0Q (handsB_KCQ invC_KCQ)) (d := D_159) rfl rfl rfl rfl (by decide) hTY9 hI.1 hI.2.1 (by show hs.length + 437 ≤ _; omega) (hvF (by decide) rfl) (Or.inl ⟨rfl, ⟨0, 501, rfl, hI.2.2.1.1, by decide, by decide⟩, (Or.inr ⟨(xs (i + (1 : Int32)).toInt.toNat), [(xs (i + (2 : Int32)).toInt.toNat), (xs (i + (3 : Int32)).toInt.toNat)], rfl, rfl, rfl, (Or.inr ⟨(xs (i + (2 : Int32)).toInt.toNat), [(xs (i + (3 : Int32)).toInt.toNat)], rfl, rfl, rfl, (Or.inr ⟨(xs (i + (3 : Int32)).toInt.toNat), [], rfl, rfl, rfl, (Or.inl ⟨rfl, ⟨146, 55, rfl, hI.2.2.1.2.2.2.2.2.2.2.1, by decide, by decide⟩, trivial⟩)⟩)⟩)⟩)⟩)).imp (fun kd r h2 h => w_useX (by decide +kernel) h)) (show (5 : Nat) = fb 0x400000000000004185500009f06840f % 16 by decide) (by show (5 : Nat) ≤ 6; decide) (fun q => absurd q (by decide)) (by omega) (by show 8 + (6 + 11) + 275 ≤ R.locals; omega) (by show (0 : Nat) ≤ 8; decide) (by show kc + 437 ≤ _; omega) (by show ks + 4807 ≤ _; omega) (fun r9 h2 hpo hr9 => ?_) (fun x9 hs9 hx9 hpo => ?_)
  · obtain ⟨-, ⟨a6, rfl⟩, R2, hXX, hln⟩ := hpo
    have hln : h2.length ≤ hs.length + 437 := hln
    have hI2 := hI.hx hXX
    show WpN (gp g0 wp) CLS p l e R s m args below meth c Q D_0.2.2.1 kc0 ks0 1668 [some (.ref 7000000000003), some (.ref 0), some (.ref 124), some (.ref 146), some (.ref 147), some (.int i), v6, v7, v8] (h2, kc + 437, ks + 4807) [.int a6]
    refine g_storeI act (gx gp_0 (w := 0x6068610) rfl (by decide) rfl) (a := 6) (n := 1670) rfl rfl (L2 := [some (.ref 7000000000003), some (.ref 0), some (.ref 124), some (.ref 146), some (.ref 147), some (.int i), some (.int a6), v7, v8]) rfl ?_
    refine g_loadA act (gx gp_0 (w := 0x2068703) rfl (by decide) rfl) (a := 2) (n := 1671) rfl rfl rfl ?_
    refine g_loadA act (gx gp_0 (w := 0x68803) rfl (by decide) rfl) (a := 0) (n := 1672) rfl rfl rfl ?_
    refine g_loadI act (gx gp_0 (w := 0x5068a02) rfl (by decide) rfl) (a := 5) (n := 1674) rfl rfl rfl ?_
    refine g_constI act (gx gp_0 (w := 0x40000000c00000009000000068b01) rfl (by decide) rfl) (n := 1675) (x := (1 : Int32)) (by decide) rfl ?_
    refine g_iadd act (gx gp_0 (w := 0x68c0a) rfl (by decide) rfl) (n := 1676) rfl ?_
    refine g_sald act (gx gp_0 (w := 0x68d1a) rfl (by decide) rfl) (n := 1677) rfl (by omega) (by omega) ?_
    refine g_loadA act (gx gp_0 (w := 0x68e03) rfl (by decide) rfl) (a := 0) (n := 1678) rfl rfl rfl ?_
    refine g_loadI act (gx gp_0 (w := 0x5069002) rfl (by decide) rfl) (a := 5) (n := 1680) rfl rfl rfl ?_
    refine g_constI act (gx gp_0 (w := 0x40000001400000011000000069101) rfl (by decide) rfl) (n := 1681) (x := (2 : Int32)) (by decide) rfl ?_
    refine g_iadd act (gx gp_0 (w := 0x6920a) rfl (by decide) rfl) (n := 1682) rfl ?_
    refine g_sald act (gx gp_0 (w := 0x6931a) rfl (by decide) rfl) (n := 1683) rfl (by omega) (by omega) ?_
    refine g_loadA act (gx gp_0 (w := 0x69403) rfl (by decide) rfl) (a := 0) (n := 1684) rfl rfl rfl ?_
    refine g_loadI act (gx gp_0 (w := 0x5069602) rfl (by decide) rfl) (a := 5) (n := 1686) rfl rfl rfl ?_
    refine g_constI act (gx gp_0 (w := 0x40000001c00000019000000069701) rfl (by decide) rfl) (n := 1687) (x := (3 : Int32)) (by decide) rfl ?_
    refine g_iadd act (gx gp_0 (w := 0x6980a) rfl (by decide) rfl) (n := 1688) rfl ?_
    refine g_sald act (gx gp_0 (w := 0x6991a) rfl (by decide) rfl) (n := 1689) rfl (by omega) (by omega) ?_
    obtain ⟨tl, wl, nl, n, ng, nr, hNW, hL1, hB, hM⟩ := hI2.num
    refine n_call tb_pres act hEnd (gx (P := G_call) gp_0 (w := 0xa000000000000c18440000f9069c0f) rfl (by decide) rfl) (d' := D_249) rfl (f' := 11) (lam' := 275) (mc := 0) (ms := 0) (as := [.ref 124, .int (xs (i + (1 : Int32)).toInt.toNat), .int (xs (i + (2 : Int32)).toInt.toNat), .int (xs (i + (3 : Int32)).toInt.toNat)]) (rest := []) (b_paid hNW hB hM) (show (4 : Nat) = fb 0xa000000000000c18440000f9069c0f % 16 by decide) (by show (4 : Nat) ≤ 6; decide) (fun _ => ⟨_, _, rfl, _, shp_at hB.1.1, Or.inr (show fb 0xa000000000000c18440000f9069c0f >>> 68 = 10 by decide)⟩) (by omega) (by show 8 + (6 + 11) + 275 ≤ R.locals; omega) (by show (0 : Nat) ≤ 8; decide) (by show kc + 437 + 0 ≤ _; omega) (by show ks + 4807 + 0 ≤ _; omega) (fun r9 h3 hpo hr9 => ?_) (fun x9 hs9 hx9 hpo => ?_)
    · obtain ⟨-, ⟨b7, rfl⟩, hM3, f3⟩ := hpo
      have hI3 := hI2.wm f3 hM3
      have ln3 : h3.length = h2.length := f3.1
      show WpN (gp g0 wp) CLS p l e R s m args below meth c Q D_0.2.2.1 kc0 ks0 1692 [some (.ref 7000000000003), some (.ref 0), some (.ref 124), some (.ref 146), some (.ref 147), some (.int i), some (.int a6), v7, v8] (h3, kc + 437, ks + 4807) [.long b7]
      refine g_storeL act (gx gp_0 (w := 0x7069e0b) rfl (by decide) rfl) (a := 7) (n := 1694) rfl rfl (L2 := [some (.ref 7000000000003), some (.ref 0), some (.ref 124), some (.ref 146), some (.ref 147), some (.int i), some (.int a6), some (.long b7), none]) rfl ?_
      refine g_goto act (gx gp_0 (w := 0x72507) rfl (by decide) rfl) (n := 1829) rfl ?_
      exact K _ _ _ _ _ _ _ _ _ _ _ hI3 (pt_step hP (by decide) (by decide) (by rw [ln3]; omega))
    · exact absurd hpo.1 (by omega)
  · exact absurd hpo.1 (by omega)

theorem lb_1697 (hTY : TYg g0) (act : Act SSX TBL (gp g0 wp) CLS bl xs D_0 p l s m args meth c) (hEnd : EndN SSX TBL (gp g0 wp) CLS D_0 p l e R s m args below meth c Q kc0 ks0 15 616 KC9 KS9 PE) (hf : 15 ≤ R.frames) (hl : 616 ≤ R.locals) (hc : 638008 ≤ R.cells + kc0) (hsl : 7182079 ≤ R.slots + ks0) (hI : LJ hs R0 tx L ec ep) (hP : PT kc ks hs.length t) (ht : t ≤ 511) (hi : i.toInt = 6 * (t : Int)) (hib : i.toInt + 6 ≤ (bl : Int)) (K : ∀ (h2 : List CE) (R2 : List Nat) (tx2 : Nat → Int) (L2 : Nat) (ec2 ep2 : Int) (kc2 ks2 : Nat) (v6 v7 v8 : Option Value), LJ h2 R2 tx2 L2 ec2 ep2 → PT kc2 ks2 h2.length (t + 1) → WpN (gp g0 wp) CLS p l e R s m args below meth c Q D_0.2.2.1 kc0 ks0 1829 [some (.ref 7000000000003), some (.ref 0), some (.ref 124), some (.ref 146), some (.ref 147), some (.int i), v6, v7, v8] (h2, kc2, ks2) []) : WpN (gp g0 wp) CLS p l e R s m args below meth c Q D_0.2.2.1 kc0 ks0 1697 [some (.ref 7000000000003), some (.ref 0), some (.ref 124), some (.ref 146), some (.ref 147), some (.int i), v6, v7, v8] (hs, kc, ks) [] := by
  have hTY9 : TYg (gp g0 wp) := hTY
  obtain ⟨p1, p2, p3⟩ := id hP
  have j1 := i_k (i := i) (k := 1) (by omega) (by omega) (by decide) (by decide)
  have j2 := i_k (i := i) (k := 2) (by omega) (by omega) (by decide) (by decide)
  have j3 := i_k (i := i) (k := 3) (by omega) (by omega) (by decide) (by decide)
  have j4 := i_k (i := i) (k := 4) (by omega) (by omega) (by decide) (by decide)
  have j5 := i_k (i := i) (k := 5) (by omega) (by omega) (by decide) (by decide)
  rw [show (1 : Int32).toInt = 1 from rfl] at j1
  rw [show (2 : Int32).toInt = 2 from rfl] at j2
  rw [show (3 : Int32).toInt = 3 from rfl] at j3
  rw [show (4 : Int32).toInt = 4 from rfl] at j4
  rw [show (5 : Int32).toInt = 5 from rfl] at j5
  refine g_loadA act (gx gp_0 (w := 0x106a203) rfl (by decide) rfl) (a := 1) (n := 1698) rfl rfl rfl ?_
  refine g_loadA act (gx gp_0 (w := 0x6a303) rfl (by decide) rfl) (a := 0) (n := 1699) rfl rfl rfl ?_
  refine g_loadI act (gx gp_0 (w := 0x506a502) rfl (by decide) rfl) (a := 5) (n := 1701) rfl rfl rfl ?_
  refine g_constI act (gx gp_0 (w := 0x40000000c0000000900000006a601) rfl (by decide) rfl) (n := 1702) (x := (1 : Int32)) (by decide) rfl ?_
  refine g_iadd act (gx gp_0 (w := 0x6a70a) rfl (by decide) rfl) (n := 1703) rfl ?_
  refine g_sald act (gx gp_0 (w := 0x6a81a) rfl (by decide) rfl) (n := 1704) rfl (by omega) (by omega) ?_
  refine g_loadA act (gx gp_0 (w := 0x6a903) rfl (by decide) rfl) (a := 0) (n := 1705) rfl rfl rfl ?_
  refine g_loadI act (gx gp_0 (w := 0x506ab02) rfl (by decide) rfl) (a := 5) (n := 1707) rfl rfl rfl ?_
  refine g_constI act (gx gp_0 (w := 0x4000000140000001100000006ac01) rfl (by decide) rfl) (n := 1708) (x := (2 : Int32)) (by decide) rfl ?_
  refine g_iadd act (gx gp_0 (w := 0x6ad0a) rfl (by decide) rfl) (n := 1709) rfl ?_
  refine g_sald act (gx gp_0 (w := 0x6ae1a) rfl (by decide) rfl) (n := 1710) rfl (by omega) (by omega) ?_
  refine g_loadA act (gx gp_0 (w := 0x6af03) rfl (by decide) rfl) (a := 0) (n := 1711) rfl rfl rfl ?_
  refine g_loadI act (gx gp_0 (w := 0x506b102) rfl (by decide) rfl) (a := 5) (n := 1713) rfl rfl rfl ?_
  refine g_constI act (gx gp_0 (w := 0x40000001c0000001900000006b201) rfl (by decide) rfl) (n := 1714) (x := (3 : Int32)) (by decide) rfl ?_
  refine g_iadd act (gx gp_0 (w := 0x6b30a) rfl (by decide) rfl) (n := 1715) rfl ?_
  refine g_sald act (gx gp_0 (w := 0x6b41a) rfl (by decide) rfl) (n := 1716) rfl (by omega) (by omega) ?_
  refine g_loadA act (gx gp_0 (w := 0x306b503) rfl (by decide) rfl) (a := 3) (n := 1717) rfl rfl rfl ?_
  refine n_call tb_pres act hEnd (gx (P := G_call) gp_0 (w := 0x400000000000004185500009906b80f) rfl (by decide) rfl) (d' := D_153) rfl (f' := 11) (lam' := 236) (mc := 18) (ms := 198) (as := [.ref 0, .int (xs (i + (1 : Int32)).toInt.toNat), .int (xs (i + (2 : Int32)).toInt.toNat), .int (xs (i + (3 : Int32)).toInt.toNat), .ref 146]) (rest := []) ((sem_useQ (c := c153_0Q) (es := [(-2147483648, 2147483647, false), (-2147483648, 2147483647, false), (-2147483648, 2147483647, false)]) (vs := [(xs (i + (1 : Int32)).toInt.toNat), (xs (i + (2 : Int32)).toInt.toNat), (xs (i + (3 : Int32)).toInt.toNat)]) (ws := [.ref 0, .int (xs (i + (1 : Int32)).toInt.toNat), .int (xs (i + (2 : Int32)).toInt.toNat), .int (xs (i + (3 : Int32)).toInt.toNat), .ref 146]) (sc153_0Q (handsB_KCQ invC_KCQ)) (d := D_153) rfl rfl rfl rfl (by decide) hTY9 hI.1 hI.2.1 (by show hs.length + 18 ≤ _; omega) (hvF (by decide) rfl) (Or.inl ⟨rfl, ⟨0, 501, rfl, hI.2.2.1.1, by decide, by decide⟩, (Or.inr ⟨(xs (i + (1 : Int32)).toInt.toNat), [(xs (i + (2 : Int32)).toInt.toNat), (xs (i + (3 : Int32)).toInt.toNat)], rfl, rfl, rfl, (Or.inr ⟨(xs (i + (2 : Int32)).toInt.toNat), [(xs (i + (3 : Int32)).toInt.toNat)], rfl, rfl, rfl, (Or.inr ⟨(xs (i + (3 : Int32)).toInt.toNat), [], rfl, rfl, rfl, (Or.inl ⟨rfl, ⟨146, 55, rfl, hI.2.2.1.2.2.2.2.2.2.2.1, by decide, by decide⟩, trivial⟩)⟩)⟩)⟩)⟩)).imp (fun kd r h2 h => w_useX (by decide +kernel) h)) (show (5 : Nat) = fb 0x400000000000004185500009906b80f % 16 by decide) (by show (5 : Nat) ≤ 6; decide) (fun q => absurd q (by decide)) (by omega) (by show 8 + (6 + 11) + 236 ≤ R.locals; omega) (by show (0 : Nat) ≤ 8; decide) (by show kc + 18 ≤ _; omega) (by show ks + 198 ≤ _; omega) (fun r9 h2 hpo hr9 => ?_) (fun x9 hs9 hx9 hpo => ?_)
  · obtain ⟨-, ⟨a6, rfl⟩, R2, hXX, hln⟩ := hpo
    have hln : h2.length ≤ hs.length + 18 := hln
    have hI2 := hI.hx hXX
    show WpN (gp g0 wp) CLS p l e R s m args below meth c Q D_0.2.2.1 kc0 ks0 1720 [some (.ref 7000000000003), some (.ref 0), some (.ref 124), some (.ref 146), some (.ref 147), some (.int i), v6, v7, v8] (h2, kc + 18, ks + 198) [.int a6]
    refine g_storeI act (gx gp_0 (w := 0x606ba10) rfl (by decide) rfl) (a := 6) (n := 1722) rfl rfl (L2 := [some (.ref 7000000000003), some (.ref 0), some (.ref 124), some (.ref 146), some (.ref 147), some (.int i), some (.int a6), v7, v8]) rfl ?_
    refine g_loadA act (gx gp_0 (w := 0x206bb03) rfl (by decide) rfl) (a := 2) (n := 1723) rfl rfl rfl ?_
    refine g_loadA act (gx gp_0 (w := 0x6bc03) rfl (by decide) rfl) (a := 0) (n := 1724) rfl rfl rfl ?_
    refine g_loadI act (gx gp_0 (w := 0x506be02) rfl (by decide) rfl) (a := 5) (n := 1726) rfl rfl rfl ?_
    refine g_constI act (gx gp_0 (w := 0x40000000c0000000900000006bf01) rfl (by decide) rfl) (n := 1727) (x := (1 : Int32)) (by decide) rfl ?_
    refine g_iadd act (gx gp_0 (w := 0x6c00a) rfl (by decide) rfl) (n := 1728) rfl ?_
    refine g_sald act (gx gp_0 (w := 0x6c11a) rfl (by decide) rfl) (n := 1729) rfl (by omega) (by omega) ?_
    refine g_loadA act (gx gp_0 (w := 0x6c203) rfl (by decide) rfl) (a := 0) (n := 1730) rfl rfl rfl ?_
    refine g_loadI act (gx gp_0 (w := 0x506c402) rfl (by decide) rfl) (a := 5) (n := 1732) rfl rfl rfl ?_
    refine g_constI act (gx gp_0 (w := 0x4000000140000001100000006c501) rfl (by decide) rfl) (n := 1733) (x := (2 : Int32)) (by decide) rfl ?_
    refine g_iadd act (gx gp_0 (w := 0x6c60a) rfl (by decide) rfl) (n := 1734) rfl ?_
    refine g_sald act (gx gp_0 (w := 0x6c71a) rfl (by decide) rfl) (n := 1735) rfl (by omega) (by omega) ?_
    refine g_loadA act (gx gp_0 (w := 0x6c803) rfl (by decide) rfl) (a := 0) (n := 1736) rfl rfl rfl ?_
    refine g_loadI act (gx gp_0 (w := 0x506ca02) rfl (by decide) rfl) (a := 5) (n := 1738) rfl rfl rfl ?_
    refine g_constI act (gx gp_0 (w := 0x40000001c0000001900000006cb01) rfl (by decide) rfl) (n := 1739) (x := (3 : Int32)) (by decide) rfl ?_
    refine g_iadd act (gx gp_0 (w := 0x6cc0a) rfl (by decide) rfl) (n := 1740) rfl ?_
    refine g_sald act (gx gp_0 (w := 0x6cd1a) rfl (by decide) rfl) (n := 1741) rfl (by omega) (by omega) ?_
    obtain ⟨tl, wl, nl, n, ng, nr, hNW, hL1, hB, hM⟩ := hI2.num
    refine n_call tb_pres act hEnd (gx (P := G_call) gp_0 (w := 0xa000000000000c10440000ee06d00f) rfl (by decide) rfl) (d' := D_238) rfl (f' := 10) (lam' := 251) (mc := 0) (ms := 0) (as := [.ref 124, .int (xs (i + (1 : Int32)).toInt.toNat), .int (xs (i + (2 : Int32)).toInt.toNat), .int (xs (i + (3 : Int32)).toInt.toNat)]) (rest := []) (b_lineValue hNW hB hM) (show (4 : Nat) = fb 0xa000000000000c10440000ee06d00f % 16 by decide) (by show (4 : Nat) ≤ 4; decide) (fun _ => ⟨_, _, rfl, _, shp_at hB.1.1, Or.inr (show fb 0xa000000000000c10440000ee06d00f >>> 68 = 10 by decide)⟩) (by omega) (by show 8 + (4 + 11) + 251 ≤ R.locals; omega) (by show (0 : Nat) ≤ 8; decide) (by show kc + 18 + 0 ≤ _; omega) (by show ks + 198 + 0 ≤ _; omega) (fun r9 h3 hpo hr9 => ?_) (fun x9 hs9 hx9 hpo => ?_)
    · obtain ⟨-, ⟨b7, rfl⟩, hM3, f3⟩ := hpo
      have hI3 := hI2.wm f3 hM3
      have ln3 : h3.length = h2.length := f3.1
      show WpN (gp g0 wp) CLS p l e R s m args below meth c Q D_0.2.2.1 kc0 ks0 1744 [some (.ref 7000000000003), some (.ref 0), some (.ref 124), some (.ref 146), some (.ref 147), some (.int i), some (.int a6), v7, v8] (h3, kc + 18, ks + 198) [.long b7]
      refine g_storeL act (gx gp_0 (w := 0x706d20b) rfl (by decide) rfl) (a := 7) (n := 1746) rfl rfl (L2 := [some (.ref 7000000000003), some (.ref 0), some (.ref 124), some (.ref 146), some (.ref 147), some (.int i), some (.int a6), some (.long b7), none]) rfl ?_
      refine g_goto act (gx gp_0 (w := 0x72507) rfl (by decide) rfl) (n := 1829) rfl ?_
      exact K _ _ _ _ _ _ _ _ _ _ _ hI3 (pt_step hP (by decide) (by decide) (by rw [ln3]; omega))
    · exact absurd hpo.1 (by omega)
  · exact absurd hpo.1 (by omega)

theorem lb_1749 (hTY : TYg g0) (act : Act SSX TBL (gp g0 wp) CLS bl xs D_0 p l s m args meth c) (hEnd : EndN SSX TBL (gp g0 wp) CLS D_0 p l e R s m args below meth c Q kc0 ks0 15 616 KC9 KS9 PE) (hf : 15 ≤ R.frames) (hl : 616 ≤ R.locals) (hc : 638008 ≤ R.cells + kc0) (hsl : 7182079 ≤ R.slots + ks0) (hI : LJ hs R0 tx L ec ep) (hP : PT kc ks hs.length t) (ht : t ≤ 511) (hi : i.toInt = 6 * (t : Int)) (hib : i.toInt + 6 ≤ (bl : Int)) (K : ∀ (h2 : List CE) (R2 : List Nat) (tx2 : Nat → Int) (L2 : Nat) (ec2 ep2 : Int) (kc2 ks2 : Nat) (v6 v7 v8 : Option Value), LJ h2 R2 tx2 L2 ec2 ep2 → PT kc2 ks2 h2.length (t + 1) → WpN (gp g0 wp) CLS p l e R s m args below meth c Q D_0.2.2.1 kc0 ks0 1829 [some (.ref 7000000000003), some (.ref 0), some (.ref 124), some (.ref 146), some (.ref 147), some (.int i), v6, v7, v8] (h2, kc2, ks2) []) : WpN (gp g0 wp) CLS p l e R s m args below meth c Q D_0.2.2.1 kc0 ks0 1749 [some (.ref 7000000000003), some (.ref 0), some (.ref 124), some (.ref 146), some (.ref 147), some (.int i), v6, v7, v8] (hs, kc, ks) [] := by
  have hTY9 : TYg (gp g0 wp) := hTY
  obtain ⟨p1, p2, p3⟩ := id hP
  have j1 := i_k (i := i) (k := 1) (by omega) (by omega) (by decide) (by decide)
  have j2 := i_k (i := i) (k := 2) (by omega) (by omega) (by decide) (by decide)
  have j3 := i_k (i := i) (k := 3) (by omega) (by omega) (by decide) (by decide)
  have j4 := i_k (i := i) (k := 4) (by omega) (by omega) (by decide) (by decide)
  have j5 := i_k (i := i) (k := 5) (by omega) (by omega) (by decide) (by decide)
  rw [show (1 : Int32).toInt = 1 from rfl] at j1
  rw [show (2 : Int32).toInt = 2 from rfl] at j2
  rw [show (3 : Int32).toInt = 3 from rfl] at j3
  rw [show (4 : Int32).toInt = 4 from rfl] at j4
  rw [show (5 : Int32).toInt = 5 from rfl] at j5
  refine g_loadA act (gx gp_0 (w := 0x106d603) rfl (by decide) rfl) (a := 1) (n := 1750) rfl rfl rfl ?_
  refine g_loadA act (gx gp_0 (w := 0x6d703) rfl (by decide) rfl) (a := 0) (n := 1751) rfl rfl rfl ?_
  refine g_loadI act (gx gp_0 (w := 0x506d902) rfl (by decide) rfl) (a := 5) (n := 1753) rfl rfl rfl ?_
  refine g_constI act (gx gp_0 (w := 0x40000000c0000000900000006da01) rfl (by decide) rfl) (n := 1754) (x := (1 : Int32)) (by decide) rfl ?_
  refine g_iadd act (gx gp_0 (w := 0x6db0a) rfl (by decide) rfl) (n := 1755) rfl ?_
  refine g_sald act (gx gp_0 (w := 0x6dc1a) rfl (by decide) rfl) (n := 1756) rfl (by omega) (by omega) ?_
  refine g_loadA act (gx gp_0 (w := 0x6dd03) rfl (by decide) rfl) (a := 0) (n := 1757) rfl rfl rfl ?_
  refine g_loadI act (gx gp_0 (w := 0x506df02) rfl (by decide) rfl) (a := 5) (n := 1759) rfl rfl rfl ?_
  refine g_constI act (gx gp_0 (w := 0x4000000140000001100000006e001) rfl (by decide) rfl) (n := 1760) (x := (2 : Int32)) (by decide) rfl ?_
  refine g_iadd act (gx gp_0 (w := 0x6e10a) rfl (by decide) rfl) (n := 1761) rfl ?_
  refine g_sald act (gx gp_0 (w := 0x6e21a) rfl (by decide) rfl) (n := 1762) rfl (by omega) (by omega) ?_
  refine g_loadA act (gx gp_0 (w := 0x306e303) rfl (by decide) rfl) (a := 3) (n := 1763) rfl rfl rfl ?_
  refine n_call tb_pres act hEnd (gx (P := G_call) gp_0 (w := 0x40000000000000414440000a306e60f) rfl (by decide) rfl) (d' := D_163) rfl (f' := 11) (lam' := 236) (mc := 15) (ms := 165) (as := [.ref 0, .int (xs (i + (1 : Int32)).toInt.toNat), .int (xs (i + (2 : Int32)).toInt.toNat), .ref 146]) (rest := []) ((sem_useQ (c := c163_0Q) (es := [(-2147483648, 2147483647, false), (-2147483648, 2147483647, false)]) (vs := [(xs (i + (1 : Int32)).toInt.toNat), (xs (i + (2 : Int32)).toInt.toNat)]) (ws := [.ref 0, .int (xs (i + (1 : Int32)).toInt.toNat), .int (xs (i + (2 : Int32)).toInt.toNat), .ref 146]) (sc163_0Q (handsB_KCQ invC_KCQ)) (d := D_163) rfl rfl rfl rfl (by decide) hTY9 hI.1 hI.2.1 (by show hs.length + 15 ≤ _; omega) (hvF (by decide) rfl) (Or.inl ⟨rfl, ⟨0, 501, rfl, hI.2.2.1.1, by decide, by decide⟩, (Or.inr ⟨(xs (i + (1 : Int32)).toInt.toNat), [(xs (i + (2 : Int32)).toInt.toNat)], rfl, rfl, rfl, (Or.inr ⟨(xs (i + (2 : Int32)).toInt.toNat), [], rfl, rfl, rfl, (Or.inl ⟨rfl, ⟨146, 55, rfl, hI.2.2.1.2.2.2.2.2.2.2.1, by decide, by decide⟩, trivial⟩)⟩)⟩)⟩)).imp (fun kd r h2 h => w_useX (by decide +kernel) h)) (show (4 : Nat) = fb 0x40000000000000414440000a306e60f % 16 by decide) (by show (4 : Nat) ≤ 5; decide) (fun q => absurd q (by decide)) (by omega) (by show 8 + (5 + 11) + 236 ≤ R.locals; omega) (by show (0 : Nat) ≤ 8; decide) (by show kc + 15 ≤ _; omega) (by show ks + 165 ≤ _; omega) (fun r9 h2 hpo hr9 => ?_) (fun x9 hs9 hx9 hpo => ?_)
  · obtain ⟨-, ⟨a6, rfl⟩, R2, hXX, hln⟩ := hpo
    have hln : h2.length ≤ hs.length + 15 := hln
    have hI2 := hI.hx hXX
    show WpN (gp g0 wp) CLS p l e R s m args below meth c Q D_0.2.2.1 kc0 ks0 1766 [some (.ref 7000000000003), some (.ref 0), some (.ref 124), some (.ref 146), some (.ref 147), some (.int i), v6, v7, v8] (h2, kc + 15, ks + 165) [.int a6]
    refine g_storeI act (gx gp_0 (w := 0x606e810) rfl (by decide) rfl) (a := 6) (n := 1768) rfl rfl (L2 := [some (.ref 7000000000003), some (.ref 0), some (.ref 124), some (.ref 146), some (.ref 147), some (.int i), some (.int a6), v7, v8]) rfl ?_
    refine g_loadA act (gx gp_0 (w := 0x206e903) rfl (by decide) rfl) (a := 2) (n := 1769) rfl rfl rfl ?_
    refine g_loadA act (gx gp_0 (w := 0x6ea03) rfl (by decide) rfl) (a := 0) (n := 1770) rfl rfl rfl ?_
    refine g_loadI act (gx gp_0 (w := 0x506ec02) rfl (by decide) rfl) (a := 5) (n := 1772) rfl rfl rfl ?_
    refine g_constI act (gx gp_0 (w := 0x40000000c0000000900000006ed01) rfl (by decide) rfl) (n := 1773) (x := (1 : Int32)) (by decide) rfl ?_
    refine g_iadd act (gx gp_0 (w := 0x6ee0a) rfl (by decide) rfl) (n := 1774) rfl ?_
    refine g_sald act (gx gp_0 (w := 0x6ef1a) rfl (by decide) rfl) (n := 1775) rfl (by omega) (by omega) ?_
    refine g_loadA act (gx gp_0 (w := 0x6f003) rfl (by decide) rfl) (a := 0) (n := 1776) rfl rfl rfl ?_
    refine g_loadI act (gx gp_0 (w := 0x506f202) rfl (by decide) rfl) (a := 5) (n := 1778) rfl rfl rfl ?_
    refine g_constI act (gx gp_0 (w := 0x4000000140000001100000006f301) rfl (by decide) rfl) (n := 1779) (x := (2 : Int32)) (by decide) rfl ?_
    refine g_iadd act (gx gp_0 (w := 0x6f40a) rfl (by decide) rfl) (n := 1780) rfl ?_
    refine g_sald act (gx gp_0 (w := 0x6f51a) rfl (by decide) rfl) (n := 1781) rfl (by omega) (by omega) ?_
    obtain ⟨tl, wl, nl, n, ng, nr, hNW, hL1, hB, hM⟩ := hI2.num
    refine n_call tb_pres act hEnd (gx (P := G_call) gp_0 (w := 0xa000000000000c143300010806f80f) rfl (by decide) rfl) (d' := D_264) rfl (f' := 10) (lam' := 251) (mc := 0) (ms := 0) (as := [.ref 124, .int (xs (i + (1 : Int32)).toInt.toNat), .int (xs (i + (2 : Int32)).toInt.toNat)]) (rest := []) (b_reserve hNW hB hM) (show (3 : Nat) = fb 0xa000000000000c143300010806f80f % 16 by decide) (by show (3 : Nat) ≤ 5; decide) (fun _ => ⟨_, _, rfl, _, shp_at hB.1.1, Or.inr (show fb 0xa000000000000c143300010806f80f >>> 68 = 10 by decide)⟩) (by omega) (by show 8 + (5 + 11) + 251 ≤ R.locals; omega) (by show (0 : Nat) ≤ 8; decide) (by show kc + 15 + 0 ≤ _; omega) (by show ks + 165 + 0 ≤ _; omega) (fun r9 h3 hpo hr9 => ?_) (fun x9 hs9 hx9 hpo => ?_)
    · obtain ⟨-, ⟨b7, rfl⟩, hM3, f3⟩ := hpo
      have hI3 := hI2.wm f3 hM3
      have ln3 : h3.length = h2.length := f3.1
      show WpN (gp g0 wp) CLS p l e R s m args below meth c Q D_0.2.2.1 kc0 ks0 1784 [some (.ref 7000000000003), some (.ref 0), some (.ref 124), some (.ref 146), some (.ref 147), some (.int i), some (.int a6), v7, v8] (h3, kc + 15, ks + 165) [.int b7]
      refine g_storeI act (gx gp_0 (w := 0x706fa10) rfl (by decide) rfl) (a := 7) (n := 1786) rfl rfl (L2 := [some (.ref 7000000000003), some (.ref 0), some (.ref 124), some (.ref 146), some (.ref 147), some (.int i), some (.int a6), some (.int b7), v8]) rfl ?_
      refine g_goto act (gx gp_0 (w := 0x72507) rfl (by decide) rfl) (n := 1829) rfl ?_
      exact K _ _ _ _ _ _ _ _ _ _ _ hI3 (pt_step hP (by decide) (by decide) (by rw [ln3]; omega))
    · exact absurd hpo.1 (by omega)
  · exact absurd hpo.1 (by omega)

theorem lb_1789 (hTY : TYg g0) (act : Act SSX TBL (gp g0 wp) CLS bl xs D_0 p l s m args meth c) (hEnd : EndN SSX TBL (gp g0 wp) CLS D_0 p l e R s m args below meth c Q kc0 ks0 15 616 KC9 KS9 PE) (hf : 15 ≤ R.frames) (hl : 616 ≤ R.locals) (hc : 638008 ≤ R.cells + kc0) (hsl : 7182079 ≤ R.slots + ks0) (hI : LJ hs R0 tx L ec ep) (hP : PT kc ks hs.length t) (ht : t ≤ 511) (hi : i.toInt = 6 * (t : Int)) (hib : i.toInt + 6 ≤ (bl : Int)) (K : ∀ (h2 : List CE) (R2 : List Nat) (tx2 : Nat → Int) (L2 : Nat) (ec2 ep2 : Int) (kc2 ks2 : Nat) (v6 v7 v8 : Option Value), LJ h2 R2 tx2 L2 ec2 ep2 → PT kc2 ks2 h2.length (t + 1) → WpN (gp g0 wp) CLS p l e R s m args below meth c Q D_0.2.2.1 kc0 ks0 1829 [some (.ref 7000000000003), some (.ref 0), some (.ref 124), some (.ref 146), some (.ref 147), some (.int i), v6, v7, v8] (h2, kc2, ks2) []) : WpN (gp g0 wp) CLS p l e R s m args below meth c Q D_0.2.2.1 kc0 ks0 1789 [some (.ref 7000000000003), some (.ref 0), some (.ref 124), some (.ref 146), some (.ref 147), some (.int i), v6, v7, v8] (hs, kc, ks) [] := by
  have hTY9 : TYg (gp g0 wp) := hTY
  obtain ⟨p1, p2, p3⟩ := id hP
  have j1 := i_k (i := i) (k := 1) (by omega) (by omega) (by decide) (by decide)
  have j2 := i_k (i := i) (k := 2) (by omega) (by omega) (by decide) (by decide)
  have j3 := i_k (i := i) (k := 3) (by omega) (by omega) (by decide) (by decide)
  have j4 := i_k (i := i) (k := 4) (by omega) (by omega) (by decide) (by decide)
  have j5 := i_k (i := i) (k := 5) (by omega) (by omega) (by decide) (by decide)
  rw [show (1 : Int32).toInt = 1 from rfl] at j1
  rw [show (2 : Int32).toInt = 2 from rfl] at j2
  rw [show (3 : Int32).toInt = 3 from rfl] at j3
  rw [show (4 : Int32).toInt = 4 from rfl] at j4
  rw [show (5 : Int32).toInt = 5 from rfl] at j5
  refine g_loadA act (gx gp_0 (w := 0x106fe03) rfl (by decide) rfl) (a := 1) (n := 1790) rfl rfl rfl ?_
  refine g_loadA act (gx gp_0 (w := 0x6ff03) rfl (by decide) rfl) (a := 0) (n := 1791) rfl rfl rfl ?_
  refine g_loadI act (gx gp_0 (w := 0x5070102) rfl (by decide) rfl) (a := 5) (n := 1793) rfl rfl rfl ?_
  refine g_constI act (gx gp_0 (w := 0x40000000c00000009000000070201) rfl (by decide) rfl) (n := 1794) (x := (1 : Int32)) (by decide) rfl ?_
  refine g_iadd act (gx gp_0 (w := 0x7030a) rfl (by decide) rfl) (n := 1795) rfl ?_
  refine g_sald act (gx gp_0 (w := 0x7041a) rfl (by decide) rfl) (n := 1796) rfl (by omega) (by omega) ?_
  refine g_loadA act (gx gp_0 (w := 0x70503) rfl (by decide) rfl) (a := 0) (n := 1797) rfl rfl rfl ?_
  refine g_loadI act (gx gp_0 (w := 0x5070702) rfl (by decide) rfl) (a := 5) (n := 1799) rfl rfl rfl ?_
  refine g_constI act (gx gp_0 (w := 0x40000001400000011000000070801) rfl (by decide) rfl) (n := 1800) (x := (2 : Int32)) (by decide) rfl ?_
  refine g_iadd act (gx gp_0 (w := 0x7090a) rfl (by decide) rfl) (n := 1801) rfl ?_
  refine g_sald act (gx gp_0 (w := 0x70a1a) rfl (by decide) rfl) (n := 1802) rfl (by omega) (by omega) ?_
  refine g_loadA act (gx gp_0 (w := 0x3070b03) rfl (by decide) rfl) (a := 3) (n := 1803) rfl rfl rfl ?_
  refine n_call tb_pres act hEnd (gx (P := G_call) gp_0 (w := 0x40000000000000414440000a4070e0f) rfl (by decide) rfl) (d' := D_164) rfl (f' := 11) (lam' := 235) (mc := 17) (ms := 187) (as := [.ref 0, .int (xs (i + (1 : Int32)).toInt.toNat), .int (xs (i + (2 : Int32)).toInt.toNat), .ref 146]) (rest := []) ((sem_useQ (c := c164_0Q) (es := [(-2147483648, 2147483647, false), (-2147483648, 2147483647, false)]) (vs := [(xs (i + (1 : Int32)).toInt.toNat), (xs (i + (2 : Int32)).toInt.toNat)]) (ws := [.ref 0, .int (xs (i + (1 : Int32)).toInt.toNat), .int (xs (i + (2 : Int32)).toInt.toNat), .ref 146]) (sc164_0Q (handsB_KCQ invC_KCQ)) (d := D_164) rfl rfl rfl rfl (by decide) hTY9 hI.1 hI.2.1 (by show hs.length + 17 ≤ _; omega) (hvF (by decide) rfl) (Or.inl ⟨rfl, ⟨0, 501, rfl, hI.2.2.1.1, by decide, by decide⟩, (Or.inr ⟨(xs (i + (1 : Int32)).toInt.toNat), [(xs (i + (2 : Int32)).toInt.toNat)], rfl, rfl, rfl, (Or.inr ⟨(xs (i + (2 : Int32)).toInt.toNat), [], rfl, rfl, rfl, (Or.inl ⟨rfl, ⟨146, 55, rfl, hI.2.2.1.2.2.2.2.2.2.2.1, by decide, by decide⟩, trivial⟩)⟩)⟩)⟩)).imp (fun kd r h2 h => w_useX (by decide +kernel) h)) (show (4 : Nat) = fb 0x40000000000000414440000a4070e0f % 16 by decide) (by show (4 : Nat) ≤ 5; decide) (fun q => absurd q (by decide)) (by omega) (by show 8 + (5 + 11) + 235 ≤ R.locals; omega) (by show (0 : Nat) ≤ 8; decide) (by show kc + 17 ≤ _; omega) (by show ks + 187 ≤ _; omega) (fun r9 h2 hpo hr9 => ?_) (fun x9 hs9 hx9 hpo => ?_)
  · obtain ⟨-, ⟨a6, rfl⟩, R2, hXX, hln⟩ := hpo
    have hln : h2.length ≤ hs.length + 17 := hln
    have hI2 := hI.hx hXX
    show WpN (gp g0 wp) CLS p l e R s m args below meth c Q D_0.2.2.1 kc0 ks0 1806 [some (.ref 7000000000003), some (.ref 0), some (.ref 124), some (.ref 146), some (.ref 147), some (.int i), v6, v7, v8] (h2, kc + 17, ks + 187) [.int a6]
    refine g_storeI act (gx gp_0 (w := 0x6071010) rfl (by decide) rfl) (a := 6) (n := 1808) rfl rfl (L2 := [some (.ref 7000000000003), some (.ref 0), some (.ref 124), some (.ref 146), some (.ref 147), some (.int i), some (.int a6), v7, v8]) rfl ?_
    refine g_loadA act (gx gp_0 (w := 0x2071103) rfl (by decide) rfl) (a := 2) (n := 1809) rfl rfl rfl ?_
    refine g_loadA act (gx gp_0 (w := 0x71203) rfl (by decide) rfl) (a := 0) (n := 1810) rfl rfl rfl ?_
    refine g_loadI act (gx gp_0 (w := 0x5071402) rfl (by decide) rfl) (a := 5) (n := 1812) rfl rfl rfl ?_
    refine g_constI act (gx gp_0 (w := 0x40000000c00000009000000071501) rfl (by decide) rfl) (n := 1813) (x := (1 : Int32)) (by decide) rfl ?_
    refine g_iadd act (gx gp_0 (w := 0x7160a) rfl (by decide) rfl) (n := 1814) rfl ?_
    refine g_sald act (gx gp_0 (w := 0x7171a) rfl (by decide) rfl) (n := 1815) rfl (by omega) (by omega) ?_
    refine g_loadA act (gx gp_0 (w := 0x71803) rfl (by decide) rfl) (a := 0) (n := 1816) rfl rfl rfl ?_
    refine g_loadI act (gx gp_0 (w := 0x5071a02) rfl (by decide) rfl) (a := 5) (n := 1818) rfl rfl rfl ?_
    refine g_constI act (gx gp_0 (w := 0x40000001400000011000000071b01) rfl (by decide) rfl) (n := 1819) (x := (2 : Int32)) (by decide) rfl ?_
    refine g_iadd act (gx gp_0 (w := 0x71c0a) rfl (by decide) rfl) (n := 1820) rfl ?_
    refine g_sald act (gx gp_0 (w := 0x71d1a) rfl (by decide) rfl) (n := 1821) rfl (by omega) (by omega) ?_
    obtain ⟨tl, wl, nl, n, ng, nr, hNW, hL1, hB, hM⟩ := hI2.num
    refine n_call tb_pres act hEnd (gx (P := G_call) gp_0 (w := 0xa000000000000c0c3300010b07200f) rfl (by decide) rfl) (d' := D_267) rfl (f' := 10) (lam' := 251) (mc := 0) (ms := 0) (as := [.ref 124, .int (xs (i + (1 : Int32)).toInt.toNat), .int (xs (i + (2 : Int32)).toInt.toNat)]) (rest := []) (b_securityCost hNW hB hM) (show (3 : Nat) = fb 0xa000000000000c0c3300010b07200f % 16 by decide) (by show (3 : Nat) ≤ 3; decide) (fun _ => ⟨_, _, rfl, _, shp_at hB.1.1, Or.inr (show fb 0xa000000000000c0c3300010b07200f >>> 68 = 10 by decide)⟩) (by omega) (by show 8 + (3 + 11) + 251 ≤ R.locals; omega) (by show (0 : Nat) ≤ 8; decide) (by show kc + 17 + 0 ≤ _; omega) (by show ks + 187 + 0 ≤ _; omega) (fun r9 h3 hpo hr9 => ?_) (fun x9 hs9 hx9 hpo => ?_)
    · obtain ⟨-, ⟨b7, rfl⟩, hM3, f3⟩ := hpo
      have hI3 := hI2.wm f3 hM3
      have ln3 : h3.length = h2.length := f3.1
      show WpN (gp g0 wp) CLS p l e R s m args below meth c Q D_0.2.2.1 kc0 ks0 1824 [some (.ref 7000000000003), some (.ref 0), some (.ref 124), some (.ref 146), some (.ref 147), some (.int i), some (.int a6), v7, v8] (h3, kc + 17, ks + 187) [.long b7]
      refine g_storeL act (gx gp_0 (w := 0x707220b) rfl (by decide) rfl) (a := 7) (n := 1826) rfl rfl (L2 := [some (.ref 7000000000003), some (.ref 0), some (.ref 124), some (.ref 146), some (.ref 147), some (.int i), some (.int a6), some (.long b7), none]) rfl ?_
      refine g_goto act (gx gp_0 (w := 0x72507) rfl (by decide) rfl) (n := 1829) rfl ?_
      exact K _ _ _ _ _ _ _ _ _ _ _ hI3 (pt_step hP (by decide) (by decide) (by rw [ln3]; omega))
    · exact absurd hpo.1 (by omega)
  · exact absurd hpo.1 (by omega)

end LAWB
