/-! computeAngles: the trees are few. -/
theorem ang_in {g0 : GG} {bl : Nat} {xs : Nat → Int32} {l : Launch} {wp : va_W} {p : Program} {e : Env} {R : Room} {s : State} {m : MethodId} {args : Array Value} {below : List Frame} {meth : Method} {c : Code} {Q : State → Prop} {kc0 ks0 kc ks f lam KC9 KS : Nat}  {Inv : List Nat → List CE → Prop} (hI : StI KC Inv) {R0 : List Nat} {hs0 : List CE} {kf kl : Nat} (act : Act SSX TBL (gp g0 wp) CLS bl xs D_76 p l s m args meth c) (hEnd : EndN SSX TBL (gp g0 wp) CLS D_76 p l e R s m args below meth c Q kc0 ks0 f lam KC9 KS (fun kd r h2 => kd = 0 ∧ r = none ∧ LST Inv R0 hs0 kf kl 25 h2)) (hf : 1 ≤ R.frames) (hl : 26 ≤ R.locals) (hc : kc ≤ R.cells + kc0) (hsl : ks ≤ R.slots + ks0) {i : Int32} (i0 : 0 ≤ i.toInt) (i3 : i.toInt < 3) {t : Int64} (K : ∀ hs : List CE, LST Inv R0 hs0 kf kl 25 hs → rd hs kf 0 = .long t → WpN (gp g0 wp) CLS p l e R s m args below meth c Q D_76.2.2.1 kc0 ks0 43 [some (.ref kf), some (.int i), none] (hs, kc, ks) []) : ∀ (n : Nat) (j : Int32) (hs : List CE), 0 ≤ j.toInt → j.toInt + (n : Int) = 3 → LST Inv R0 hs0 kf kl 25 hs → rd hs kf 0 = .long t → WpN (gp g0 wp) CLS p l e R s m args below meth c Q D_76.2.2.1 kc0 ks0 14 [some (.ref kf), some (.int i), some (.int j)] (hs, kc, ks) [] := by
  intro n
  induction n with
  | zero =>
    intro j hs j0 hj hS ht
    refine g_loadI act (gx gp_76 (w := 0x2000f02) rfl (by decide) rfl) (a := 2) (n := 15) rfl rfl rfl ?_
    refine g_constI act (gx gp_76 (w := 0x40000001c00000019000000001001) rfl (by decide) rfl) (n := 16) (x := (3 : Int32)) (by decide) rfl ?_
    refine g_icmpGe act (gx gp_76 (w := 0x2b001308) rfl (by decide) rfl) (tgt := 43) (n := 19) rfl rfl (fun h3 => ?_) (fun h3 => ?_)
    · simp only [i_le, show (3 : Int32).toInt = 3 from by decide] at h3
      exact n_forget (d := D_76) (L2 := [some (.ref kf), some (.int i), none]) (fun i v hi => by
        match i, hi with
        | 0, hi => exact hi
        | 1, hi => exact hi
        | 2, hi => cases hi
        | i + 3, hi => cases hi) (K hs hS ht)
    · simp only [i_le, show (3 : Int32).toInt = 3 from by decide] at h3
      exfalso; omega
  | succ n ih =>
    intro j hs j0 hj hS ht
    obtain ⟨hX, hln, hkl, hkf, rkl, hL, hrg⟩ := id hS
    have hT := hX.1
    have ei : (i + (1 : Int32)).toInt = i.toInt + 1 := i_add (by show _ ≤ _ + (1 : Int); omega) (by show _ + (1 : Int) < _; omega)
    have ej : (j + (1 : Int32)).toInt = j.toInt + 1 := i_add (by show _ ≤ _ + (1 : Int); omega) (by show _ + (1 : Int) < _; omega)
    refine g_loadI act (gx gp_76 (w := 0x2000f02) rfl (by decide) rfl) (a := 2) (n := 15) rfl rfl rfl ?_
    refine g_constI act (gx gp_76 (w := 0x40000001c00000019000000001001) rfl (by decide) rfl) (n := 16) (x := (3 : Int32)) (by decide) rfl ?_
    refine g_icmpGe act (gx gp_76 (w := 0x2b001308) rfl (by decide) rfl) (tgt := 43) (n := 19) rfl rfl (fun h3 => ?_) (fun h3 => ?_)
    · simp only [i_le, show (3 : Int32).toInt = 3 from by decide] at h3
      exfalso; omega
    · simp only [i_le, show (3 : Int32).toInt = 3 from by decide] at h3
      refine g_loadA act (gx gp_76 (w := 0x1403) rfl (by decide) rfl) (a := 0) (n := 20) rfl rfl rfl ?_
      obtain ⟨ka, e_ka, q_ka⟩ := ty_ref (r2 := 35) (j := 3) hT hkf (by decide) (by decide) (Or.inl rfl) rfl (by decide)
      refine r_getf act (gx gp_76 (w := 0x30000c1001704) rfl (by decide) rfl) (n := 23) (ci := 1) (j := 3) (N := 4) rfl rfl rfl (ty_shp hT hkf (by decide) rfl rfl) (by decide) (v := .ref ka) e_ka ?_
      refine g_loadI act (gx gp_76 (w := 0x1001802) rfl (by decide) rfl) (a := 1) (n := 24) rfl rfl rfl ?_
      refine g_constI act (gx gp_76 (w := 0x40000000c00000009000000001901) rfl (by decide) rfl) (n := 25) (x := (1 : Int32)) (by decide) rfl ?_
      refine g_iadd act (gx gp_76 (w := 0x1a0a) rfl (by decide) rfl) (n := 26) rfl ?_
      obtain ⟨ra, e_ra, q_ra⟩ := ty_ref (r2 := 30) (j := (i + (1 : Int32)).toInt.toNat) hT q_ka (by decide) (by show _ < 4; omega) (Or.inl rfl) rfl (by decide)
      refine r_aald act (gx gp_76 (w := 0x1b12) rfl (by decide) rfl) (n := 27) (N := 4) rfl (ty_shp hT q_ka (by decide) rfl rfl) (by decide) (j := (i + (1 : Int32)).toInt.toNat) (by omega) (by omega) (v := .ref ra) e_ra ?_
      refine g_loadI act (gx gp_76 (w := 0x2001c02) rfl (by decide) rfl) (a := 2) (n := 28) rfl rfl rfl ?_
      refine g_constI act (gx gp_76 (w := 0x40000000c00000009000000001d01) rfl (by decide) rfl) (n := 29) (x := (1 : Int32)) (by decide) rfl ?_
      refine g_iadd act (gx gp_76 (w := 0x1e0a) rfl (by decide) rfl) (n := 30) rfl ?_
      refine g_loadA act (gx gp_76 (w := 0x1f03) rfl (by decide) rfl) (a := 0) (n := 31) rfl rfl rfl ?_
      refine g_loadI act (gx gp_76 (w := 0x1002002) rfl (by decide) rfl) (a := 1) (n := 32) rfl rfl rfl ?_
      refine g_loadI act (gx gp_76 (w := 0x2002102) rfl (by decide) rfl) (a := 2) (n := 33) rfl rfl rfl ?_
      refine n_call tb_pres act hEnd (gx (P := G_call) gp_76 (w := 0x2000000000000c1c3300004a00240f) rfl (by decide) rfl) (d' := D_74) rfl (f' := 0) (lam' := 0) (mc := 0) (ms := 0) (as := [.ref kf, .int i, .int j]) (rest := [.int (j + (1 : Int32)), .ref ra]) (b_cof (a := i) (b := j) hT hkf hkl rkl hL (by decide) (by omega) (by omega) (by omega) (by omega)) (show (3 : Nat) = fb 0x2000000000000c1c3300004a00240f % 16 by decide) (by show (3 : Nat) ≤ 7; decide) (fun _ => ⟨_, _, rfl, _, shp_at (ty_shp hT hkf (by decide) (a := 1) (b := 4) rfl rfl), Or.inr (show fb 0x2000000000000c1c3300004a00240f >>> 68 = 2 by decide)⟩) (by omega) (by show 8 + (7 + 11) + 0 ≤ R.locals; omega) (by show (2 : Nat) ≤ 8; decide) (by show kc + 0 ≤ _; omega) (by show ks + 0 ≤ _; omega) (fun r9 h9 hpo hr9 => ?_) (fun x9 hs9 hx9 hpo => ?_)
      · obtain ⟨-, rfl, v, rfl, hv⟩ := hpo
        show WpN (gp g0 wp) CLS p l e R s m args below meth c Q D_76.2.2.1 kc0 ks0 36 [some (.ref kf), some (.int i), some (.int j)] (hs, kc, ks) [.long v, .int (j + (1 : Int32)), .ref ra]
        refine r_last act (gx gp_76 (w := 0x2505) rfl (by decide) rfl) (n := 37) (N := 4) rfl (ty_shp hT q_ra (by decide) rfl rfl) (j := (j + (1 : Int32)).toInt.toNat) (by omega) (by omega) ?_
        refine g_iinc act (gx gp_76 (w := 0x80000001000002002809) rfl (by decide) rfl) (a := 2) (i := (1 : Int32)) (n := 40) rfl (by decide) rfl rfl (L2 := [some (.ref kf), some (.int i), some (.int (j + (1 : Int32)))]) rfl ?_
        refine g_goto act (gx gp_76 (w := 0xe07) rfl (by decide) rfl) (n := 14) rfl ?_
        exact ih (j + (1 : Int32)) _ (by omega) (by omega) (lst_wrO hI hS q_ra (by decide) (by decide) (by decide) (by decide) (by decide) (by decide) (show VW KC R0 (2, 0, -9223372036854775808, 9223372036854775807) _ from vw_of (vt_lL rfl rfl rfl (fun h => by cases h)) (by decide))) (by rw [rd_ne _ _ (Or.inl (role_ne hkf q_ra (by decide)))]; exact ht)
      · exact absurd hpo.1 (by omega)

theorem ang_out {g0 : GG} {bl : Nat} {xs : Nat → Int32} {l : Launch} {wp : va_W} {p : Program} {e : Env} {R : Room} {s : State} {m : MethodId} {args : Array Value} {below : List Frame} {meth : Method} {c : Code} {Q : State → Prop} {kc0 ks0 kc ks f lam KC9 KS : Nat}  {Inv : List Nat → List CE → Prop} (hI : StI KC Inv) {R0 : List Nat} {hs0 : List CE} {kf kl : Nat} (act : Act SSX TBL (gp g0 wp) CLS bl xs D_76 p l s m args meth c) (hEnd : EndN SSX TBL (gp g0 wp) CLS D_76 p l e R s m args below meth c Q kc0 ks0 f lam KC9 KS (fun kd r h2 => kd = 0 ∧ r = none ∧ LST Inv R0 hs0 kf kl 25 h2)) (hf : 1 ≤ R.frames) (hl : 26 ≤ R.locals) (hc : kc ≤ R.cells + kc0) (hsl : ks ≤ R.slots + ks0) (hk1 : kc ≤ KC9) (hk2 : ks ≤ KS) : ∀ (n : Nat) (i : Int32) (hs : List CE) (t : Int64), 0 ≤ i.toInt → i.toInt + (n : Int) = 3 → LST Inv R0 hs0 kf kl 25 hs → rd hs kf 0 = .long t → (t.toInt.natAbs : Int) ≤ 31250 * i.toInt → WpN (gp g0 wp) CLS p l e R s m args below meth c Q D_76.2.2.1 kc0 ks0 7 [some (.ref kf), some (.int i), none] (hs, kc, ks) [] := by
  intro n
  induction n with
  | zero =>
    intro i hs t i0 hi hS ht hb
    refine g_loadI act (gx gp_76 (w := 0x1000802) rfl (by decide) rfl) (a := 1) (n := 8) rfl rfl rfl ?_
    refine g_constI act (gx gp_76 (w := 0x40000001c00000019000000000901) rfl (by decide) rfl) (n := 9) (x := (3 : Int32)) (by decide) rfl ?_
    refine g_icmpGe act (gx gp_76 (w := 0x49000c08) rfl (by decide) rfl) (tgt := 73) (n := 12) rfl rfl (fun h3 => ?_) (fun h3 => ?_)
    · simp only [i_le, show (3 : Int32).toInt = 3 from by decide] at h3
      exact g_retV hEnd (gx gp_76 (w := 0x18) rfl (by decide) rfl) ⟨rfl, rfl, hS⟩ hk1 hk2
    · simp only [i_le, show (3 : Int32).toInt = 3 from by decide] at h3
      exfalso; omega
  | succ n ih =>
    intro i hs t i0 hi hS ht hb
    refine g_loadI act (gx gp_76 (w := 0x1000802) rfl (by decide) rfl) (a := 1) (n := 8) rfl rfl rfl ?_
    refine g_constI act (gx gp_76 (w := 0x40000001c00000019000000000901) rfl (by decide) rfl) (n := 9) (x := (3 : Int32)) (by decide) rfl ?_
    refine g_icmpGe act (gx gp_76 (w := 0x49000c08) rfl (by decide) rfl) (tgt := 73) (n := 12) rfl rfl (fun h3 => ?_) (fun h3 => ?_)
    · simp only [i_le, show (3 : Int32).toInt = 3 from by decide] at h3
      exfalso; omega
    · simp only [i_le, show (3 : Int32).toInt = 3 from by decide] at h3
      refine g_constI act (gx gp_76 (w := 0x40000000400000001000000000d01) rfl (by decide) rfl) (n := 13) (x := (0 : Int32)) (by decide) rfl ?_
      refine g_storeI act (gx gp_76 (w := 0x2000e10) rfl (by decide) rfl) (a := 2) (n := 14) rfl rfl (L2 := [some (.ref kf), some (.int i), some (.int (0 : Int32))]) rfl ?_
      refine ang_in hI act hEnd hf hl hc hsl (i := i) i0 (by omega) (t := t) (fun hs hS ht => ?_) 3 0 hs (by decide) (by decide) hS ht
      obtain ⟨hX, hln, hkl, hkf, rkl, hL, hrg⟩ := id hS
      have hT := hX.1
      have z0 : (0 : Int32).toInt = 0 := by decide
      have ei : (i + (1 : Int32)).toInt = i.toInt + 1 := i_add (by show _ ≤ _ + (1 : Int); omega) (by show _ + (1 : Int) < _; omega)
      refine g_loadA act (gx gp_76 (w := 0x2c03) rfl (by decide) rfl) (a := 0) (n := 44) rfl rfl rfl ?_
      refine g_dup act (gx gp_76 (w := 0x2d22) rfl (by decide) rfl) (n := 45) rfl rfl ?_
      refine r_getf act (gx gp_76 (w := 0x2000001003004) rfl (by decide) rfl) (n := 48) (ci := 1) (j := 0) (N := 4) rfl rfl rfl (ty_shp hT hkf (by decide) rfl rfl) (by decide) (v := .long t) ht ?_
      refine g_loadA act (gx gp_76 (w := 0x3103) rfl (by decide) rfl) (a := 0) (n := 49) rfl rfl rfl ?_
      refine r_getf act (gx gp_76 (w := 0x3000081003404) rfl (by decide) rfl) (n := 52) (ci := 1) (j := 2) (N := 4) rfl rfl rfl (ty_shp hT hkf (by decide) rfl rfl) (by decide) (v := .ref kl) hkl ?_
      refine g_constI act (gx gp_76 (w := 0x40000000400000001000000003501) rfl (by decide) rfl) (n := 53) (x := (0 : Int32)) (by decide) rfl ?_
      obtain ⟨r53, e_r53, q_r53⟩ := ty_ref (r2 := 31) (j := (0 : Int32).toInt.toNat) hT rkl (by decide) (by show _ < 3; omega) (Or.inl rfl) rfl (by decide)
      refine r_aald act (gx gp_76 (w := 0x3612) rfl (by decide) rfl) (n := 54) (N := 3) rfl (ty_shp hT rkl (by decide) rfl rfl) (by decide) (j := (0 : Int32).toInt.toNat) (by omega) (by omega) (v := .ref r53) e_r53 ?_
      refine g_loadI act (gx gp_76 (w := 0x1003702) rfl (by decide) rfl) (a := 1) (n := 55) rfl rfl rfl ?_
      obtain ⟨x55, e_x55⟩ := ty_lng (j := i.toInt.toNat) hT q_r53 (by decide) (by show _ < 3; omega) rfl
      have b_x55 := hL _ (by omega) _ e_r53 _ (by omega) _ e_x55
      refine r_lald act (gx gp_76 (w := 0x380d) rfl (by decide) rfl) (n := 56) (N := 3) rfl (ty_shp hT q_r53 (by decide) rfl rfl) (j := i.toInt.toNat) (by omega) (by omega) (v := .long x55) e_x55 ?_
      refine g_loadA act (gx gp_76 (w := 0x3903) rfl (by decide) rfl) (a := 0) (n := 57) rfl rfl rfl ?_
      refine g_constI act (gx gp_76 (w := 0x40000000400000001000000003a01) rfl (by decide) rfl) (n := 58) (x := (0 : Int32)) (by decide) rfl ?_
      refine g_loadI act (gx gp_76 (w := 0x1003b02) rfl (by decide) rfl) (a := 1) (n := 59) rfl rfl rfl ?_
      refine n_call tb_pres act hEnd (gx (P := G_call) gp_76 (w := 0x2000000000000c1c3300004a003e0f) rfl (by decide) rfl) (d' := D_74) rfl (f' := 0) (lam' := 0) (mc := 0) (ms := 0) (as := [.ref kf, .int (0 : Int32), .int i]) (rest := [.long x55, .long t, .ref kf]) (b_cof (a := (0 : Int32)) (b := i) hT hkf hkl rkl hL (by decide) (by omega) (by omega) (by omega) (by omega)) (show (3 : Nat) = fb 0x2000000000000c1c3300004a003e0f % 16 by decide) (by show (3 : Nat) ≤ 7; decide) (fun _ => ⟨_, _, rfl, _, shp_at (ty_shp hT hkf (by decide) (a := 1) (b := 4) rfl rfl), Or.inr (show fb 0x2000000000000c1c3300004a003e0f >>> 68 = 2 by decide)⟩) (by omega) (by show 8 + (7 + 11) + 0 ≤ R.locals; omega) (by show (5 : Nat) ≤ 8; decide) (by show kc + 0 ≤ _; omega) (by show ks + 0 ≤ _; omega) (fun r9 h9 hpo hr9 => ?_) (fun x9 hs9 hx9 hpo => ?_)
      · obtain ⟨-, rfl, v, rfl, hv⟩ := hpo
        show WpN (gp g0 wp) CLS p l e R s m args below meth c Q D_76.2.2.1 kc0 ks0 62 [some (.ref kf), some (.int i), none] (hs, kc, ks) [.long v, .long x55, .long t, .ref kf]
        refine g_lmul act (gx gp_76 (w := 0x3f15) rfl (by decide) rfl) (n := 63) rfl ?_
        refine g_ladd act (gx gp_76 (w := 0x401f) rfl (by decide) rfl) (n := 64) rfl ?_
        refine r_putf act (gx gp_76 (w := 0x2000001004313) rfl (by decide) rfl) (n := 67) (ci := 1) (j := 0) (N := 4) rfl rfl rfl (ty_shp hT hkf (by decide) rfl rfl) (by decide) (Or.inr (Or.inr (Or.inl ⟨rfl, _, rfl⟩))) ?_
        refine g_iinc act (gx gp_76 (w := 0x80000001000001004609) rfl (by decide) rfl) (a := 1) (i := (1 : Int32)) (n := 70) rfl (by decide) rfl rfl (L2 := [some (.ref kf), some (.int (i + (1 : Int32))), none]) rfl ?_
        refine g_goto act (gx gp_76 (w := 0x707) rfl (by decide) rfl) (n := 7) rfl ?_
        have hx9 := lmB (A := 25) (B := 1250) b_x55 hv (by decide)
        have hs9 := laB (Nat.le_refl t.toInt.natAbs) hx9 (by omega)
        exact ih (i + (1 : Int32)) _ (t + x55 * v) (by omega) (by omega) (lst_wr0 hI hS (by omega)) (rd_same (ty_shp hT hkf (by decide) (a := 1) (b := 4) rfl rfl)) (by omega)
      · exact absurd hpo.1 (by omega)

theorem b_ang {g0 : GG} {bl : Nat} {xs : Nat → Int32} {l : Launch} {hs : List CE} {Inv : List Nat → List CE → Prop} (hI : StI KC Inv) {R0 : List Nat} {hs0 : List CE} {kf kl : Nat} (hS : LST Inv R0 hs0 kf kl 25 hs) : BodyN SSX TBL g0 CLS bl xs l D_76 1 26 0 0 [.ref kf] hs (fun kd r h2 => kd = 0 ∧ r = none ∧ LST Inv R0 hs0 kf kl 25 h2) := by
  obtain ⟨hX, hln, hkl, hkf, rkl, hL, hrg⟩ := id hS
  have hT := hX.1
  intro wp p e R s m args below meth c Q kc0 ks0 kc ks act hf hl hc hsl hEnd
  have hf : 1 ≤ R.frames := hf
  have hl : 26 ≤ R.locals := hl
  show WpN (gp g0 wp) CLS p l e R s m args below meth c Q D_76.2.2.1 kc0 ks0 0 [some (.ref kf), none, none] (hs, kc, ks) []
  refine g_loadA act (gx gp_76 (w := 0x103) rfl (by decide) rfl) (a := 0) (n := 1) rfl rfl rfl ?_
  refine g_constL act (gx gp_76 (w := 0x40000000000000002000000000201) rfl (by decide) rfl) (n := 2) (x := 0) (by decide) rfl ?_
  refine r_putf act (gx gp_76 (w := 0x2000001000513) rfl (by decide) rfl) (n := 5) (ci := 1) (j := 0) (N := 4) rfl rfl rfl (ty_shp hT hkf (by decide) rfl rfl) (by decide) (Or.inr (Or.inr (Or.inl ⟨rfl, _, rfl⟩))) ?_
  refine g_constI act (gx gp_76 (w := 0x40000000400000001000000000601) rfl (by decide) rfl) (n := 6) (x := (0 : Int32)) (by decide) rfl ?_
  refine g_storeI act (gx gp_76 (w := 0x1000710) rfl (by decide) rfl) (a := 1) (n := 7) rfl rfl (L2 := [some (.ref kf), some (.int (0 : Int32)), none]) rfl ?_
  exact ang_out hI act hEnd hf hl (by omega) (by omega) (by omega) (by omega) 3 0 _ 0 (by decide) (by decide) (lst_wr0 hI hS (by decide)) (rd_same (ty_shp hT hkf (by decide) (a := 1) (b := 4) rfl rfl)) (by decide)

