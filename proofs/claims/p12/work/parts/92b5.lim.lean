/-! A row for a flow: limitsFlow. -/
theorem FR.sgP {t w : Int64} {q : Rat} (h : FR t w q) : FR ((1 : Int64) * t) w q := by
  rw [show (1 : Int64) * t = t from Int64.one_mul t]; exact h
theorem FR.sgM {t w : Int64} {q : Rat} (h : FR t w q) (hs : Sml q) : FR ((-1 : Int64) * t) w (-q) := by
  rw [show (-1 : Int64) * t = -t by rw [Int64.neg_mul, Int64.one_mul]]; exact h.ngS hs
theorem sml_int {z : Int} (h1 : -1000000000 ≤ z) (h2 : z ≤ 1000000000) : Sml ((z : Int) : Rat) := ⟨by show z.natAbs ≤ _; omega, by show 1 ≤ 1000000000; decide⟩
/-- the side of a flow's row, node by node -/
def sdn (fac : Nat → Rat) (dm : Nat → Int) (s lm : Int) (b : Nat) : Nat → Rat
  | 0 => ((lm : Int) : Rat)
  | n + 1 => sdn fac dm s lm b n + fac (b + n) * ((s * dm n : Int) : Rat)
def cfn (fac : Nat → Rat) (tl : Nat → Int) (s : Int) (b g : Nat) : Rat := ((s : Int) : Rat) * fac (b + (tl (17 + g)).toNat)
def opT (T : Nat → Rat) (r : Nat) (sd : Rat) (cf : Nat → Rat) (g : Nat) : Nat → Rat := fun i => if i = 35 * r + 34 then sd else if 35 * r ≤ i ∧ i < 35 * r + g then cf (i - 35 * r) else T i
theorem side_step {T : Nat → Rat} {i : Nat} {a q : Rat} (j : Nat) : upQ (upQ T i a) i (upQ T i a i + q) j = upQ T i (a + q) j := by
  unfold upQ
  by_cases z : j = i
  · rw [if_pos z, if_pos z, if_pos rfl]
  · rw [if_neg z, if_neg z, if_neg z]
theorem side_op {T : Nat → Rat} {r : Nat} {a : Rat} {cf : Nat → Rat} (j : Nat) : upQ T (35 * r + 34) a j = opT T r a cf 0 j := by
  unfold upQ opT
  by_cases z : j = 35 * r + 34
  · rw [if_pos z, if_pos z]
  · rw [if_neg z, if_neg z, if_neg (by omega)]
theorem op_step {T : Nat → Rat} {r : Nat} {sd : Rat} {cf : Nat → Rat} {g : Nat} (hg : g < 5) {q : Rat} (hq : q = cf g) : ∀ j, upQ (opT T r sd cf g) (35 * r + g) q j = opT T r sd cf (g + 1) j := by
  intro j
  unfold upQ opT
  by_cases z : j = 35 * r + g
  · rw [if_pos z, if_neg (by omega), if_pos (by omega), hq, show j - 35 * r = g by omega]
  · rw [if_neg z]
    by_cases z2 : j = 35 * r + 34
    · rw [if_pos z2, if_pos z2]
    · have : (35 * r ≤ j ∧ j < 35 * r + g) ↔ (35 * r ≤ j ∧ j < 35 * r + (g + 1)) := by omega
      simp only [this]
theorem op_row {T : Nat → Rat} {bz : Nat → Int} {r gd ng : Nat} {S : Nat → RS9} {ct : Nat → Rat} {sd : Rat} {cf : Nat → Rat} (h : TI T bz r S gd ct) (hr : r < 29) (hng : ng ≤ 5) (hS : S r = (fun g => if g < ng then cf g else 0, sd)) : ∀ j, j < 35 → opT T r sd cf ng (35 * r + j) = opn (S r) j := fun j hj => by
  rw [hS]
  unfold opT opn
  by_cases z : j = 34
  · rw [if_pos (by omega), if_neg (by omega), if_pos z]
  · rw [if_neg (by omega)]
    by_cases z2 : j < 5
    · rw [if_pos z2]
      show _ = if j < ng then cf j else 0
      by_cases z3 : j < ng
      · rw [if_pos (by omega), if_pos z3, Nat.add_sub_cancel_left]
      · rw [if_neg (by omega), if_neg z3]; exact h.2 r j (Nat.le_refl _) (by omega) hj
    · rw [if_neg (by omega), if_neg z2, if_neg z]; exact h.2 r j (Nat.le_refl _) (by omega) hj
theorem op_rest {T : Nat → Rat} {r ng : Nat} {sd : Rat} {cf : Nat → Rat} (hng : ng ≤ 5) : ∀ i, i < 1295 → i / 35 ≠ r → opT T r sd cf ng i = T i := fun i hi hn => by
  unfold opT
  rw [if_neg (by omega), if_neg (by omega)]

theorem lim_bP {g0 : GG} {bl : Nat} {xs : Nat → Int32} {l : Launch} {wp : va_W} {p : Program} {e : Env} {R : Room} {s : State} {m : MethodId} {args : Array Value} {below : List Frame} {meth : Method} {c : Code} {Q : State → Prop} {kc0 ks0 kc ks f lam KC KS : Nat} {hs : List CE} {T fac ct : Nat → Rat} {bz tl dm : Nat → Int} {ri li gi lmi : Int32} {r ln9 gr nn ng gd lam9 : Nat} {lm : Int} {S : Nat → RS9} (hri : ri.toInt = (r : Int)) (hr : r < 29) (hli : li.toInt = (ln9 : Int)) (hgi : gi.toInt = (gr : Int)) (hl6 : ln9 < 6) (hg2 : gr < 2) (hlm : lmi.toInt = lm) (hlm0 : 0 ≤ lm) (hlm9 : lm ≤ 100001) (hnn : tl 0 = (nn : Int)) (hn4 : nn ≤ 4) (hng : tl 3 = (ng : Int)) (hn5 : ng ≤ 5) (hat : ∀ g, g < ng → 0 ≤ tl (17 + g) ∧ tl (17 + g) ≤ 3) (hdm : ∀ j, 0 ≤ dm j ∧ dm j ≤ 220) (hFs : ∀ j, 24 * gr ≤ j → j < 24 * gr + 24 → Sml (fac j)) (hPs : ∀ j, j < nn → Sml (fac (24 * gr + 4 * ln9 + j) * ((1 * dm j : Int) : Rat))) (hSd : ∀ j, j ≤ nn → Sml (sdn fac dm 1 lm (24 * gr + 4 * ln9) j)) (hTI : TI T bz r S gd ct) (hSr : S r = (fun g => if g < ng then cfn fac tl 1 (24 * gr + 4 * ln9) g else 0, sdn fac dm 1 lm (24 * gr + 4 * ln9) nn)) (h0 : 0 < lam9) (h256 : lam9 ≤ 256) (hSm : ∀ i, i ≤ r → SmS lam9 (S i)) (hf : 5 ≤ R.frames) (hl : 136 ≤ R.locals) (hc : kc ≤ R.cells + kc0) (hsl : ks ≤ R.slots + ks0) (act : Act SSX TBL (gp g0 wp) CLS bl xs D_236 p l s m args meth c) (hEnd : EndN SSX TBL (gp g0 wp) CLS D_236 p l e R s m args below meth c Q kc0 ks0 f lam KC KS (fun kd _ h2 => kd = 0 ∧ ∃ (T2 : Nat → Rat) (bz2 : Nat → Int), QArr h2 139 140 1295 T2 ∧ IArr h2 141 30 bz2 ∧ TI T2 bz2 (r + 1) S gd ct ∧ rd h2 124 28 = .int (ri + (1 : Int32)) ∧ FrS WC hs h2)) (hk1 : kc ≤ KC) (hk2 : ks ≤ KS) : ∀ j9 : Nat, j9 ≤ ng → ∀ (xi : Int32) (hj : List CE), xi.toInt = (j9 : Int) → RW hj → IArr hj 125 46 tl → QRng hj 131 132 (24 * gr) (24 * gr + 24) fac → IArr hj 135 4 dm → IArr hj 141 30 bz → rd hj 124 28 = .int ri → QArr hj 139 140 1295 (opT T r (sdn fac dm 1 lm (24 * gr + 4 * ln9) nn) (cfn fac tl 1 (24 * gr + 4 * ln9)) j9) → FrS WC hs hj → WpN (gp g0 wp) CLS p l e R s m args below meth c Q D_236.2.2.1 kc0 ks0 97 [some (.ref 124), some (.int li), some (.int gi), some (.int lmi), some (.long (1 : Int64)), none, some (.int xi), none] (hj, kc, ks) [] := by
  refine dn (fun j9 hj9 ih => ?_)
  intro xi hj hxi rwj hTo hR hD hB h28 hT hfr
  have hag := hat j9
  refine g_loadI act (gx gp_236 (w := 0x6006302) rfl (by decide) rfl) (a := 6) (n := 99) rfl rfl rfl ?_
  refine g_loadA act (gx gp_236 (w := 0x6403) rfl (by decide) rfl) (a := 0) (n := 100) rfl rfl rfl ?_
  refine r_getf act (gx gp_236 (w := 0x3000049006704) rfl (by decide) rfl) (n := 103) (ci := 9) (j := 1) (N := 39) rfl rfl rfl rwj.1 (by decide) (rwj.2 (1, 125, 32, 46) (by decide)).1 ?_
  refine g_constI act (gx gp_236 (w := 0x40000001c00000019000000006801) rfl (by decide) rfl) (n := 104) (x := (3 : Int32)) (by decide) rfl ?_
  obtain ⟨x_1, e_2, hx_3⟩ := hTo 3 (by omega)
  refine r_iald act (gx gp_236 (w := 0x691a) rfl (by decide) rfl) (n := 105) (j := 3) rfl (rwj.2 (1, 125, 32, 46) (by decide)).2 (show (3 : Int32).toInt = ((3 : Nat) : Int) from by decide) (show 3 < 46 by omega) (v := .int x_1) e_2 ?_
  refine g_icmpGe act (gx gp_236 (w := 0xa2006c08) rfl (by decide) rfl) (tgt := 162) (n := 108) rfl rfl (fun h4 => ?_) (fun h4 => ?_)
  · simp only [i_le] at h4
    refine g_loadA act (gx gp_236 (w := 0xa303) rfl (by decide) rfl) (a := 0) (n := 163) rfl rfl rfl ?_
    refine g_constI act (gx gp_236 (w := 0x4000000040000000100000000a401) rfl (by decide) rfl) (n := 164) (x := (0 : Int32)) (by decide) rfl ?_
    obtain rfl : j9 = ng := by omega
    have hrow := op_row hTI hr hn5 hSr
    refine n_call tb_pres act hEnd (gx (P := G_call) gp_236 (w := 0xa000000000000814220000bd00a70f) rfl (by decide) rfl) (d' := D_189) rfl (as := [.ref 124, .int (0 : Int32)]) (rest := []) (b_closes0 (r := r) hri hr (fun k hk => by rw [hrow k hk]; exact opn_sm h0 h256 (hSm r (Nat.le_refl _)) k) (fun k hk => by rw [op_rest hn5 _ (by omega) (by omega)]; exact gol_sm h0 h256 (by omega) (fun i hi => hSm i (by omega)) hTI.1 k hk) rwj hT hB h28) (show (2 : Nat) = fb 0xa000000000000814220000bd00a70f % 16 by decide) (by show (2 : Nat) ≤ 5; decide) (fun _ => ⟨_, _, rfl, _, shp_at rwj.1, Or.inr (show fb 0xa000000000000814220000bd00a70f >>> 68 = 10 by decide)⟩) (by omega) (by show 8 + (5 + 11) + 112 ≤ R.locals; omega) (by show (0 : Nat) ≤ 8; decide) (by show kc + 0 ≤ _; omega) (by show ks + 0 ≤ _; omega) (fun r9 hs_9 hpo hr9 => ?_) (fun x9 hs9 hx9 hpo => ?_)
    · obtain rfl : r9 = none := hr9.elim (fun q => q.2) (fun q => absurd rfl q.1)
      obtain ⟨-, tr_7, hn_8, hA_4, hb_5, h8_6, fr_10⟩ := hpo
      have rw_11 := rwj.fr fr_10 WC_rw
      have f_12 := hTo.fr (fun j9 _ => fr_10.2.2 125 j9 (by unfold WC; omega))
      have f_13 := hR.fr (fun j9 _ _ => ⟨fr_10.2.2 131 j9 (by unfold WC; omega), fr_10.2.2 132 j9 (by unfold WC; omega)⟩)
      have f_14 := hD.fr (fun j9 _ => fr_10.2.2 135 j9 (by unfold WC; omega))
      have fr_15 := hfr.tr fr_10
      clear rwj hTo hR hD hB h28 hT hfr
      show WpN (gp g0 wp) CLS p l e R s m args below meth c Q D_236.2.2.1 kc0 ks0 167 [some (.ref 124), some (.int li), some (.int gi), some (.int lmi), some (.long (1 : Int64)), none, some (.int xi), none] (hs_9, kc, ks) []
      rw [hrow 34 (by decide)] at hn_8
      exact g_retV hEnd (gx gp_236 (w := 0x18) rfl (by decide) rfl) ⟨rfl, _, _, hA_4, hb_5, (hTI.opens2 hr hrow (op_rest hn5)).close hr hn_8, h8_6, fr_15⟩ hk1 hk2
    · exact absurd hpo.1 (by omega)
  · simp only [i_le] at h4
    refine g_constI act (gx gp_236 (w := 0x4000000c4000000c1000000006e01) rfl (by decide) rfl) (n := 110) (x := (24 : Int32)) (by decide) rfl ?_
    refine g_loadI act (gx gp_236 (w := 0x2006f02) rfl (by decide) rfl) (a := 2) (n := 111) rfl rfl rfl ?_
    refine g_imul act (gx gp_236 (w := 0x7011) rfl (by decide) rfl) (n := 112) rfl ?_
    have v_16 := iv_mulN (show (24 : Int32).toInt = ((24 : Nat) : Int) from by decide) hgi (show (24 * gr) < 2147483648 by omega)
    refine g_constI act (gx gp_236 (w := 0x40000002400000021000000007101) rfl (by decide) rfl) (n := 113) (x := (4 : Int32)) (by decide) rfl ?_
    refine g_loadI act (gx gp_236 (w := 0x1007202) rfl (by decide) rfl) (a := 1) (n := 114) rfl rfl rfl ?_
    refine g_imul act (gx gp_236 (w := 0x7311) rfl (by decide) rfl) (n := 115) rfl ?_
    have v_17 := iv_mulN (show (4 : Int32).toInt = ((4 : Nat) : Int) from by decide) hli (show (4 * ln9) < 2147483648 by omega)
    refine g_iadd act (gx gp_236 (w := 0x740a) rfl (by decide) rfl) (n := 116) rfl ?_
    have v_18 := iv_addN v_16 v_17 (show ((24 * gr) + (4 * ln9)) < 2147483648 by omega)
    refine g_loadA act (gx gp_236 (w := 0x7503) rfl (by decide) rfl) (a := 0) (n := 117) rfl rfl rfl ?_
    refine r_getf act (gx gp_236 (w := 0x3000049007804) rfl (by decide) rfl) (n := 120) (ci := 9) (j := 1) (N := 39) rfl rfl rfl rwj.1 (by decide) (rwj.2 (1, 125, 32, 46) (by decide)).1 ?_
    refine g_constI act (gx gp_236 (w := 0x40000008c00000089000000007a01) rfl (by decide) rfl) (n := 122) (x := (17 : Int32)) (by decide) rfl ?_
    refine g_loadI act (gx gp_236 (w := 0x6007c02) rfl (by decide) rfl) (a := 6) (n := 124) rfl rfl rfl ?_
    refine g_iadd act (gx gp_236 (w := 0x7d0a) rfl (by decide) rfl) (n := 125) rfl ?_
    have v_19 := iv_addN (show (17 : Int32).toInt = ((17 : Nat) : Int) from by decide) hxi (show (17 + j9) < 2147483648 by omega)
    obtain ⟨x_20, e_21, hx_22⟩ := hTo (17 + j9) (by omega)
    refine r_iald act (gx gp_236 (w := 0x7e1a) rfl (by decide) rfl) (n := 126) (j := (17 + j9)) rfl (rwj.2 (1, 125, 32, 46) (by decide)).2 v_19 (show (17 + j9) < 46 by omega) (v := .int x_20) e_21 ?_
    refine g_iadd act (gx gp_236 (w := 0x7f0a) rfl (by decide) rfl) (n := 127) rfl ?_
    have v_23 := iv_add v_18 hx_22 (show -2147483648 ≤ (((((24 * gr) + (4 * ln9)) : Nat) : Int) + (tl (17 + j9))) by omega) (show (((((24 * gr) + (4 * ln9)) : Nat) : Int) + (tl (17 + j9))) < 2147483648 by omega)
    refine g_storeI act (gx gp_236 (w := 0x7008110) rfl (by decide) rfl) (a := 7) (n := 129) rfl rfl (L2 := [some (.ref 124), some (.int li), some (.int gi), some (.int lmi), some (.long (1 : Int64)), none, some (.int xi), some (.int ((((24 : Int32) * gi) + ((4 : Int32) * li)) + x_20))]) rfl ?_
    refine g_loadA act (gx gp_236 (w := 0x8203) rfl (by decide) rfl) (a := 0) (n := 130) rfl rfl rfl ?_
    refine g_loadA act (gx gp_236 (w := 0x8303) rfl (by decide) rfl) (a := 0) (n := 131) rfl rfl rfl ?_
    refine r_getf act (gx gp_236 (w := 0x709008604) rfl (by decide) rfl) (n := 134) (ci := 9) (j := 28) (N := 39) rfl rfl rfl rwj.1 (by decide) (v := .int ri) h28 ?_
    refine g_loadI act (gx gp_236 (w := 0x6008802) rfl (by decide) rfl) (a := 6) (n := 136) rfl rfl rfl ?_
    refine g_loadL act (gx gp_236 (w := 0x4008a06) rfl (by decide) rfl) (a := 4) (n := 138) rfl rfl rfl ?_
    refine g_loadA act (gx gp_236 (w := 0x8b03) rfl (by decide) rfl) (a := 0) (n := 139) rfl rfl rfl ?_
    refine r_getf act (gx gp_236 (w := 0x3000409008e04) rfl (by decide) rfl) (n := 142) (ci := 9) (j := 16) (N := 39) rfl rfl rfl rwj.1 (by decide) (rwj.2 (16, 131, 33, 48) (by decide)).1 ?_
    refine g_loadI act (gx gp_236 (w := 0x7009002) rfl (by decide) rfl) (a := 7) (n := 144) rfl rfl rfl ?_
    obtain ⟨j_24, hj_25⟩ := Int.eq_ofNat_of_zero_le (show (0 : Int) ≤ (((((24 * gr) + (4 * ln9)) : Nat) : Int) + (tl (17 + j9))) by omega)
    obtain ⟨x_26, w_29, e_27, e_30, hx_28⟩ := hR j_24 (by omega) (by omega)
    refine r_lald act (gx gp_236 (w := 0x910d) rfl (by decide) rfl) (n := 145) (j := j_24) rfl (rwj.2 (16, 131, 33, 48) (by decide)).2 (v_23.trans hj_25) (show j_24 < 48 by omega) (v := .long x_26) e_27 ?_
    refine g_lmul act (gx gp_236 (w := 0x9215) rfl (by decide) rfl) (n := 146) rfl ?_
    refine g_loadA act (gx gp_236 (w := 0x9303) rfl (by decide) rfl) (a := 0) (n := 147) rfl rfl rfl ?_
    refine r_getf act (gx gp_236 (w := 0x3000449009604) rfl (by decide) rfl) (n := 150) (ci := 9) (j := 17) (N := 39) rfl rfl rfl rwj.1 (by decide) (rwj.2 (17, 132, 33, 48) (by decide)).1 ?_
    refine g_loadI act (gx gp_236 (w := 0x7009802) rfl (by decide) rfl) (a := 7) (n := 152) rfl rfl rfl ?_
    refine r_lald act (gx gp_236 (w := 0x990d) rfl (by decide) rfl) (n := 153) (j := j_24) rfl (rwj.2 (17, 132, 33, 48) (by decide)).2 (v_23.trans hj_25) (show j_24 < 48 by omega) (v := .long w_29) e_30 ?_
    refine n_call tb_pres act hEnd (gx (P := G_call) gp_236 (w := 0xa00000000000081c75000100009c0f) rfl (by decide) rfl) (d' := D_256) rfl (as := [.ref 124, .int ri, .int xi, .long ((1 : Int64) * x_26), .long w_29]) (rest := []) (b_putsQ (R9 := r) (C9 := j9) rwj hT hri hxi (by omega) (FR.sgP hx_28)) (show (5 : Nat) = fb 0xa00000000000081c75000100009c0f % 16 by decide) (by show (7 : Nat) ≤ 7; decide) (fun _ => ⟨_, _, rfl, _, shp_at rwj.1, Or.inr (show fb 0xa00000000000081c75000100009c0f >>> 68 = 10 by decide)⟩) (by omega) (by show 8 + (7 + 11) + 0 ≤ R.locals; omega) (by show (0 : Nat) ≤ 8; decide) (by show kc + 0 ≤ _; omega) (by show ks + 0 ≤ _; omega) (fun r9 hs_37 hpo hr9 => ?_) (fun x9 hs9 hx9 hpo => ?_)
    · obtain rfl : r9 = none := hr9.elim (fun q => q.2) (fun q => absurd rfl q.1)
      obtain ⟨-, hT_36, fr_38⟩ := hpo
      have rw_39 := rwj.fr fr_38 W1_rw
      have f_40 := hTo.fr (fun j9 _ => fr_38.2.2 125 j9 (by unfold W1; omega))
      have f_41 := hR.fr (fun j9 _ _ => ⟨fr_38.2.2 131 j9 (by unfold W1; omega), fr_38.2.2 132 j9 (by unfold W1; omega)⟩)
      have f_42 := hD.fr (fun j9 _ => fr_38.2.2 135 j9 (by unfold W1; omega))
      have f_43 := hB.fr (fun j9 _ => fr_38.2.2 141 j9 (by unfold W1; omega))
      have f_44 := rd_fr fr_38 h28 (by unfold W1; omega)
      have fr_45 := hfr.tr (fr_38.mono (fun k9 j9 h9 => by unfold W1 at h9; unfold WC; omega))
      clear rwj hTo hR hD hB h28 hT hfr
      show WpN (gp g0 wp) CLS p l e R s m args below meth c Q D_236.2.2.1 kc0 ks0 156 [some (.ref 124), some (.int li), some (.int gi), some (.int lmi), some (.long (1 : Int64)), none, some (.int xi), some (.int ((((24 : Int32) * gi) + ((4 : Int32) * li)) + x_20))] (hs_37, kc, ks) []
      refine g_iinc act (gx gp_236 (w := 0x80000001000006009f09) rfl (by decide) rfl) (a := 6) (i := (1 : Int32)) (n := 159) rfl (by decide) rfl rfl (L2 := [some (.ref 124), some (.int li), some (.int gi), some (.int lmi), some (.long (1 : Int64)), none, some (.int (xi + (1 : Int32))), some (.int ((((24 : Int32) * gi) + ((4 : Int32) * li)) + x_20))]) rfl ?_
      have v_46 := iv_addN hxi (show (1 : Int32).toInt = ((1 : Nat) : Int) from by decide) (show (j9 + 1) < 2147483648 by omega)
      refine g_goto act (gx gp_236 (w := 0x6107) rfl (by decide) rfl) (n := 97) rfl ?_
      exact n_forget (d := D_236) (L2 := [some (.ref 124), some (.int li), some (.int gi), some (.int lmi), some (.long (1 : Int64)), none, some (.int (xi + (1 : Int32))), none]) (fun i v hi => by
        match i, hi with
        | 0, hi => exact hi
        | 1, hi => exact hi
        | 2, hi => exact hi
        | 3, hi => exact hi
        | 4, hi => exact hi
        | 5, hi => cases hi
        | 6, hi => exact hi
        | 7, hi => cases hi
        | i + 8, hi => cases hi) (ih (j9 + 1) (by omega) (by omega) _ _ v_46 rw_39 f_40 f_41 f_42 f_43 f_44 (hT_36.cong (fun j _ => op_step (by omega) (by unfold cfn; rw [show 24 * gr + 4 * ln9 + (tl (17 + j9)).toNat = j_24 by omega]; first | grind | (rw [show (((1 : Int)) : Rat) = 1 from rfl]; grind) | (rw [show (((-1 : Int)) : Rat) = -1 from rfl]; grind)) j)) fr_45)
    · exact absurd hpo.1 (by omega)

theorem lim_aP {g0 : GG} {bl : Nat} {xs : Nat → Int32} {l : Launch} {wp : va_W} {p : Program} {e : Env} {R : Room} {s : State} {m : MethodId} {args : Array Value} {below : List Frame} {meth : Method} {c : Code} {Q : State → Prop} {kc0 ks0 kc ks f lam KC KS : Nat} {hs : List CE} {T fac ct : Nat → Rat} {bz tl dm : Nat → Int} {ri li gi lmi : Int32} {r ln9 gr nn ng gd lam9 : Nat} {lm : Int} {S : Nat → RS9} (hri : ri.toInt = (r : Int)) (hr : r < 29) (hli : li.toInt = (ln9 : Int)) (hgi : gi.toInt = (gr : Int)) (hl6 : ln9 < 6) (hg2 : gr < 2) (hlm : lmi.toInt = lm) (hlm0 : 0 ≤ lm) (hlm9 : lm ≤ 100001) (hnn : tl 0 = (nn : Int)) (hn4 : nn ≤ 4) (hng : tl 3 = (ng : Int)) (hn5 : ng ≤ 5) (hat : ∀ g, g < ng → 0 ≤ tl (17 + g) ∧ tl (17 + g) ≤ 3) (hdm : ∀ j, 0 ≤ dm j ∧ dm j ≤ 220) (hFs : ∀ j, 24 * gr ≤ j → j < 24 * gr + 24 → Sml (fac j)) (hPs : ∀ j, j < nn → Sml (fac (24 * gr + 4 * ln9 + j) * ((1 * dm j : Int) : Rat))) (hSd : ∀ j, j ≤ nn → Sml (sdn fac dm 1 lm (24 * gr + 4 * ln9) j)) (hTI : TI T bz r S gd ct) (hSr : S r = (fun g => if g < ng then cfn fac tl 1 (24 * gr + 4 * ln9) g else 0, sdn fac dm 1 lm (24 * gr + 4 * ln9) nn)) (h0 : 0 < lam9) (h256 : lam9 ≤ 256) (hSm : ∀ i, i ≤ r → SmS lam9 (S i)) (hf : 5 ≤ R.frames) (hl : 136 ≤ R.locals) (hc : kc ≤ R.cells + kc0) (hsl : ks ≤ R.slots + ks0) (act : Act SSX TBL (gp g0 wp) CLS bl xs D_236 p l s m args meth c) (hEnd : EndN SSX TBL (gp g0 wp) CLS D_236 p l e R s m args below meth c Q kc0 ks0 f lam KC KS (fun kd _ h2 => kd = 0 ∧ ∃ (T2 : Nat → Rat) (bz2 : Nat → Int), QArr h2 139 140 1295 T2 ∧ IArr h2 141 30 bz2 ∧ TI T2 bz2 (r + 1) S gd ct ∧ rd h2 124 28 = .int (ri + (1 : Int32)) ∧ FrS WC hs h2)) (hk1 : kc ≤ KC) (hk2 : ks ≤ KS) : ∀ j9 : Nat, j9 ≤ nn → ∀ (xi : Int32) (hj : List CE), xi.toInt = (j9 : Int) → RW hj → IArr hj 125 46 tl → QRng hj 131 132 (24 * gr) (24 * gr + 24) fac → IArr hj 135 4 dm → IArr hj 141 30 bz → rd hj 124 28 = .int ri → QArr hj 139 140 1295 (upQ T (35 * r + 34) (sdn fac dm 1 lm (24 * gr + 4 * ln9) j9)) → FrS WC hs hj → WpN (gp g0 wp) CLS p l e R s m args below meth c Q D_236.2.2.1 kc0 ks0 16 [some (.ref 124), some (.int li), some (.int gi), some (.int lmi), some (.long (1 : Int64)), none, some (.int xi), none] (hj, kc, ks) [] := by
  refine dn (fun j9 hj9 ih => ?_)
  intro xi hj hxi rwj hTo hR hD hB h28 hT hfr
  refine g_loadI act (gx gp_236 (w := 0x6001202) rfl (by decide) rfl) (a := 6) (n := 18) rfl rfl rfl ?_
  refine g_loadA act (gx gp_236 (w := 0x1303) rfl (by decide) rfl) (a := 0) (n := 19) rfl rfl rfl ?_
  refine r_getf act (gx gp_236 (w := 0x3000049001604) rfl (by decide) rfl) (n := 22) (ci := 9) (j := 1) (N := 39) rfl rfl rfl rwj.1 (by decide) (rwj.2 (1, 125, 32, 46) (by decide)).1 ?_
  refine g_constI act (gx gp_236 (w := 0x40000000400000001000000001701) rfl (by decide) rfl) (n := 23) (x := (0 : Int32)) (by decide) rfl ?_
  obtain ⟨x_1, e_2, hx_3⟩ := hTo 0 (by omega)
  refine r_iald act (gx gp_236 (w := 0x181a) rfl (by decide) rfl) (n := 24) (j := 0) rfl (rwj.2 (1, 125, 32, 46) (by decide)).2 (show (0 : Int32).toInt = ((0 : Nat) : Int) from by decide) (show 0 < 46 by omega) (v := .int x_1) e_2 ?_
  refine g_icmpGe act (gx gp_236 (w := 0x5e001b08) rfl (by decide) rfl) (tgt := 94) (n := 27) rfl rfl (fun h4 => ?_) (fun h4 => ?_)
  · simp only [i_le] at h4
    refine g_constI act (gx gp_236 (w := 0x40000000400000001000000005f01) rfl (by decide) rfl) (n := 95) (x := (0 : Int32)) (by decide) rfl ?_
    refine g_storeI act (gx gp_236 (w := 0x6006110) rfl (by decide) rfl) (a := 6) (n := 97) rfl rfl (L2 := [some (.ref 124), some (.int li), some (.int gi), some (.int lmi), some (.long (1 : Int64)), none, some (.int (0 : Int32)), none]) rfl ?_
    obtain rfl : j9 = nn := by omega
    exact lim_bP hri hr hli hgi hl6 hg2 hlm hlm0 hlm9 hnn hn4 hng hn5 hat hdm hFs hPs hSd hTI hSr h0 h256 hSm hf hl hc hsl act hEnd hk1 hk2 0 (by omega) _ hj rfl rwj hTo hR hD hB h28 (hT.cong (fun j _ => side_op j)) hfr
  · simp only [i_le] at h4
    refine g_constI act (gx gp_236 (w := 0x4000000c4000000c1000000001d01) rfl (by decide) rfl) (n := 29) (x := (24 : Int32)) (by decide) rfl ?_
    refine g_loadI act (gx gp_236 (w := 0x2001e02) rfl (by decide) rfl) (a := 2) (n := 30) rfl rfl rfl ?_
    refine g_imul act (gx gp_236 (w := 0x1f11) rfl (by decide) rfl) (n := 31) rfl ?_
    have v_4 := iv_mulN (show (24 : Int32).toInt = ((24 : Nat) : Int) from by decide) hgi (show (24 * gr) < 2147483648 by omega)
    refine g_constI act (gx gp_236 (w := 0x40000002400000021000000002001) rfl (by decide) rfl) (n := 32) (x := (4 : Int32)) (by decide) rfl ?_
    refine g_loadI act (gx gp_236 (w := 0x1002102) rfl (by decide) rfl) (a := 1) (n := 33) rfl rfl rfl ?_
    refine g_imul act (gx gp_236 (w := 0x2211) rfl (by decide) rfl) (n := 34) rfl ?_
    have v_5 := iv_mulN (show (4 : Int32).toInt = ((4 : Nat) : Int) from by decide) hli (show (4 * ln9) < 2147483648 by omega)
    refine g_iadd act (gx gp_236 (w := 0x230a) rfl (by decide) rfl) (n := 35) rfl ?_
    have v_6 := iv_addN v_4 v_5 (show ((24 * gr) + (4 * ln9)) < 2147483648 by omega)
    refine g_loadI act (gx gp_236 (w := 0x6002502) rfl (by decide) rfl) (a := 6) (n := 37) rfl rfl rfl ?_
    refine g_iadd act (gx gp_236 (w := 0x260a) rfl (by decide) rfl) (n := 38) rfl ?_
    have v_7 := iv_addN v_6 hxi (show (((24 * gr) + (4 * ln9)) + j9) < 2147483648 by omega)
    refine g_storeI act (gx gp_236 (w := 0x7002810) rfl (by decide) rfl) (a := 7) (n := 40) rfl rfl (L2 := [some (.ref 124), some (.int li), some (.int gi), some (.int lmi), some (.long (1 : Int64)), none, some (.int xi), some (.int ((((24 : Int32) * gi) + ((4 : Int32) * li)) + xi))]) rfl ?_
    refine g_loadA act (gx gp_236 (w := 0x2903) rfl (by decide) rfl) (a := 0) (n := 41) rfl rfl rfl ?_
    refine g_loadA act (gx gp_236 (w := 0x2a03) rfl (by decide) rfl) (a := 0) (n := 42) rfl rfl rfl ?_
    refine r_getf act (gx gp_236 (w := 0x3000409002d04) rfl (by decide) rfl) (n := 45) (ci := 9) (j := 16) (N := 39) rfl rfl rfl rwj.1 (by decide) (rwj.2 (16, 131, 33, 48) (by decide)).1 ?_
    refine g_loadI act (gx gp_236 (w := 0x7002f02) rfl (by decide) rfl) (a := 7) (n := 47) rfl rfl rfl ?_
    obtain ⟨x_8, w_11, e_9, e_12, hx_10⟩ := hR (((24 * gr) + (4 * ln9)) + j9) (by omega) (by omega)
    refine r_lald act (gx gp_236 (w := 0x300d) rfl (by decide) rfl) (n := 48) (j := (((24 * gr) + (4 * ln9)) + j9)) rfl (rwj.2 (16, 131, 33, 48) (by decide)).2 v_7 (show (((24 * gr) + (4 * ln9)) + j9) < 48 by omega) (v := .long x_8) e_9 ?_
    refine g_loadA act (gx gp_236 (w := 0x3103) rfl (by decide) rfl) (a := 0) (n := 49) rfl rfl rfl ?_
    refine r_getf act (gx gp_236 (w := 0x3000449003404) rfl (by decide) rfl) (n := 52) (ci := 9) (j := 17) (N := 39) rfl rfl rfl rwj.1 (by decide) (rwj.2 (17, 132, 33, 48) (by decide)).1 ?_
    refine g_loadI act (gx gp_236 (w := 0x7003602) rfl (by decide) rfl) (a := 7) (n := 54) rfl rfl rfl ?_
    refine r_lald act (gx gp_236 (w := 0x370d) rfl (by decide) rfl) (n := 55) (j := (((24 * gr) + (4 * ln9)) + j9)) rfl (rwj.2 (17, 132, 33, 48) (by decide)).2 v_7 (show (((24 * gr) + (4 * ln9)) + j9) < 48 by omega) (v := .long w_11) e_12 ?_
    refine g_loadL act (gx gp_236 (w := 0x4003906) rfl (by decide) rfl) (a := 4) (n := 57) rfl rfl rfl ?_
    refine g_loadA act (gx gp_236 (w := 0x3a03) rfl (by decide) rfl) (a := 0) (n := 58) rfl rfl rfl ?_
    refine r_getf act (gx gp_236 (w := 0x3000509003d04) rfl (by decide) rfl) (n := 61) (ci := 9) (j := 20) (N := 39) rfl rfl rfl rwj.1 (by decide) (rwj.2 (20, 135, 32, 4) (by decide)).1 ?_
    refine g_loadI act (gx gp_236 (w := 0x6003f02) rfl (by decide) rfl) (a := 6) (n := 63) rfl rfl rfl ?_
    obtain ⟨x_18, e_19, hx_20⟩ := hD j9 (by omega)
    have b_21 := hdm j9
    refine r_iald act (gx gp_236 (w := 0x401a) rfl (by decide) rfl) (n := 64) (j := j9) rfl (rwj.2 (20, 135, 32, 4) (by decide)).2 hxi (show j9 < 4 by omega) (v := .int x_18) e_19 ?_
    refine g_i2l act (gx gp_236 (w := 0x412c) rfl (by decide) rfl) (n := 65) rfl ?_
    have v_22 := lw_i2l hx_20
    refine g_lmul act (gx gp_236 (w := 0x4215) rfl (by decide) rfl) (n := 66) rfl ?_
    have v_23 := lw_mul (show (1 : Int64).toInt = (1 : Int) from by decide) v_22 (show -9223372036854775808 ≤ (1 * (dm j9)) by omega) (show (1 * (dm j9)) < 9223372036854775808 by omega)
    refine g_constL act (gx gp_236 (w := 0x4000000000000000a000000004301) rfl (by decide) rfl) (n := 67) (x := 1) (by decide) rfl ?_
    refine n_call tb_pres act hEnd (gx (P := G_call) gp_236 (w := 0xa0000000000008349500011a00460f) rfl (by decide) rfl) (d' := D_282) rfl (as := [.ref 124, .long x_8, .long w_11, .long ((1 : Int64) * (x_18).toInt64), .long (1 : Int64)]) (rest := []) (b_timesQ rwj hx_10 (fr_int v_23 (by decide)) (hFs _ (by omega) (by omega)) (sml_int (by omega) (by omega))) (show (5 : Nat) = fb 0xa0000000000008349500011a00460f % 16 by decide) (by show (9 : Nat) ≤ 13; decide) (fun _ => ⟨_, _, rfl, _, shp_at rwj.1, Or.inr (show fb 0xa0000000000008349500011a00460f >>> 68 = 10 by decide)⟩) (by omega) (by show 8 + (13 + 11) + 55 ≤ R.locals; omega) (by show (0 : Nat) ≤ 8; decide) (by show kc + 0 ≤ _; omega) (by show ks + 0 ≤ _; omega) (fun r9 hs_24 hpo hr9 => ?_) (fun x9 hs9 hx9 hpo => ?_)
    · obtain rfl : r9 = none := hr9.elim (fun q => q.2) (fun q => absurd rfl q.1)
      obtain ⟨-, t_25, w_26, e_27, e_28, hF_29, fr_30⟩ := hpo
      have rw_31 := rwj.fr fr_30 W0_rw
      have f_32 := hTo.fr (fun j9 _ => fr_30.2.2 125 j9 (by unfold W0; omega))
      have f_33 := hR.fr (fun j9 _ _ => ⟨fr_30.2.2 131 j9 (by unfold W0; omega), fr_30.2.2 132 j9 (by unfold W0; omega)⟩)
      have f_34 := hD.fr (fun j9 _ => fr_30.2.2 135 j9 (by unfold W0; omega))
      have f_35 := hB.fr (fun j9 _ => fr_30.2.2 141 j9 (by unfold W0; omega))
      have f_36 := rd_fr fr_30 h28 (by unfold W0; omega)
      have f_37 := hT.fr (fun j9 _ => ⟨fr_30.2.2 139 j9 (by unfold W0; omega), fr_30.2.2 140 j9 (by unfold W0; omega)⟩)
      have fr_38 := hfr.tr (fr_30.mono (fun k9 j9 h9 => by unfold W0 at h9; unfold WC; omega))
      clear rwj hTo hR hD hB h28 hT hfr
      show WpN (gp g0 wp) CLS p l e R s m args below meth c Q D_236.2.2.1 kc0 ks0 70 [some (.ref 124), some (.int li), some (.int gi), some (.int lmi), some (.long (1 : Int64)), none, some (.int xi), some (.int ((((24 : Int32) * gi) + ((4 : Int32) * li)) + xi))] (hs_24, kc, ks) []
      refine g_loadA act (gx gp_236 (w := 0x4703) rfl (by decide) rfl) (a := 0) (n := 71) rfl rfl rfl ?_
      refine g_loadA act (gx gp_236 (w := 0x4803) rfl (by decide) rfl) (a := 0) (n := 72) rfl rfl rfl ?_
      refine r_getf act (gx gp_236 (w := 0x709004b04) rfl (by decide) rfl) (n := 75) (ci := 9) (j := 28) (N := 39) rfl rfl rfl rw_31.1 (by decide) (v := .int ri) f_36 ?_
      refine g_constI act (gx gp_236 (w := 0x40000011400000111000000004d01) rfl (by decide) rfl) (n := 77) (x := (34 : Int32)) (by decide) rfl ?_
      refine g_loadA act (gx gp_236 (w := 0x4e03) rfl (by decide) rfl) (a := 0) (n := 78) rfl rfl rfl ?_
      refine r_getf act (gx gp_236 (w := 0x20001c9005104) rfl (by decide) rfl) (n := 81) (ci := 9) (j := 7) (N := 39) rfl rfl rfl rw_31.1 (by decide) (v := .long t_25) e_27 ?_
      refine g_loadA act (gx gp_236 (w := 0x5203) rfl (by decide) rfl) (a := 0) (n := 82) rfl rfl rfl ?_
      refine r_getf act (gx gp_236 (w := 0x2000209005504) rfl (by decide) rfl) (n := 85) (ci := 9) (j := 8) (N := 39) rfl rfl rfl rw_31.1 (by decide) (v := .long w_26) e_28 ?_
      refine n_call tb_pres act hEnd (gx (P := G_call) gp_236 (w := 0xa000000000000820750000b100580f) rfl (by decide) rfl) (d' := D_177) rfl (as := [.ref 124, .int ri, .int (34 : Int32), .long t_25, .long w_26]) (rest := []) (b_addsToQ (R9 := r) (C9 := 34) rw_31 f_37 hri (show (34 : Int32).toInt = ((34 : Nat) : Int) from by decide) (by omega) hF_29 (by rw [show ((upQ T (35 * r + 34) (sdn fac dm 1 lm (24 * gr + 4 * ln9) j9))) (35 * r + 34) = (sdn fac dm 1 lm (24 * gr + 4 * ln9) j9) from if_pos rfl]; exact hSd _ (by omega)) (hPs _ (by omega))) (show (5 : Nat) = fb 0xa000000000000820750000b100580f % 16 by decide) (by show (7 : Nat) ≤ 8; decide) (fun _ => ⟨_, _, rfl, _, shp_at rw_31.1, Or.inr (show fb 0xa000000000000820750000b100580f >>> 68 = 10 by decide)⟩) (by omega) (by show 8 + (8 + 11) + 85 ≤ R.locals; omega) (by show (0 : Nat) ≤ 8; decide) (by show kc + 0 ≤ _; omega) (by show ks + 0 ≤ _; omega) (fun r9 hs_40 hpo hr9 => ?_) (fun x9 hs9 hx9 hpo => ?_)
      · obtain rfl : r9 = none := hr9.elim (fun q => q.2) (fun q => absurd rfl q.1)
        obtain ⟨-, hT_39, fr_41⟩ := hpo
        have rw_42 := rw_31.fr fr_41 W1_rw
        have f_43 := f_32.fr (fun j9 _ => fr_41.2.2 125 j9 (by unfold W1; omega))
        have f_44 := f_33.fr (fun j9 _ _ => ⟨fr_41.2.2 131 j9 (by unfold W1; omega), fr_41.2.2 132 j9 (by unfold W1; omega)⟩)
        have f_45 := f_34.fr (fun j9 _ => fr_41.2.2 135 j9 (by unfold W1; omega))
        have f_46 := f_35.fr (fun j9 _ => fr_41.2.2 141 j9 (by unfold W1; omega))
        have f_47 := rd_fr fr_41 f_36 (by unfold W1; omega)
        have fr_48 := fr_38.tr (fr_41.mono (fun k9 j9 h9 => by unfold W1 at h9; unfold WC; omega))
        clear rw_31 f_32 f_33 f_34 f_35 f_36 f_37 e_27 e_28 fr_38
        show WpN (gp g0 wp) CLS p l e R s m args below meth c Q D_236.2.2.1 kc0 ks0 88 [some (.ref 124), some (.int li), some (.int gi), some (.int lmi), some (.long (1 : Int64)), none, some (.int xi), some (.int ((((24 : Int32) * gi) + ((4 : Int32) * li)) + xi))] (hs_40, kc, ks) []
        refine g_iinc act (gx gp_236 (w := 0x80000001000006005b09) rfl (by decide) rfl) (a := 6) (i := (1 : Int32)) (n := 91) rfl (by decide) rfl rfl (L2 := [some (.ref 124), some (.int li), some (.int gi), some (.int lmi), some (.long (1 : Int64)), none, some (.int (xi + (1 : Int32))), some (.int ((((24 : Int32) * gi) + ((4 : Int32) * li)) + xi))]) rfl ?_
        have v_49 := iv_addN hxi (show (1 : Int32).toInt = ((1 : Nat) : Int) from by decide) (show (j9 + 1) < 2147483648 by omega)
        refine g_goto act (gx gp_236 (w := 0x1007) rfl (by decide) rfl) (n := 16) rfl ?_
        exact n_forget (d := D_236) (L2 := [some (.ref 124), some (.int li), some (.int gi), some (.int lmi), some (.long (1 : Int64)), none, some (.int (xi + (1 : Int32))), none]) (fun i v hi => by
          match i, hi with
          | 0, hi => exact hi
          | 1, hi => exact hi
          | 2, hi => exact hi
          | 3, hi => exact hi
          | 4, hi => exact hi
          | 5, hi => cases hi
          | 6, hi => exact hi
          | 7, hi => cases hi
          | i + 8, hi => cases hi) (ih (j9 + 1) (by omega) (by omega) _ _ v_49 rw_42 f_43 f_44 f_45 f_46 f_47 (hT_39.cong (fun j _ => side_step j)) fr_48)
      · exact absurd hpo.1 (by omega)
    · exact absurd hpo.1 (by omega)

theorem b_limP {g0 : GG} {bl : Nat} {xs : Nat → Int32} {l : Launch} {hs : List CE} {T fac ct : Nat → Rat} {bz tl dm : Nat → Int} {ri li gi lmi : Int32} {r ln9 gr nn ng gd lam9 : Nat} {lm : Int} {S : Nat → RS9} (hri : ri.toInt = (r : Int)) (hr : r < 29) (hli : li.toInt = (ln9 : Int)) (hgi : gi.toInt = (gr : Int)) (hl6 : ln9 < 6) (hg2 : gr < 2) (hlm : lmi.toInt = lm) (hlm0 : 0 ≤ lm) (hlm9 : lm ≤ 100001) (hnn : tl 0 = (nn : Int)) (hn4 : nn ≤ 4) (hng : tl 3 = (ng : Int)) (hn5 : ng ≤ 5) (hat : ∀ g, g < ng → 0 ≤ tl (17 + g) ∧ tl (17 + g) ≤ 3) (hdm : ∀ j, 0 ≤ dm j ∧ dm j ≤ 220) (hFs : ∀ j, 24 * gr ≤ j → j < 24 * gr + 24 → Sml (fac j)) (hPs : ∀ j, j < nn → Sml (fac (24 * gr + 4 * ln9 + j) * ((1 * dm j : Int) : Rat))) (hSd : ∀ j, j ≤ nn → Sml (sdn fac dm 1 lm (24 * gr + 4 * ln9) j)) (hTI : TI T bz r S gd ct) (hSr : S r = (fun g => if g < ng then cfn fac tl 1 (24 * gr + 4 * ln9) g else 0, sdn fac dm 1 lm (24 * gr + 4 * ln9) nn)) (h0 : 0 < lam9) (h256 : lam9 ≤ 256) (hSm : ∀ i, i ≤ r → SmS lam9 (S i)) (rw0 : RW hs) (hTo : IArr hs 125 46 tl) (hR : QRng hs 131 132 (24 * gr) (24 * gr + 24) fac) (hD : IArr hs 135 4 dm) (hB : IArr hs 141 30 bz) (h28 : rd hs 124 28 = .int ri) (hT : QArr hs 139 140 1295 T) : BodyN SSX TBL g0 CLS bl xs l D_236 5 136 0 0 [.ref 124, .int li, .int gi, .int lmi, .long (1 : Int64)] hs (fun kd _ h2 => kd = 0 ∧ ∃ (T2 : Nat → Rat) (bz2 : Nat → Int), QArr h2 139 140 1295 T2 ∧ IArr h2 141 30 bz2 ∧ TI T2 bz2 (r + 1) S gd ct ∧ rd h2 124 28 = .int (ri + (1 : Int32)) ∧ FrS WC hs h2) := by
  intro wp p e R s m args below meth c Q kc0 ks0 kc ks act hf hl hc hsl hEnd
  show WpN (gp g0 wp) CLS p l e R s m args below meth c Q D_236.2.2.1 kc0 ks0 0 [some (.ref 124), some (.int li), some (.int gi), some (.int lmi), some (.long (1 : Int64)), none, none, none] (hs, kc, ks) []
  refine g_loadA act (gx gp_236 (w := 0x103) rfl (by decide) rfl) (a := 0) (n := 1) rfl rfl rfl ?_
  refine g_loadA act (gx gp_236 (w := 0x203) rfl (by decide) rfl) (a := 0) (n := 2) rfl rfl rfl ?_
  refine r_getf act (gx gp_236 (w := 0x709000504) rfl (by decide) rfl) (n := 5) (ci := 9) (j := 28) (N := 39) rfl rfl rfl rw0.1 (by decide) (v := .int ri) h28 ?_
  refine g_constI act (gx gp_236 (w := 0x40000011400000111000000000701) rfl (by decide) rfl) (n := 7) (x := (34 : Int32)) (by decide) rfl ?_
  refine g_loadI act (gx gp_236 (w := 0x3000802) rfl (by decide) rfl) (a := 3) (n := 8) rfl rfl rfl ?_
  refine g_i2l act (gx gp_236 (w := 0x92c) rfl (by decide) rfl) (n := 9) rfl ?_
  have v_1 := lw_i2l hlm
  refine g_constL act (gx gp_236 (w := 0x4000000000000000a000000000a01) rfl (by decide) rfl) (n := 10) (x := 1) (by decide) rfl ?_
  refine n_call tb_pres act hEnd (gx (P := G_call) gp_236 (w := 0xa00000000000081c75000100000d0f) rfl (by decide) rfl) (d' := D_256) rfl (as := [.ref 124, .int ri, .int (34 : Int32), .long (lmi).toInt64, .long (1 : Int64)]) (rest := []) (b_putsQ (R9 := r) (C9 := 34) rw0 hT hri (show (34 : Int32).toInt = ((34 : Nat) : Int) from by decide) (by omega) (fr_int v_1 (by decide))) (show (5 : Nat) = fb 0xa00000000000081c75000100000d0f % 16 by decide) (by show (7 : Nat) ≤ 7; decide) (fun _ => ⟨_, _, rfl, _, shp_at rw0.1, Or.inr (show fb 0xa00000000000081c75000100000d0f >>> 68 = 10 by decide)⟩) (by omega) (by show 8 + (7 + 11) + 0 ≤ R.locals; omega) (by show (0 : Nat) ≤ 8; decide) (by show kc + 0 ≤ _; omega) (by show ks + 0 ≤ _; omega) (fun r9 hs_3 hpo hr9 => ?_) (fun x9 hs9 hx9 hpo => ?_)
  · obtain rfl : r9 = none := hr9.elim (fun q => q.2) (fun q => absurd rfl q.1)
    obtain ⟨-, hT_2, fr_4⟩ := hpo
    have rw_5 := rw0.fr fr_4 W1_rw
    have f_6 := hTo.fr (fun j9 _ => fr_4.2.2 125 j9 (by unfold W1; omega))
    have f_7 := hR.fr (fun j9 _ _ => ⟨fr_4.2.2 131 j9 (by unfold W1; omega), fr_4.2.2 132 j9 (by unfold W1; omega)⟩)
    have f_8 := hD.fr (fun j9 _ => fr_4.2.2 135 j9 (by unfold W1; omega))
    have f_9 := hB.fr (fun j9 _ => fr_4.2.2 141 j9 (by unfold W1; omega))
    have f_10 := rd_fr fr_4 h28 (by unfold W1; omega)
    have fr_11 := (FrS.rf WC hs).tr (fr_4.mono (fun k9 j9 h9 => by unfold W1 at h9; unfold WC; omega))
    show WpN (gp g0 wp) CLS p l e R s m args below meth c Q D_236.2.2.1 kc0 ks0 13 [some (.ref 124), some (.int li), some (.int gi), some (.int lmi), some (.long (1 : Int64)), none, none, none] (hs_3, kc, ks) []
    refine g_constI act (gx gp_236 (w := 0x40000000400000001000000000e01) rfl (by decide) rfl) (n := 14) (x := (0 : Int32)) (by decide) rfl ?_
    refine g_storeI act (gx gp_236 (w := 0x6001010) rfl (by decide) rfl) (a := 6) (n := 16) rfl rfl (L2 := [some (.ref 124), some (.int li), some (.int gi), some (.int lmi), some (.long (1 : Int64)), none, some (.int (0 : Int32)), none]) rfl ?_
    exact lim_aP hri hr hli hgi hl6 hg2 hlm hlm0 hlm9 hnn hn4 hng hn5 hat hdm hFs hPs hSd hTI hSr h0 h256 hSm hf hl hc hsl act hEnd (by omega) (by omega) 0 (by omega) _ _ rfl rw_5 f_6 f_7 f_8 f_9 f_10 hT_2 fr_11
  · exact absurd hpo.1 (by omega)

theorem lim_bM {g0 : GG} {bl : Nat} {xs : Nat → Int32} {l : Launch} {wp : va_W} {p : Program} {e : Env} {R : Room} {s : State} {m : MethodId} {args : Array Value} {below : List Frame} {meth : Method} {c : Code} {Q : State → Prop} {kc0 ks0 kc ks f lam KC KS : Nat} {hs : List CE} {T fac ct : Nat → Rat} {bz tl dm : Nat → Int} {ri li gi lmi : Int32} {r ln9 gr nn ng gd lam9 : Nat} {lm : Int} {S : Nat → RS9} (hri : ri.toInt = (r : Int)) (hr : r < 29) (hli : li.toInt = (ln9 : Int)) (hgi : gi.toInt = (gr : Int)) (hl6 : ln9 < 6) (hg2 : gr < 2) (hlm : lmi.toInt = lm) (hlm0 : 0 ≤ lm) (hlm9 : lm ≤ 100001) (hnn : tl 0 = (nn : Int)) (hn4 : nn ≤ 4) (hng : tl 3 = (ng : Int)) (hn5 : ng ≤ 5) (hat : ∀ g, g < ng → 0 ≤ tl (17 + g) ∧ tl (17 + g) ≤ 3) (hdm : ∀ j, 0 ≤ dm j ∧ dm j ≤ 220) (hFs : ∀ j, 24 * gr ≤ j → j < 24 * gr + 24 → Sml (fac j)) (hPs : ∀ j, j < nn → Sml (fac (24 * gr + 4 * ln9 + j) * (((-1) * dm j : Int) : Rat))) (hSd : ∀ j, j ≤ nn → Sml (sdn fac dm (-1) lm (24 * gr + 4 * ln9) j)) (hTI : TI T bz r S gd ct) (hSr : S r = (fun g => if g < ng then cfn fac tl (-1) (24 * gr + 4 * ln9) g else 0, sdn fac dm (-1) lm (24 * gr + 4 * ln9) nn)) (h0 : 0 < lam9) (h256 : lam9 ≤ 256) (hSm : ∀ i, i ≤ r → SmS lam9 (S i)) (hf : 5 ≤ R.frames) (hl : 136 ≤ R.locals) (hc : kc ≤ R.cells + kc0) (hsl : ks ≤ R.slots + ks0) (act : Act SSX TBL (gp g0 wp) CLS bl xs D_236 p l s m args meth c) (hEnd : EndN SSX TBL (gp g0 wp) CLS D_236 p l e R s m args below meth c Q kc0 ks0 f lam KC KS (fun kd _ h2 => kd = 0 ∧ ∃ (T2 : Nat → Rat) (bz2 : Nat → Int), QArr h2 139 140 1295 T2 ∧ IArr h2 141 30 bz2 ∧ TI T2 bz2 (r + 1) S gd ct ∧ rd h2 124 28 = .int (ri + (1 : Int32)) ∧ FrS WC hs h2)) (hk1 : kc ≤ KC) (hk2 : ks ≤ KS) : ∀ j9 : Nat, j9 ≤ ng → ∀ (xi : Int32) (hj : List CE), xi.toInt = (j9 : Int) → RW hj → IArr hj 125 46 tl → QRng hj 131 132 (24 * gr) (24 * gr + 24) fac → IArr hj 135 4 dm → IArr hj 141 30 bz → rd hj 124 28 = .int ri → QArr hj 139 140 1295 (opT T r (sdn fac dm (-1) lm (24 * gr + 4 * ln9) nn) (cfn fac tl (-1) (24 * gr + 4 * ln9)) j9) → FrS WC hs hj → WpN (gp g0 wp) CLS p l e R s m args below meth c Q D_236.2.2.1 kc0 ks0 97 [some (.ref 124), some (.int li), some (.int gi), some (.int lmi), some (.long (-1 : Int64)), none, some (.int xi), none] (hj, kc, ks) [] := by
  refine dn (fun j9 hj9 ih => ?_)
  intro xi hj hxi rwj hTo hR hD hB h28 hT hfr
  have hag := hat j9
  refine g_loadI act (gx gp_236 (w := 0x6006302) rfl (by decide) rfl) (a := 6) (n := 99) rfl rfl rfl ?_
  refine g_loadA act (gx gp_236 (w := 0x6403) rfl (by decide) rfl) (a := 0) (n := 100) rfl rfl rfl ?_
  refine r_getf act (gx gp_236 (w := 0x3000049006704) rfl (by decide) rfl) (n := 103) (ci := 9) (j := 1) (N := 39) rfl rfl rfl rwj.1 (by decide) (rwj.2 (1, 125, 32, 46) (by decide)).1 ?_
  refine g_constI act (gx gp_236 (w := 0x40000001c00000019000000006801) rfl (by decide) rfl) (n := 104) (x := (3 : Int32)) (by decide) rfl ?_
  obtain ⟨x_1, e_2, hx_3⟩ := hTo 3 (by omega)
  refine r_iald act (gx gp_236 (w := 0x691a) rfl (by decide) rfl) (n := 105) (j := 3) rfl (rwj.2 (1, 125, 32, 46) (by decide)).2 (show (3 : Int32).toInt = ((3 : Nat) : Int) from by decide) (show 3 < 46 by omega) (v := .int x_1) e_2 ?_
  refine g_icmpGe act (gx gp_236 (w := 0xa2006c08) rfl (by decide) rfl) (tgt := 162) (n := 108) rfl rfl (fun h4 => ?_) (fun h4 => ?_)
  · simp only [i_le] at h4
    refine g_loadA act (gx gp_236 (w := 0xa303) rfl (by decide) rfl) (a := 0) (n := 163) rfl rfl rfl ?_
    refine g_constI act (gx gp_236 (w := 0x4000000040000000100000000a401) rfl (by decide) rfl) (n := 164) (x := (0 : Int32)) (by decide) rfl ?_
    obtain rfl : j9 = ng := by omega
    have hrow := op_row hTI hr hn5 hSr
    refine n_call tb_pres act hEnd (gx (P := G_call) gp_236 (w := 0xa000000000000814220000bd00a70f) rfl (by decide) rfl) (d' := D_189) rfl (as := [.ref 124, .int (0 : Int32)]) (rest := []) (b_closes0 (r := r) hri hr (fun k hk => by rw [hrow k hk]; exact opn_sm h0 h256 (hSm r (Nat.le_refl _)) k) (fun k hk => by rw [op_rest hn5 _ (by omega) (by omega)]; exact gol_sm h0 h256 (by omega) (fun i hi => hSm i (by omega)) hTI.1 k hk) rwj hT hB h28) (show (2 : Nat) = fb 0xa000000000000814220000bd00a70f % 16 by decide) (by show (2 : Nat) ≤ 5; decide) (fun _ => ⟨_, _, rfl, _, shp_at rwj.1, Or.inr (show fb 0xa000000000000814220000bd00a70f >>> 68 = 10 by decide)⟩) (by omega) (by show 8 + (5 + 11) + 112 ≤ R.locals; omega) (by show (0 : Nat) ≤ 8; decide) (by show kc + 0 ≤ _; omega) (by show ks + 0 ≤ _; omega) (fun r9 hs_9 hpo hr9 => ?_) (fun x9 hs9 hx9 hpo => ?_)
    · obtain rfl : r9 = none := hr9.elim (fun q => q.2) (fun q => absurd rfl q.1)
      obtain ⟨-, tr_7, hn_8, hA_4, hb_5, h8_6, fr_10⟩ := hpo
      have rw_11 := rwj.fr fr_10 WC_rw
      have f_12 := hTo.fr (fun j9 _ => fr_10.2.2 125 j9 (by unfold WC; omega))
      have f_13 := hR.fr (fun j9 _ _ => ⟨fr_10.2.2 131 j9 (by unfold WC; omega), fr_10.2.2 132 j9 (by unfold WC; omega)⟩)
      have f_14 := hD.fr (fun j9 _ => fr_10.2.2 135 j9 (by unfold WC; omega))
      have fr_15 := hfr.tr fr_10
      clear rwj hTo hR hD hB h28 hT hfr
      show WpN (gp g0 wp) CLS p l e R s m args below meth c Q D_236.2.2.1 kc0 ks0 167 [some (.ref 124), some (.int li), some (.int gi), some (.int lmi), some (.long (-1 : Int64)), none, some (.int xi), none] (hs_9, kc, ks) []
      rw [hrow 34 (by decide)] at hn_8
      exact g_retV hEnd (gx gp_236 (w := 0x18) rfl (by decide) rfl) ⟨rfl, _, _, hA_4, hb_5, (hTI.opens2 hr hrow (op_rest hn5)).close hr hn_8, h8_6, fr_15⟩ hk1 hk2
    · exact absurd hpo.1 (by omega)
  · simp only [i_le] at h4
    refine g_constI act (gx gp_236 (w := 0x4000000c4000000c1000000006e01) rfl (by decide) rfl) (n := 110) (x := (24 : Int32)) (by decide) rfl ?_
    refine g_loadI act (gx gp_236 (w := 0x2006f02) rfl (by decide) rfl) (a := 2) (n := 111) rfl rfl rfl ?_
    refine g_imul act (gx gp_236 (w := 0x7011) rfl (by decide) rfl) (n := 112) rfl ?_
    have v_16 := iv_mulN (show (24 : Int32).toInt = ((24 : Nat) : Int) from by decide) hgi (show (24 * gr) < 2147483648 by omega)
    refine g_constI act (gx gp_236 (w := 0x40000002400000021000000007101) rfl (by decide) rfl) (n := 113) (x := (4 : Int32)) (by decide) rfl ?_
    refine g_loadI act (gx gp_236 (w := 0x1007202) rfl (by decide) rfl) (a := 1) (n := 114) rfl rfl rfl ?_
    refine g_imul act (gx gp_236 (w := 0x7311) rfl (by decide) rfl) (n := 115) rfl ?_
    have v_17 := iv_mulN (show (4 : Int32).toInt = ((4 : Nat) : Int) from by decide) hli (show (4 * ln9) < 2147483648 by omega)
    refine g_iadd act (gx gp_236 (w := 0x740a) rfl (by decide) rfl) (n := 116) rfl ?_
    have v_18 := iv_addN v_16 v_17 (show ((24 * gr) + (4 * ln9)) < 2147483648 by omega)
    refine g_loadA act (gx gp_236 (w := 0x7503) rfl (by decide) rfl) (a := 0) (n := 117) rfl rfl rfl ?_
    refine r_getf act (gx gp_236 (w := 0x3000049007804) rfl (by decide) rfl) (n := 120) (ci := 9) (j := 1) (N := 39) rfl rfl rfl rwj.1 (by decide) (rwj.2 (1, 125, 32, 46) (by decide)).1 ?_
    refine g_constI act (gx gp_236 (w := 0x40000008c00000089000000007a01) rfl (by decide) rfl) (n := 122) (x := (17 : Int32)) (by decide) rfl ?_
    refine g_loadI act (gx gp_236 (w := 0x6007c02) rfl (by decide) rfl) (a := 6) (n := 124) rfl rfl rfl ?_
    refine g_iadd act (gx gp_236 (w := 0x7d0a) rfl (by decide) rfl) (n := 125) rfl ?_
    have v_19 := iv_addN (show (17 : Int32).toInt = ((17 : Nat) : Int) from by decide) hxi (show (17 + j9) < 2147483648 by omega)
    obtain ⟨x_20, e_21, hx_22⟩ := hTo (17 + j9) (by omega)
    refine r_iald act (gx gp_236 (w := 0x7e1a) rfl (by decide) rfl) (n := 126) (j := (17 + j9)) rfl (rwj.2 (1, 125, 32, 46) (by decide)).2 v_19 (show (17 + j9) < 46 by omega) (v := .int x_20) e_21 ?_
    refine g_iadd act (gx gp_236 (w := 0x7f0a) rfl (by decide) rfl) (n := 127) rfl ?_
    have v_23 := iv_add v_18 hx_22 (show -2147483648 ≤ (((((24 * gr) + (4 * ln9)) : Nat) : Int) + (tl (17 + j9))) by omega) (show (((((24 * gr) + (4 * ln9)) : Nat) : Int) + (tl (17 + j9))) < 2147483648 by omega)
    refine g_storeI act (gx gp_236 (w := 0x7008110) rfl (by decide) rfl) (a := 7) (n := 129) rfl rfl (L2 := [some (.ref 124), some (.int li), some (.int gi), some (.int lmi), some (.long (-1 : Int64)), none, some (.int xi), some (.int ((((24 : Int32) * gi) + ((4 : Int32) * li)) + x_20))]) rfl ?_
    refine g_loadA act (gx gp_236 (w := 0x8203) rfl (by decide) rfl) (a := 0) (n := 130) rfl rfl rfl ?_
    refine g_loadA act (gx gp_236 (w := 0x8303) rfl (by decide) rfl) (a := 0) (n := 131) rfl rfl rfl ?_
    refine r_getf act (gx gp_236 (w := 0x709008604) rfl (by decide) rfl) (n := 134) (ci := 9) (j := 28) (N := 39) rfl rfl rfl rwj.1 (by decide) (v := .int ri) h28 ?_
    refine g_loadI act (gx gp_236 (w := 0x6008802) rfl (by decide) rfl) (a := 6) (n := 136) rfl rfl rfl ?_
    refine g_loadL act (gx gp_236 (w := 0x4008a06) rfl (by decide) rfl) (a := 4) (n := 138) rfl rfl rfl ?_
    refine g_loadA act (gx gp_236 (w := 0x8b03) rfl (by decide) rfl) (a := 0) (n := 139) rfl rfl rfl ?_
    refine r_getf act (gx gp_236 (w := 0x3000409008e04) rfl (by decide) rfl) (n := 142) (ci := 9) (j := 16) (N := 39) rfl rfl rfl rwj.1 (by decide) (rwj.2 (16, 131, 33, 48) (by decide)).1 ?_
    refine g_loadI act (gx gp_236 (w := 0x7009002) rfl (by decide) rfl) (a := 7) (n := 144) rfl rfl rfl ?_
    obtain ⟨j_24, hj_25⟩ := Int.eq_ofNat_of_zero_le (show (0 : Int) ≤ (((((24 * gr) + (4 * ln9)) : Nat) : Int) + (tl (17 + j9))) by omega)
    obtain ⟨x_26, w_29, e_27, e_30, hx_28⟩ := hR j_24 (by omega) (by omega)
    refine r_lald act (gx gp_236 (w := 0x910d) rfl (by decide) rfl) (n := 145) (j := j_24) rfl (rwj.2 (16, 131, 33, 48) (by decide)).2 (v_23.trans hj_25) (show j_24 < 48 by omega) (v := .long x_26) e_27 ?_
    refine g_lmul act (gx gp_236 (w := 0x9215) rfl (by decide) rfl) (n := 146) rfl ?_
    refine g_loadA act (gx gp_236 (w := 0x9303) rfl (by decide) rfl) (a := 0) (n := 147) rfl rfl rfl ?_
    refine r_getf act (gx gp_236 (w := 0x3000449009604) rfl (by decide) rfl) (n := 150) (ci := 9) (j := 17) (N := 39) rfl rfl rfl rwj.1 (by decide) (rwj.2 (17, 132, 33, 48) (by decide)).1 ?_
    refine g_loadI act (gx gp_236 (w := 0x7009802) rfl (by decide) rfl) (a := 7) (n := 152) rfl rfl rfl ?_
    refine r_lald act (gx gp_236 (w := 0x990d) rfl (by decide) rfl) (n := 153) (j := j_24) rfl (rwj.2 (17, 132, 33, 48) (by decide)).2 (v_23.trans hj_25) (show j_24 < 48 by omega) (v := .long w_29) e_30 ?_
    refine n_call tb_pres act hEnd (gx (P := G_call) gp_236 (w := 0xa00000000000081c75000100009c0f) rfl (by decide) rfl) (d' := D_256) rfl (as := [.ref 124, .int ri, .int xi, .long ((-1 : Int64) * x_26), .long w_29]) (rest := []) (b_putsQ (R9 := r) (C9 := j9) rwj hT hri hxi (by omega) (FR.sgM hx_28 (hFs _ (by omega) (by omega)))) (show (5 : Nat) = fb 0xa00000000000081c75000100009c0f % 16 by decide) (by show (7 : Nat) ≤ 7; decide) (fun _ => ⟨_, _, rfl, _, shp_at rwj.1, Or.inr (show fb 0xa00000000000081c75000100009c0f >>> 68 = 10 by decide)⟩) (by omega) (by show 8 + (7 + 11) + 0 ≤ R.locals; omega) (by show (0 : Nat) ≤ 8; decide) (by show kc + 0 ≤ _; omega) (by show ks + 0 ≤ _; omega) (fun r9 hs_37 hpo hr9 => ?_) (fun x9 hs9 hx9 hpo => ?_)
    · obtain rfl : r9 = none := hr9.elim (fun q => q.2) (fun q => absurd rfl q.1)
      obtain ⟨-, hT_36, fr_38⟩ := hpo
      have rw_39 := rwj.fr fr_38 W1_rw
      have f_40 := hTo.fr (fun j9 _ => fr_38.2.2 125 j9 (by unfold W1; omega))
      have f_41 := hR.fr (fun j9 _ _ => ⟨fr_38.2.2 131 j9 (by unfold W1; omega), fr_38.2.2 132 j9 (by unfold W1; omega)⟩)
      have f_42 := hD.fr (fun j9 _ => fr_38.2.2 135 j9 (by unfold W1; omega))
      have f_43 := hB.fr (fun j9 _ => fr_38.2.2 141 j9 (by unfold W1; omega))
      have f_44 := rd_fr fr_38 h28 (by unfold W1; omega)
      have fr_45 := hfr.tr (fr_38.mono (fun k9 j9 h9 => by unfold W1 at h9; unfold WC; omega))
      clear rwj hTo hR hD hB h28 hT hfr
      show WpN (gp g0 wp) CLS p l e R s m args below meth c Q D_236.2.2.1 kc0 ks0 156 [some (.ref 124), some (.int li), some (.int gi), some (.int lmi), some (.long (-1 : Int64)), none, some (.int xi), some (.int ((((24 : Int32) * gi) + ((4 : Int32) * li)) + x_20))] (hs_37, kc, ks) []
      refine g_iinc act (gx gp_236 (w := 0x80000001000006009f09) rfl (by decide) rfl) (a := 6) (i := (1 : Int32)) (n := 159) rfl (by decide) rfl rfl (L2 := [some (.ref 124), some (.int li), some (.int gi), some (.int lmi), some (.long (-1 : Int64)), none, some (.int (xi + (1 : Int32))), some (.int ((((24 : Int32) * gi) + ((4 : Int32) * li)) + x_20))]) rfl ?_
      have v_46 := iv_addN hxi (show (1 : Int32).toInt = ((1 : Nat) : Int) from by decide) (show (j9 + 1) < 2147483648 by omega)
      refine g_goto act (gx gp_236 (w := 0x6107) rfl (by decide) rfl) (n := 97) rfl ?_
      exact n_forget (d := D_236) (L2 := [some (.ref 124), some (.int li), some (.int gi), some (.int lmi), some (.long (-1 : Int64)), none, some (.int (xi + (1 : Int32))), none]) (fun i v hi => by
        match i, hi with
        | 0, hi => exact hi
        | 1, hi => exact hi
        | 2, hi => exact hi
        | 3, hi => exact hi
        | 4, hi => exact hi
        | 5, hi => cases hi
        | 6, hi => exact hi
        | 7, hi => cases hi
        | i + 8, hi => cases hi) (ih (j9 + 1) (by omega) (by omega) _ _ v_46 rw_39 f_40 f_41 f_42 f_43 f_44 (hT_36.cong (fun j _ => op_step (by omega) (by unfold cfn; rw [show 24 * gr + 4 * ln9 + (tl (17 + j9)).toNat = j_24 by omega]; first | grind | (rw [show (((1 : Int)) : Rat) = 1 from rfl]; grind) | (rw [show (((-1 : Int)) : Rat) = -1 from rfl]; grind)) j)) fr_45)
    · exact absurd hpo.1 (by omega)

theorem lim_aM {g0 : GG} {bl : Nat} {xs : Nat → Int32} {l : Launch} {wp : va_W} {p : Program} {e : Env} {R : Room} {s : State} {m : MethodId} {args : Array Value} {below : List Frame} {meth : Method} {c : Code} {Q : State → Prop} {kc0 ks0 kc ks f lam KC KS : Nat} {hs : List CE} {T fac ct : Nat → Rat} {bz tl dm : Nat → Int} {ri li gi lmi : Int32} {r ln9 gr nn ng gd lam9 : Nat} {lm : Int} {S : Nat → RS9} (hri : ri.toInt = (r : Int)) (hr : r < 29) (hli : li.toInt = (ln9 : Int)) (hgi : gi.toInt = (gr : Int)) (hl6 : ln9 < 6) (hg2 : gr < 2) (hlm : lmi.toInt = lm) (hlm0 : 0 ≤ lm) (hlm9 : lm ≤ 100001) (hnn : tl 0 = (nn : Int)) (hn4 : nn ≤ 4) (hng : tl 3 = (ng : Int)) (hn5 : ng ≤ 5) (hat : ∀ g, g < ng → 0 ≤ tl (17 + g) ∧ tl (17 + g) ≤ 3) (hdm : ∀ j, 0 ≤ dm j ∧ dm j ≤ 220) (hFs : ∀ j, 24 * gr ≤ j → j < 24 * gr + 24 → Sml (fac j)) (hPs : ∀ j, j < nn → Sml (fac (24 * gr + 4 * ln9 + j) * (((-1) * dm j : Int) : Rat))) (hSd : ∀ j, j ≤ nn → Sml (sdn fac dm (-1) lm (24 * gr + 4 * ln9) j)) (hTI : TI T bz r S gd ct) (hSr : S r = (fun g => if g < ng then cfn fac tl (-1) (24 * gr + 4 * ln9) g else 0, sdn fac dm (-1) lm (24 * gr + 4 * ln9) nn)) (h0 : 0 < lam9) (h256 : lam9 ≤ 256) (hSm : ∀ i, i ≤ r → SmS lam9 (S i)) (hf : 5 ≤ R.frames) (hl : 136 ≤ R.locals) (hc : kc ≤ R.cells + kc0) (hsl : ks ≤ R.slots + ks0) (act : Act SSX TBL (gp g0 wp) CLS bl xs D_236 p l s m args meth c) (hEnd : EndN SSX TBL (gp g0 wp) CLS D_236 p l e R s m args below meth c Q kc0 ks0 f lam KC KS (fun kd _ h2 => kd = 0 ∧ ∃ (T2 : Nat → Rat) (bz2 : Nat → Int), QArr h2 139 140 1295 T2 ∧ IArr h2 141 30 bz2 ∧ TI T2 bz2 (r + 1) S gd ct ∧ rd h2 124 28 = .int (ri + (1 : Int32)) ∧ FrS WC hs h2)) (hk1 : kc ≤ KC) (hk2 : ks ≤ KS) : ∀ j9 : Nat, j9 ≤ nn → ∀ (xi : Int32) (hj : List CE), xi.toInt = (j9 : Int) → RW hj → IArr hj 125 46 tl → QRng hj 131 132 (24 * gr) (24 * gr + 24) fac → IArr hj 135 4 dm → IArr hj 141 30 bz → rd hj 124 28 = .int ri → QArr hj 139 140 1295 (upQ T (35 * r + 34) (sdn fac dm (-1) lm (24 * gr + 4 * ln9) j9)) → FrS WC hs hj → WpN (gp g0 wp) CLS p l e R s m args below meth c Q D_236.2.2.1 kc0 ks0 16 [some (.ref 124), some (.int li), some (.int gi), some (.int lmi), some (.long (-1 : Int64)), none, some (.int xi), none] (hj, kc, ks) [] := by
  refine dn (fun j9 hj9 ih => ?_)
  intro xi hj hxi rwj hTo hR hD hB h28 hT hfr
  refine g_loadI act (gx gp_236 (w := 0x6001202) rfl (by decide) rfl) (a := 6) (n := 18) rfl rfl rfl ?_
  refine g_loadA act (gx gp_236 (w := 0x1303) rfl (by decide) rfl) (a := 0) (n := 19) rfl rfl rfl ?_
  refine r_getf act (gx gp_236 (w := 0x3000049001604) rfl (by decide) rfl) (n := 22) (ci := 9) (j := 1) (N := 39) rfl rfl rfl rwj.1 (by decide) (rwj.2 (1, 125, 32, 46) (by decide)).1 ?_
  refine g_constI act (gx gp_236 (w := 0x40000000400000001000000001701) rfl (by decide) rfl) (n := 23) (x := (0 : Int32)) (by decide) rfl ?_
  obtain ⟨x_1, e_2, hx_3⟩ := hTo 0 (by omega)
  refine r_iald act (gx gp_236 (w := 0x181a) rfl (by decide) rfl) (n := 24) (j := 0) rfl (rwj.2 (1, 125, 32, 46) (by decide)).2 (show (0 : Int32).toInt = ((0 : Nat) : Int) from by decide) (show 0 < 46 by omega) (v := .int x_1) e_2 ?_
  refine g_icmpGe act (gx gp_236 (w := 0x5e001b08) rfl (by decide) rfl) (tgt := 94) (n := 27) rfl rfl (fun h4 => ?_) (fun h4 => ?_)
  · simp only [i_le] at h4
    refine g_constI act (gx gp_236 (w := 0x40000000400000001000000005f01) rfl (by decide) rfl) (n := 95) (x := (0 : Int32)) (by decide) rfl ?_
    refine g_storeI act (gx gp_236 (w := 0x6006110) rfl (by decide) rfl) (a := 6) (n := 97) rfl rfl (L2 := [some (.ref 124), some (.int li), some (.int gi), some (.int lmi), some (.long (-1 : Int64)), none, some (.int (0 : Int32)), none]) rfl ?_
    obtain rfl : j9 = nn := by omega
    exact lim_bM hri hr hli hgi hl6 hg2 hlm hlm0 hlm9 hnn hn4 hng hn5 hat hdm hFs hPs hSd hTI hSr h0 h256 hSm hf hl hc hsl act hEnd hk1 hk2 0 (by omega) _ hj rfl rwj hTo hR hD hB h28 (hT.cong (fun j _ => side_op j)) hfr
  · simp only [i_le] at h4
    refine g_constI act (gx gp_236 (w := 0x4000000c4000000c1000000001d01) rfl (by decide) rfl) (n := 29) (x := (24 : Int32)) (by decide) rfl ?_
    refine g_loadI act (gx gp_236 (w := 0x2001e02) rfl (by decide) rfl) (a := 2) (n := 30) rfl rfl rfl ?_
    refine g_imul act (gx gp_236 (w := 0x1f11) rfl (by decide) rfl) (n := 31) rfl ?_
    have v_4 := iv_mulN (show (24 : Int32).toInt = ((24 : Nat) : Int) from by decide) hgi (show (24 * gr) < 2147483648 by omega)
    refine g_constI act (gx gp_236 (w := 0x40000002400000021000000002001) rfl (by decide) rfl) (n := 32) (x := (4 : Int32)) (by decide) rfl ?_
    refine g_loadI act (gx gp_236 (w := 0x1002102) rfl (by decide) rfl) (a := 1) (n := 33) rfl rfl rfl ?_
    refine g_imul act (gx gp_236 (w := 0x2211) rfl (by decide) rfl) (n := 34) rfl ?_
    have v_5 := iv_mulN (show (4 : Int32).toInt = ((4 : Nat) : Int) from by decide) hli (show (4 * ln9) < 2147483648 by omega)
    refine g_iadd act (gx gp_236 (w := 0x230a) rfl (by decide) rfl) (n := 35) rfl ?_
    have v_6 := iv_addN v_4 v_5 (show ((24 * gr) + (4 * ln9)) < 2147483648 by omega)
    refine g_loadI act (gx gp_236 (w := 0x6002502) rfl (by decide) rfl) (a := 6) (n := 37) rfl rfl rfl ?_
    refine g_iadd act (gx gp_236 (w := 0x260a) rfl (by decide) rfl) (n := 38) rfl ?_
    have v_7 := iv_addN v_6 hxi (show (((24 * gr) + (4 * ln9)) + j9) < 2147483648 by omega)
    refine g_storeI act (gx gp_236 (w := 0x7002810) rfl (by decide) rfl) (a := 7) (n := 40) rfl rfl (L2 := [some (.ref 124), some (.int li), some (.int gi), some (.int lmi), some (.long (-1 : Int64)), none, some (.int xi), some (.int ((((24 : Int32) * gi) + ((4 : Int32) * li)) + xi))]) rfl ?_
    refine g_loadA act (gx gp_236 (w := 0x2903) rfl (by decide) rfl) (a := 0) (n := 41) rfl rfl rfl ?_
    refine g_loadA act (gx gp_236 (w := 0x2a03) rfl (by decide) rfl) (a := 0) (n := 42) rfl rfl rfl ?_
    refine r_getf act (gx gp_236 (w := 0x3000409002d04) rfl (by decide) rfl) (n := 45) (ci := 9) (j := 16) (N := 39) rfl rfl rfl rwj.1 (by decide) (rwj.2 (16, 131, 33, 48) (by decide)).1 ?_
    refine g_loadI act (gx gp_236 (w := 0x7002f02) rfl (by decide) rfl) (a := 7) (n := 47) rfl rfl rfl ?_
    obtain ⟨x_8, w_11, e_9, e_12, hx_10⟩ := hR (((24 * gr) + (4 * ln9)) + j9) (by omega) (by omega)
    refine r_lald act (gx gp_236 (w := 0x300d) rfl (by decide) rfl) (n := 48) (j := (((24 * gr) + (4 * ln9)) + j9)) rfl (rwj.2 (16, 131, 33, 48) (by decide)).2 v_7 (show (((24 * gr) + (4 * ln9)) + j9) < 48 by omega) (v := .long x_8) e_9 ?_
    refine g_loadA act (gx gp_236 (w := 0x3103) rfl (by decide) rfl) (a := 0) (n := 49) rfl rfl rfl ?_
    refine r_getf act (gx gp_236 (w := 0x3000449003404) rfl (by decide) rfl) (n := 52) (ci := 9) (j := 17) (N := 39) rfl rfl rfl rwj.1 (by decide) (rwj.2 (17, 132, 33, 48) (by decide)).1 ?_
    refine g_loadI act (gx gp_236 (w := 0x7003602) rfl (by decide) rfl) (a := 7) (n := 54) rfl rfl rfl ?_
    refine r_lald act (gx gp_236 (w := 0x370d) rfl (by decide) rfl) (n := 55) (j := (((24 * gr) + (4 * ln9)) + j9)) rfl (rwj.2 (17, 132, 33, 48) (by decide)).2 v_7 (show (((24 * gr) + (4 * ln9)) + j9) < 48 by omega) (v := .long w_11) e_12 ?_
    refine g_loadL act (gx gp_236 (w := 0x4003906) rfl (by decide) rfl) (a := 4) (n := 57) rfl rfl rfl ?_
    refine g_loadA act (gx gp_236 (w := 0x3a03) rfl (by decide) rfl) (a := 0) (n := 58) rfl rfl rfl ?_
    refine r_getf act (gx gp_236 (w := 0x3000509003d04) rfl (by decide) rfl) (n := 61) (ci := 9) (j := 20) (N := 39) rfl rfl rfl rwj.1 (by decide) (rwj.2 (20, 135, 32, 4) (by decide)).1 ?_
    refine g_loadI act (gx gp_236 (w := 0x6003f02) rfl (by decide) rfl) (a := 6) (n := 63) rfl rfl rfl ?_
    obtain ⟨x_18, e_19, hx_20⟩ := hD j9 (by omega)
    have b_21 := hdm j9
    refine r_iald act (gx gp_236 (w := 0x401a) rfl (by decide) rfl) (n := 64) (j := j9) rfl (rwj.2 (20, 135, 32, 4) (by decide)).2 hxi (show j9 < 4 by omega) (v := .int x_18) e_19 ?_
    refine g_i2l act (gx gp_236 (w := 0x412c) rfl (by decide) rfl) (n := 65) rfl ?_
    have v_22 := lw_i2l hx_20
    refine g_lmul act (gx gp_236 (w := 0x4215) rfl (by decide) rfl) (n := 66) rfl ?_
    have v_23 := lw_mul (show (-1 : Int64).toInt = (-1 : Int) from by decide) v_22 (show -9223372036854775808 ≤ ((-1) * (dm j9)) by omega) (show ((-1) * (dm j9)) < 9223372036854775808 by omega)
    refine g_constL act (gx gp_236 (w := 0x4000000000000000a000000004301) rfl (by decide) rfl) (n := 67) (x := 1) (by decide) rfl ?_
    refine n_call tb_pres act hEnd (gx (P := G_call) gp_236 (w := 0xa0000000000008349500011a00460f) rfl (by decide) rfl) (d' := D_282) rfl (as := [.ref 124, .long x_8, .long w_11, .long ((-1 : Int64) * (x_18).toInt64), .long (1 : Int64)]) (rest := []) (b_timesQ rwj hx_10 (fr_int v_23 (by decide)) (hFs _ (by omega) (by omega)) (sml_int (by omega) (by omega))) (show (5 : Nat) = fb 0xa0000000000008349500011a00460f % 16 by decide) (by show (9 : Nat) ≤ 13; decide) (fun _ => ⟨_, _, rfl, _, shp_at rwj.1, Or.inr (show fb 0xa0000000000008349500011a00460f >>> 68 = 10 by decide)⟩) (by omega) (by show 8 + (13 + 11) + 55 ≤ R.locals; omega) (by show (0 : Nat) ≤ 8; decide) (by show kc + 0 ≤ _; omega) (by show ks + 0 ≤ _; omega) (fun r9 hs_24 hpo hr9 => ?_) (fun x9 hs9 hx9 hpo => ?_)
    · obtain rfl : r9 = none := hr9.elim (fun q => q.2) (fun q => absurd rfl q.1)
      obtain ⟨-, t_25, w_26, e_27, e_28, hF_29, fr_30⟩ := hpo
      have rw_31 := rwj.fr fr_30 W0_rw
      have f_32 := hTo.fr (fun j9 _ => fr_30.2.2 125 j9 (by unfold W0; omega))
      have f_33 := hR.fr (fun j9 _ _ => ⟨fr_30.2.2 131 j9 (by unfold W0; omega), fr_30.2.2 132 j9 (by unfold W0; omega)⟩)
      have f_34 := hD.fr (fun j9 _ => fr_30.2.2 135 j9 (by unfold W0; omega))
      have f_35 := hB.fr (fun j9 _ => fr_30.2.2 141 j9 (by unfold W0; omega))
      have f_36 := rd_fr fr_30 h28 (by unfold W0; omega)
      have f_37 := hT.fr (fun j9 _ => ⟨fr_30.2.2 139 j9 (by unfold W0; omega), fr_30.2.2 140 j9 (by unfold W0; omega)⟩)
      have fr_38 := hfr.tr (fr_30.mono (fun k9 j9 h9 => by unfold W0 at h9; unfold WC; omega))
      clear rwj hTo hR hD hB h28 hT hfr
      show WpN (gp g0 wp) CLS p l e R s m args below meth c Q D_236.2.2.1 kc0 ks0 70 [some (.ref 124), some (.int li), some (.int gi), some (.int lmi), some (.long (-1 : Int64)), none, some (.int xi), some (.int ((((24 : Int32) * gi) + ((4 : Int32) * li)) + xi))] (hs_24, kc, ks) []
      refine g_loadA act (gx gp_236 (w := 0x4703) rfl (by decide) rfl) (a := 0) (n := 71) rfl rfl rfl ?_
      refine g_loadA act (gx gp_236 (w := 0x4803) rfl (by decide) rfl) (a := 0) (n := 72) rfl rfl rfl ?_
      refine r_getf act (gx gp_236 (w := 0x709004b04) rfl (by decide) rfl) (n := 75) (ci := 9) (j := 28) (N := 39) rfl rfl rfl rw_31.1 (by decide) (v := .int ri) f_36 ?_
      refine g_constI act (gx gp_236 (w := 0x40000011400000111000000004d01) rfl (by decide) rfl) (n := 77) (x := (34 : Int32)) (by decide) rfl ?_
      refine g_loadA act (gx gp_236 (w := 0x4e03) rfl (by decide) rfl) (a := 0) (n := 78) rfl rfl rfl ?_
      refine r_getf act (gx gp_236 (w := 0x20001c9005104) rfl (by decide) rfl) (n := 81) (ci := 9) (j := 7) (N := 39) rfl rfl rfl rw_31.1 (by decide) (v := .long t_25) e_27 ?_
      refine g_loadA act (gx gp_236 (w := 0x5203) rfl (by decide) rfl) (a := 0) (n := 82) rfl rfl rfl ?_
      refine r_getf act (gx gp_236 (w := 0x2000209005504) rfl (by decide) rfl) (n := 85) (ci := 9) (j := 8) (N := 39) rfl rfl rfl rw_31.1 (by decide) (v := .long w_26) e_28 ?_
      refine n_call tb_pres act hEnd (gx (P := G_call) gp_236 (w := 0xa000000000000820750000b100580f) rfl (by decide) rfl) (d' := D_177) rfl (as := [.ref 124, .int ri, .int (34 : Int32), .long t_25, .long w_26]) (rest := []) (b_addsToQ (R9 := r) (C9 := 34) rw_31 f_37 hri (show (34 : Int32).toInt = ((34 : Nat) : Int) from by decide) (by omega) hF_29 (by rw [show ((upQ T (35 * r + 34) (sdn fac dm (-1) lm (24 * gr + 4 * ln9) j9))) (35 * r + 34) = (sdn fac dm (-1) lm (24 * gr + 4 * ln9) j9) from if_pos rfl]; exact hSd _ (by omega)) (hPs _ (by omega))) (show (5 : Nat) = fb 0xa000000000000820750000b100580f % 16 by decide) (by show (7 : Nat) ≤ 8; decide) (fun _ => ⟨_, _, rfl, _, shp_at rw_31.1, Or.inr (show fb 0xa000000000000820750000b100580f >>> 68 = 10 by decide)⟩) (by omega) (by show 8 + (8 + 11) + 85 ≤ R.locals; omega) (by show (0 : Nat) ≤ 8; decide) (by show kc + 0 ≤ _; omega) (by show ks + 0 ≤ _; omega) (fun r9 hs_40 hpo hr9 => ?_) (fun x9 hs9 hx9 hpo => ?_)
      · obtain rfl : r9 = none := hr9.elim (fun q => q.2) (fun q => absurd rfl q.1)
        obtain ⟨-, hT_39, fr_41⟩ := hpo
        have rw_42 := rw_31.fr fr_41 W1_rw
        have f_43 := f_32.fr (fun j9 _ => fr_41.2.2 125 j9 (by unfold W1; omega))
        have f_44 := f_33.fr (fun j9 _ _ => ⟨fr_41.2.2 131 j9 (by unfold W1; omega), fr_41.2.2 132 j9 (by unfold W1; omega)⟩)
        have f_45 := f_34.fr (fun j9 _ => fr_41.2.2 135 j9 (by unfold W1; omega))
        have f_46 := f_35.fr (fun j9 _ => fr_41.2.2 141 j9 (by unfold W1; omega))
        have f_47 := rd_fr fr_41 f_36 (by unfold W1; omega)
        have fr_48 := fr_38.tr (fr_41.mono (fun k9 j9 h9 => by unfold W1 at h9; unfold WC; omega))
        clear rw_31 f_32 f_33 f_34 f_35 f_36 f_37 e_27 e_28 fr_38
        show WpN (gp g0 wp) CLS p l e R s m args below meth c Q D_236.2.2.1 kc0 ks0 88 [some (.ref 124), some (.int li), some (.int gi), some (.int lmi), some (.long (-1 : Int64)), none, some (.int xi), some (.int ((((24 : Int32) * gi) + ((4 : Int32) * li)) + xi))] (hs_40, kc, ks) []
        refine g_iinc act (gx gp_236 (w := 0x80000001000006005b09) rfl (by decide) rfl) (a := 6) (i := (1 : Int32)) (n := 91) rfl (by decide) rfl rfl (L2 := [some (.ref 124), some (.int li), some (.int gi), some (.int lmi), some (.long (-1 : Int64)), none, some (.int (xi + (1 : Int32))), some (.int ((((24 : Int32) * gi) + ((4 : Int32) * li)) + xi))]) rfl ?_
        have v_49 := iv_addN hxi (show (1 : Int32).toInt = ((1 : Nat) : Int) from by decide) (show (j9 + 1) < 2147483648 by omega)
        refine g_goto act (gx gp_236 (w := 0x1007) rfl (by decide) rfl) (n := 16) rfl ?_
        exact n_forget (d := D_236) (L2 := [some (.ref 124), some (.int li), some (.int gi), some (.int lmi), some (.long (-1 : Int64)), none, some (.int (xi + (1 : Int32))), none]) (fun i v hi => by
          match i, hi with
          | 0, hi => exact hi
          | 1, hi => exact hi
          | 2, hi => exact hi
          | 3, hi => exact hi
          | 4, hi => exact hi
          | 5, hi => cases hi
          | 6, hi => exact hi
          | 7, hi => cases hi
          | i + 8, hi => cases hi) (ih (j9 + 1) (by omega) (by omega) _ _ v_49 rw_42 f_43 f_44 f_45 f_46 f_47 (hT_39.cong (fun j _ => side_step j)) fr_48)
      · exact absurd hpo.1 (by omega)
    · exact absurd hpo.1 (by omega)

theorem b_limM {g0 : GG} {bl : Nat} {xs : Nat → Int32} {l : Launch} {hs : List CE} {T fac ct : Nat → Rat} {bz tl dm : Nat → Int} {ri li gi lmi : Int32} {r ln9 gr nn ng gd lam9 : Nat} {lm : Int} {S : Nat → RS9} (hri : ri.toInt = (r : Int)) (hr : r < 29) (hli : li.toInt = (ln9 : Int)) (hgi : gi.toInt = (gr : Int)) (hl6 : ln9 < 6) (hg2 : gr < 2) (hlm : lmi.toInt = lm) (hlm0 : 0 ≤ lm) (hlm9 : lm ≤ 100001) (hnn : tl 0 = (nn : Int)) (hn4 : nn ≤ 4) (hng : tl 3 = (ng : Int)) (hn5 : ng ≤ 5) (hat : ∀ g, g < ng → 0 ≤ tl (17 + g) ∧ tl (17 + g) ≤ 3) (hdm : ∀ j, 0 ≤ dm j ∧ dm j ≤ 220) (hFs : ∀ j, 24 * gr ≤ j → j < 24 * gr + 24 → Sml (fac j)) (hPs : ∀ j, j < nn → Sml (fac (24 * gr + 4 * ln9 + j) * (((-1) * dm j : Int) : Rat))) (hSd : ∀ j, j ≤ nn → Sml (sdn fac dm (-1) lm (24 * gr + 4 * ln9) j)) (hTI : TI T bz r S gd ct) (hSr : S r = (fun g => if g < ng then cfn fac tl (-1) (24 * gr + 4 * ln9) g else 0, sdn fac dm (-1) lm (24 * gr + 4 * ln9) nn)) (h0 : 0 < lam9) (h256 : lam9 ≤ 256) (hSm : ∀ i, i ≤ r → SmS lam9 (S i)) (rw0 : RW hs) (hTo : IArr hs 125 46 tl) (hR : QRng hs 131 132 (24 * gr) (24 * gr + 24) fac) (hD : IArr hs 135 4 dm) (hB : IArr hs 141 30 bz) (h28 : rd hs 124 28 = .int ri) (hT : QArr hs 139 140 1295 T) : BodyN SSX TBL g0 CLS bl xs l D_236 5 136 0 0 [.ref 124, .int li, .int gi, .int lmi, .long (-1 : Int64)] hs (fun kd _ h2 => kd = 0 ∧ ∃ (T2 : Nat → Rat) (bz2 : Nat → Int), QArr h2 139 140 1295 T2 ∧ IArr h2 141 30 bz2 ∧ TI T2 bz2 (r + 1) S gd ct ∧ rd h2 124 28 = .int (ri + (1 : Int32)) ∧ FrS WC hs h2) := by
  intro wp p e R s m args below meth c Q kc0 ks0 kc ks act hf hl hc hsl hEnd
  show WpN (gp g0 wp) CLS p l e R s m args below meth c Q D_236.2.2.1 kc0 ks0 0 [some (.ref 124), some (.int li), some (.int gi), some (.int lmi), some (.long (-1 : Int64)), none, none, none] (hs, kc, ks) []
  refine g_loadA act (gx gp_236 (w := 0x103) rfl (by decide) rfl) (a := 0) (n := 1) rfl rfl rfl ?_
  refine g_loadA act (gx gp_236 (w := 0x203) rfl (by decide) rfl) (a := 0) (n := 2) rfl rfl rfl ?_
  refine r_getf act (gx gp_236 (w := 0x709000504) rfl (by decide) rfl) (n := 5) (ci := 9) (j := 28) (N := 39) rfl rfl rfl rw0.1 (by decide) (v := .int ri) h28 ?_
  refine g_constI act (gx gp_236 (w := 0x40000011400000111000000000701) rfl (by decide) rfl) (n := 7) (x := (34 : Int32)) (by decide) rfl ?_
  refine g_loadI act (gx gp_236 (w := 0x3000802) rfl (by decide) rfl) (a := 3) (n := 8) rfl rfl rfl ?_
  refine g_i2l act (gx gp_236 (w := 0x92c) rfl (by decide) rfl) (n := 9) rfl ?_
  have v_1 := lw_i2l hlm
  refine g_constL act (gx gp_236 (w := 0x4000000000000000a000000000a01) rfl (by decide) rfl) (n := 10) (x := 1) (by decide) rfl ?_
  refine n_call tb_pres act hEnd (gx (P := G_call) gp_236 (w := 0xa00000000000081c75000100000d0f) rfl (by decide) rfl) (d' := D_256) rfl (as := [.ref 124, .int ri, .int (34 : Int32), .long (lmi).toInt64, .long (1 : Int64)]) (rest := []) (b_putsQ (R9 := r) (C9 := 34) rw0 hT hri (show (34 : Int32).toInt = ((34 : Nat) : Int) from by decide) (by omega) (fr_int v_1 (by decide))) (show (5 : Nat) = fb 0xa00000000000081c75000100000d0f % 16 by decide) (by show (7 : Nat) ≤ 7; decide) (fun _ => ⟨_, _, rfl, _, shp_at rw0.1, Or.inr (show fb 0xa00000000000081c75000100000d0f >>> 68 = 10 by decide)⟩) (by omega) (by show 8 + (7 + 11) + 0 ≤ R.locals; omega) (by show (0 : Nat) ≤ 8; decide) (by show kc + 0 ≤ _; omega) (by show ks + 0 ≤ _; omega) (fun r9 hs_3 hpo hr9 => ?_) (fun x9 hs9 hx9 hpo => ?_)
  · obtain rfl : r9 = none := hr9.elim (fun q => q.2) (fun q => absurd rfl q.1)
    obtain ⟨-, hT_2, fr_4⟩ := hpo
    have rw_5 := rw0.fr fr_4 W1_rw
    have f_6 := hTo.fr (fun j9 _ => fr_4.2.2 125 j9 (by unfold W1; omega))
    have f_7 := hR.fr (fun j9 _ _ => ⟨fr_4.2.2 131 j9 (by unfold W1; omega), fr_4.2.2 132 j9 (by unfold W1; omega)⟩)
    have f_8 := hD.fr (fun j9 _ => fr_4.2.2 135 j9 (by unfold W1; omega))
    have f_9 := hB.fr (fun j9 _ => fr_4.2.2 141 j9 (by unfold W1; omega))
    have f_10 := rd_fr fr_4 h28 (by unfold W1; omega)
    have fr_11 := (FrS.rf WC hs).tr (fr_4.mono (fun k9 j9 h9 => by unfold W1 at h9; unfold WC; omega))
    show WpN (gp g0 wp) CLS p l e R s m args below meth c Q D_236.2.2.1 kc0 ks0 13 [some (.ref 124), some (.int li), some (.int gi), some (.int lmi), some (.long (-1 : Int64)), none, none, none] (hs_3, kc, ks) []
    refine g_constI act (gx gp_236 (w := 0x40000000400000001000000000e01) rfl (by decide) rfl) (n := 14) (x := (0 : Int32)) (by decide) rfl ?_
    refine g_storeI act (gx gp_236 (w := 0x6001010) rfl (by decide) rfl) (a := 6) (n := 16) rfl rfl (L2 := [some (.ref 124), some (.int li), some (.int gi), some (.int lmi), some (.long (-1 : Int64)), none, some (.int (0 : Int32)), none]) rfl ?_
    exact lim_aM hri hr hli hgi hl6 hg2 hlm hlm0 hlm9 hnn hn4 hng hn5 hat hdm hFs hPs hSd hTI hSr h0 h256 hSm hf hl hc hsl act hEnd (by omega) (by omega) 0 (by omega) _ _ rfl rw_5 f_6 f_7 f_8 f_9 f_10 hT_2 fr_11
  · exact absurd hpo.1 (by omega)
