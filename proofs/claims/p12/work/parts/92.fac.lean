/-! The factors: the equations of a node are solved, then the lines' differences. -/
def elim (f : Nat → Rat) (n : Nat) : Nat → Nat → Rat
  | 0 => f
  | m + 1 => clrQ (elim f n m) m n
def eqs0 (tl : Nat → Int) (but : Int) (nl nd : Nat) : Nat → Rat := fun j => ((upI (lapc tl but nl) (4 * nd + 3) 1 j : Int) : Rat)
def ElOK (tl : Nat → Int) (but : Int) (nl n : Nat) : Prop := ∀ nd, nd < n → (∀ m, m < n → (∀ j, j < 12 → Sm4 (elim (eqs0 tl but nl nd) n m j)) ∧ (∀ j, j < 12 → Sm4 (scl (elim (eqs0 tl but nl nd) n m) m 4 j)) ∧ elim (eqs0 tl but nl nd) n m (4 * m + m) ≠ 0) ∧ ∀ j, j < 12 → Sm4 (elim (eqs0 tl but nl nd) n n j)
def the (tl : Nat → Int) (but : Int) (nl n nd : Nat) (x : Int) : Rat := if x.toNat = 0 then 0 else elim (eqs0 tl but nl nd) n n (4 * (x.toNat - 1) + 3)
theorem the_sm {tl : Nat → Int} {but : Int} {nl n nd : Nat} (h : ElOK tl but nl n) (hn : nd < n) {x : Int} (h0 : 0 ≤ x) (h3 : x < 4) : Sm4 (the tl but nl n nd x) := by
  unfold the
  split
  · exact ⟨by decide, by decide⟩
  · exact (h nd hn).2 _ (by omega)
def facG (tl : Nat → Int) (but : Int) (nl n lo m l : Nat) : Nat → Rat := fun j => if (j - lo) / 4 < nl ∧ (((j - lo) / 4 : Nat) : Int) ≠ but ∧ 1 ≤ (j - lo) % 4 ∧ ((j - lo) % 4 < m ∨ ((j - lo) % 4 = m ∧ (j - lo) / 4 < l)) then the tl but nl n ((j - lo) % 4 - 1) (tl (5 + (j - lo) / 4)) + -the tl but nl n ((j - lo) % 4 - 1) (tl (11 + (j - lo) / 4)) else 0
theorem fac_step {tl : Nat → Int} {but : Int} {nl n lo m l : Nat} (hl : l < nl) (hb : (l : Int) ≠ but) (hm1 : 1 ≤ m) (hm3 : m ≤ 3) : ∀ j, lo ≤ j → upQ (facG tl but nl n lo m l) (lo + 4 * l + m) (the tl but nl n (m - 1) (tl (5 + l)) + -the tl but nl n (m - 1) (tl (11 + l))) j = facG tl but nl n lo m (l + 1) j := by
  intro j hj
  unfold upQ
  by_cases z : j = lo + 4 * l + m
  · have e1 : (j - lo) / 4 = l := by omega
    have e2 : (j - lo) % 4 = m := by omega
    rw [if_pos z]
    unfold facG
    rw [e1, e2, if_pos (by omega)]
  · rw [if_neg z]
    unfold facG
    have : ((j - lo) / 4 < nl ∧ (((j - lo) / 4 : Nat) : Int) ≠ but ∧ 1 ≤ (j - lo) % 4 ∧ ((j - lo) % 4 < m ∨ ((j - lo) % 4 = m ∧ (j - lo) / 4 < l))) ↔ ((j - lo) / 4 < nl ∧ (((j - lo) / 4 : Nat) : Int) ≠ but ∧ 1 ≤ (j - lo) % 4 ∧ ((j - lo) % 4 < m ∨ ((j - lo) % 4 = m ∧ (j - lo) / 4 < l + 1))) := by omega
    simp only [this]
theorem fac_skip {tl : Nat → Int} {but : Int} {nl n lo m l : Nat} (hb : (l : Int) = but) : facG tl but nl n lo m l = facG tl but nl n lo m (l + 1) := by
  funext j
  unfold facG
  have : ((j - lo) / 4 < nl ∧ (((j - lo) / 4 : Nat) : Int) ≠ but ∧ 1 ≤ (j - lo) % 4 ∧ ((j - lo) % 4 < m ∨ ((j - lo) % 4 = m ∧ (j - lo) / 4 < l))) ↔ ((j - lo) / 4 < nl ∧ (((j - lo) / 4 : Nat) : Int) ≠ but ∧ 1 ≤ (j - lo) % 4 ∧ ((j - lo) % 4 < m ∨ ((j - lo) % 4 = m ∧ (j - lo) / 4 < l + 1))) := by omega
  simp only [this]
theorem fac_full (tl : Nat → Int) (but : Int) (nl n lo m : Nat) : facG tl but nl n lo m nl = facG tl but nl n lo (m + 1) 0 := by
  funext j
  unfold facG
  have : ((j - lo) / 4 < nl ∧ (((j - lo) / 4 : Nat) : Int) ≠ but ∧ 1 ≤ (j - lo) % 4 ∧ ((j - lo) % 4 < m ∨ ((j - lo) % 4 = m ∧ (j - lo) / 4 < nl))) ↔ ((j - lo) / 4 < nl ∧ (((j - lo) / 4 : Nat) : Int) ≠ but ∧ 1 ≤ (j - lo) % 4 ∧ ((j - lo) % 4 < m + 1 ∨ ((j - lo) % 4 = m + 1 ∧ (j - lo) / 4 < 0))) := by omega
  simp only [this]
def WF (lo k j : Nat) : Prop := k = 133 ∨ k = 134 ∨ ((k = 131 ∨ k = 132) ∧ lo ≤ j ∧ j < lo + 24) ∨ (k = 124 ∧ (j = 7 ∨ j = 8))
theorem WF_rw {lo : Nat} : ∀ q ∈ RWT, ¬ WF lo 124 q.1 := by
  intro q hq
  have : q.1 ≠ 7 ∧ q.1 ≠ 8 := by revert q; decide
  unfold WF
  omega

theorem fac_lines {g0 : GG} {bl : Nat} {xs : Nat → Int32} {l : Launch} {wp : va_W} {p : Program} {e : Env} {R : Room} {s : State} {m : MethodId} {args : Array Value} {below : List Frame} {meth : Method} {c : Code} {Q : State → Prop} {kc0 ks0 kc ks f lam KC KS : Nat} {hs : List CE} {tl : Nat → Int} {loi bi ni : Int32} {lo nl n9 : Nat} {but : Int} (hloi : loi.toInt = (lo : Int)) (hlo : lo ≤ 24) (hbi : bi.toInt = but) (hnl : tl 2 = (nl : Int)) (hn6 : nl ≤ 6) (hN : NetL tl nl) (hn0 : tl 0 = (n9 : Int) + 1) (hn3 : n9 ≤ 3) (hEl : ElOK tl but nl n9) (hni : ni.toInt = (n9 : Int)) (hf : 4 ≤ R.frames) (hl : 119 ≤ R.locals) (hc : kc ≤ R.cells + kc0) (hsl : ks ≤ R.slots + ks0) {mi : Int32} {m9 : Nat} (hmi : mi.toInt = (m9 : Int)) (hm1 : 1 ≤ m9) (hmn : m9 ≤ n9) (act : Act SSX TBL (gp g0 wp) CLS bl xs D_233 p l s m args meth c) (hEnd : EndN SSX TBL (gp g0 wp) CLS D_233 p l e R s m args below meth c Q kc0 ks0 f lam KC KS (fun kd r h2 => kd = 0 ∧ QRng h2 131 132 lo (lo + 24) (facG tl but nl n9 lo (n9 + 1) 0) ∧ ALng h2 131 48 ∧ ALng h2 132 48 ∧ ALng h2 133 12 ∧ ALng h2 134 12 ∧ FrS (WF lo) hs h2)) (hk1 : kc ≤ KC) (hk2 : ks ≤ KS) (KO : ∀ hj : List CE, RW hj → IArr hj 125 46 tl → ALng hj 131 48 → ALng hj 132 48 → ALng hj 133 12 → ALng hj 134 12 → QRng hj 131 132 lo (lo + 24) (facG tl but nl n9 lo (m9 + 1) 0) → FrS (WF lo) hs hj → WpN (gp g0 wp) CLS p l e R s m args below meth c Q D_233.2.2.1 kc0 ks0 204 [some (.ref 124), some (.int loi), some (.int bi), some (.int ni), some (.int mi), none, none, none, none, none] (hj, kc, ks) []) : ∀ l9 : Nat, l9 ≤ nl → ∀ (li : Int32) (hj : List CE), li.toInt = (l9 : Int) → RW hj → IArr hj 125 46 tl → ALng hj 131 48 → ALng hj 132 48 → QArr hj 133 134 12 (elim (eqs0 tl but nl (m9 - 1)) n9 n9) → QRng hj 131 132 lo (lo + 24) (facG tl but nl n9 lo m9 l9) → FrS (WF lo) hs hj → WpN (gp g0 wp) CLS p l e R s m args below meth c Q D_233.2.2.1 kc0 ks0 86 [some (.ref 124), some (.int loi), some (.int bi), some (.int ni), some (.int mi), some (.int li), none, none, none, none] (hj, kc, ks) [] := by
  refine dn (fun l9 hl9 ih => ?_)
  intro li hj hli rwj hTo h131 h132 hQ hR hfr
  have hnk := fun (h : l9 < nl) => hN l9 h
  refine g_loadI act (gx gp_233 (w := 0x5005802) rfl (by decide) rfl) (a := 5) (n := 88) rfl rfl rfl ?_
  refine g_loadA act (gx gp_233 (w := 0x5903) rfl (by decide) rfl) (a := 0) (n := 89) rfl rfl rfl ?_
  refine r_getf act (gx gp_233 (w := 0x3000049005c04) rfl (by decide) rfl) (n := 92) (ci := 9) (j := 1) (N := 39) rfl rfl rfl rwj.1 (by decide) (rwj.2 (1, 125, 32, 46) (by decide)).1 ?_
  refine g_constI act (gx gp_233 (w := 0x40000001400000011000000005d01) rfl (by decide) rfl) (n := 93) (x := (2 : Int32)) (by decide) rfl ?_
  obtain ⟨x_1, e_2, hx_3⟩ := hTo 2 (by omega)
  refine r_iald act (gx gp_233 (w := 0x5e1a) rfl (by decide) rfl) (n := 94) (j := 2) rfl (rwj.2 (1, 125, 32, 46) (by decide)).2 (show (2 : Int32).toInt = ((2 : Nat) : Int) from by decide) (show 2 < 46 by omega) (v := .int x_1) e_2 ?_
  refine g_icmpGe act (gx gp_233 (w := 0xcc006108) rfl (by decide) rfl) (tgt := 204) (n := 97) rfl rfl (fun h4 => ?_) (fun h4 => ?_)
  · simp only [i_le] at h4
    obtain rfl : l9 = nl := by omega
    rw [fac_full] at hR
    exact n_forget (d := D_233) (L2 := [some (.ref 124), some (.int loi), some (.int bi), some (.int ni), some (.int mi), none, none, none, none, none]) (fun i v hi => by
      match i, hi with
      | 0, hi => exact hi
      | 1, hi => exact hi
      | 2, hi => exact hi
      | 3, hi => exact hi
      | 4, hi => exact hi
      | 5, hi => cases hi
      | 6, hi => cases hi
      | 7, hi => cases hi
      | 8, hi => cases hi
      | 9, hi => cases hi
      | i + 10, hi => cases hi) (KO hj rwj hTo h131 h132 hQ.lng1 hQ.lng2 hR hfr)
  · simp only [i_le] at h4
    refine g_loadI act (gx gp_233 (w := 0x5006302) rfl (by decide) rfl) (a := 5) (n := 99) rfl rfl rfl ?_
    refine g_loadI act (gx gp_233 (w := 0x2006402) rfl (by decide) rfl) (a := 2) (n := 100) rfl rfl rfl ?_
    refine g_icmpNe act (gx gp_233 (w := 0x6a006721) rfl (by decide) rfl) (tgt := 106) (n := 103) rfl rfl (fun h7 => ?_) (fun h7 => ?_)
    · simp only [i_eq] at h7
      refine g_loadA act (gx gp_233 (w := 0x6b03) rfl (by decide) rfl) (a := 0) (n := 107) rfl rfl rfl ?_
      refine g_loadA act (gx gp_233 (w := 0x6c03) rfl (by decide) rfl) (a := 0) (n := 108) rfl rfl rfl ?_
      refine r_getf act (gx gp_233 (w := 0x3000049006f04) rfl (by decide) rfl) (n := 111) (ci := 9) (j := 1) (N := 39) rfl rfl rfl rwj.1 (by decide) (rwj.2 (1, 125, 32, 46) (by decide)).1 ?_
      refine g_constI act (gx gp_233 (w := 0x40000002c00000029000000007001) rfl (by decide) rfl) (n := 112) (x := (5 : Int32)) (by decide) rfl ?_
      refine g_loadI act (gx gp_233 (w := 0x5007202) rfl (by decide) rfl) (a := 5) (n := 114) rfl rfl rfl ?_
      refine g_iadd act (gx gp_233 (w := 0x730a) rfl (by decide) rfl) (n := 115) rfl ?_
      have v_4 := iv_addN (show (5 : Int32).toInt = ((5 : Nat) : Int) from by decide) hli (show (5 + l9) < 2147483648 by omega)
      obtain ⟨x_5, e_6, hx_7⟩ := hTo (5 + l9) (by omega)
      refine r_iald act (gx gp_233 (w := 0x741a) rfl (by decide) rfl) (n := 116) (j := (5 + l9)) rfl (rwj.2 (1, 125, 32, 46) (by decide)).2 v_4 (show (5 + l9) < 46 by omega) (v := .int x_5) e_6 ?_
      refine n_call tb_pres act hEnd (gx (P := G_call) gp_233 (w := 0xa000000000000808220000b300770f) rfl (by decide) rfl) (d' := D_179) rfl (as := [.ref 124, .int x_5]) (rest := []) (b_angle (n9 := (tl (5 + l9)).toNat) rwj hQ (show _ = (((tl (5 + l9)).toNat : Nat) : Int) by omega) (by omega) ((hEl (m9 - 1) (by omega)).2)) (show (2 : Nat) = fb 0xa000000000000808220000b300770f % 16 by decide) (by show (2 : Nat) ≤ 2; decide) (fun _ => ⟨_, _, rfl, _, shp_at rwj.1, Or.inr (show fb 0xa000000000000808220000b300770f >>> 68 = 10 by decide)⟩) (by omega) (by show 8 + (2 + 11) + 55 ≤ R.locals; omega) (by show (0 : Nat) ≤ 8; decide) (by show kc + 0 ≤ _; omega) (by show ks + 0 ≤ _; omega) (fun r9 hs_13 hpo hr9 => ?_) (fun x9 hs9 hx9 hpo => ?_)
      · obtain rfl : r9 = none := hr9.elim (fun q => q.2) (fun q => absurd rfl q.1)
        obtain ⟨-, t_8, w_9, e_10, e_11, hF_12, fr_14⟩ := hpo
        have rw_15 := rwj.fr fr_14 W0_rw
        have f_16 := hTo.fr (fun j9 _ => fr_14.2.2 125 j9 (by unfold W0; omega))
        have f_17 := h131.fr (fun j9 _ => fr_14.2.2 131 j9 (by unfold W0; omega))
        have f_18 := h132.fr (fun j9 _ => fr_14.2.2 132 j9 (by unfold W0; omega))
        have f_19 := hQ.fr (fun j9 _ => ⟨fr_14.2.2 133 j9 (by unfold W0; omega), fr_14.2.2 134 j9 (by unfold W0; omega)⟩)
        have f_20 := hR.fr (fun j9 _ _ => ⟨fr_14.2.2 131 j9 (by unfold W0; omega), fr_14.2.2 132 j9 (by unfold W0; omega)⟩)
        have fr_21 := hfr.tr (fr_14.mono (fun k9 j9 h9 => by unfold W0 at h9; unfold WF; omega))
        have hF_12 : FR t_8 w_9 (the tl but nl n9 (m9 - 1) (tl (5 + l9))) := hF_12
        clear rwj hTo h131 h132 hQ hR hfr
        show WpN (gp g0 wp) CLS p l e R s m args below meth c Q D_233.2.2.1 kc0 ks0 119 [some (.ref 124), some (.int loi), some (.int bi), some (.int ni), some (.int mi), some (.int li), none, none, none, none] (hs_13, kc, ks) []
        refine g_loadA act (gx gp_233 (w := 0x7803) rfl (by decide) rfl) (a := 0) (n := 120) rfl rfl rfl ?_
        refine r_getf act (gx gp_233 (w := 0x20001c9007b04) rfl (by decide) rfl) (n := 123) (ci := 9) (j := 7) (N := 39) rfl rfl rfl rw_15.1 (by decide) (v := .long t_8) e_10 ?_
        refine g_storeL act (gx gp_233 (w := 0x6007d0b) rfl (by decide) rfl) (a := 6) (n := 125) rfl rfl (L2 := [some (.ref 124), some (.int loi), some (.int bi), some (.int ni), some (.int mi), some (.int li), some (.long t_8), none, none, none]) rfl ?_
        refine g_loadA act (gx gp_233 (w := 0x7e03) rfl (by decide) rfl) (a := 0) (n := 126) rfl rfl rfl ?_
        refine r_getf act (gx gp_233 (w := 0x2000209008104) rfl (by decide) rfl) (n := 129) (ci := 9) (j := 8) (N := 39) rfl rfl rfl rw_15.1 (by decide) (v := .long w_9) e_11 ?_
        refine g_storeL act (gx gp_233 (w := 0x800830b) rfl (by decide) rfl) (a := 8) (n := 131) rfl rfl (L2 := [some (.ref 124), some (.int loi), some (.int bi), some (.int ni), some (.int mi), some (.int li), some (.long t_8), none, some (.long w_9), none]) rfl ?_
        refine g_loadA act (gx gp_233 (w := 0x8403) rfl (by decide) rfl) (a := 0) (n := 132) rfl rfl rfl ?_
        refine g_loadA act (gx gp_233 (w := 0x8503) rfl (by decide) rfl) (a := 0) (n := 133) rfl rfl rfl ?_
        refine r_getf act (gx gp_233 (w := 0x3000049008804) rfl (by decide) rfl) (n := 136) (ci := 9) (j := 1) (N := 39) rfl rfl rfl rw_15.1 (by decide) (rw_15.2 (1, 125, 32, 46) (by decide)).1 ?_
        refine g_constI act (gx gp_233 (w := 0x40000005c00000059000000008a01) rfl (by decide) rfl) (n := 138) (x := (11 : Int32)) (by decide) rfl ?_
        refine g_loadI act (gx gp_233 (w := 0x5008c02) rfl (by decide) rfl) (a := 5) (n := 140) rfl rfl rfl ?_
        refine g_iadd act (gx gp_233 (w := 0x8d0a) rfl (by decide) rfl) (n := 141) rfl ?_
        have v_22 := iv_addN (show (11 : Int32).toInt = ((11 : Nat) : Int) from by decide) hli (show (11 + l9) < 2147483648 by omega)
        obtain ⟨x_23, e_24, hx_25⟩ := f_16 (11 + l9) (by omega)
        refine r_iald act (gx gp_233 (w := 0x8e1a) rfl (by decide) rfl) (n := 142) (j := (11 + l9)) rfl (rw_15.2 (1, 125, 32, 46) (by decide)).2 v_22 (show (11 + l9) < 46 by omega) (v := .int x_23) e_24 ?_
        refine n_call tb_pres act hEnd (gx (P := G_call) gp_233 (w := 0xa000000000000808220000b300910f) rfl (by decide) rfl) (d' := D_179) rfl (as := [.ref 124, .int x_23]) (rest := []) (b_angle (n9 := (tl (11 + l9)).toNat) rw_15 f_19 (show _ = (((tl (11 + l9)).toNat : Nat) : Int) by omega) (by omega) ((hEl (m9 - 1) (by omega)).2)) (show (2 : Nat) = fb 0xa000000000000808220000b300910f % 16 by decide) (by show (2 : Nat) ≤ 2; decide) (fun _ => ⟨_, _, rfl, _, shp_at rw_15.1, Or.inr (show fb 0xa000000000000808220000b300910f >>> 68 = 10 by decide)⟩) (by omega) (by show 8 + (2 + 11) + 55 ≤ R.locals; omega) (by show (0 : Nat) ≤ 8; decide) (by show kc + 0 ≤ _; omega) (by show ks + 0 ≤ _; omega) (fun r9 hs_31 hpo hr9 => ?_) (fun x9 hs9 hx9 hpo => ?_)
        · obtain rfl : r9 = none := hr9.elim (fun q => q.2) (fun q => absurd rfl q.1)
          obtain ⟨-, t_26, w_27, e_28, e_29, hF_30, fr_32⟩ := hpo
          have rw_33 := rw_15.fr fr_32 W0_rw
          have f_34 := f_16.fr (fun j9 _ => fr_32.2.2 125 j9 (by unfold W0; omega))
          have f_35 := f_17.fr (fun j9 _ => fr_32.2.2 131 j9 (by unfold W0; omega))
          have f_36 := f_18.fr (fun j9 _ => fr_32.2.2 132 j9 (by unfold W0; omega))
          have f_37 := f_19.fr (fun j9 _ => ⟨fr_32.2.2 133 j9 (by unfold W0; omega), fr_32.2.2 134 j9 (by unfold W0; omega)⟩)
          have f_38 := f_20.fr (fun j9 _ _ => ⟨fr_32.2.2 131 j9 (by unfold W0; omega), fr_32.2.2 132 j9 (by unfold W0; omega)⟩)
          have fr_39 := fr_21.tr (fr_32.mono (fun k9 j9 h9 => by unfold W0 at h9; unfold WF; omega))
          have hF_30 : FR t_26 w_27 (the tl but nl n9 (m9 - 1) (tl (11 + l9))) := hF_30
          clear rw_15 f_16 f_17 f_18 f_19 f_20 e_10 e_11 fr_21
          show WpN (gp g0 wp) CLS p l e R s m args below meth c Q D_233.2.2.1 kc0 ks0 145 [some (.ref 124), some (.int loi), some (.int bi), some (.int ni), some (.int mi), some (.int li), some (.long t_8), none, some (.long w_9), none] (hs_31, kc, ks) []
          refine g_loadA act (gx gp_233 (w := 0x9203) rfl (by decide) rfl) (a := 0) (n := 146) rfl rfl rfl ?_
          refine g_loadL act (gx gp_233 (w := 0x6009406) rfl (by decide) rfl) (a := 6) (n := 148) rfl rfl rfl ?_
          refine g_loadL act (gx gp_233 (w := 0x8009606) rfl (by decide) rfl) (a := 8) (n := 150) rfl rfl rfl ?_
          refine g_loadA act (gx gp_233 (w := 0x9703) rfl (by decide) rfl) (a := 0) (n := 151) rfl rfl rfl ?_
          refine r_getf act (gx gp_233 (w := 0x20001c9009a04) rfl (by decide) rfl) (n := 154) (ci := 9) (j := 7) (N := 39) rfl rfl rfl rw_33.1 (by decide) (v := .long t_26) e_28 ?_
          refine g_lneg act (gx gp_233 (w := 0x9b25) rfl (by decide) rfl) (n := 155) rfl ?_
          refine g_loadA act (gx gp_233 (w := 0x9c03) rfl (by decide) rfl) (a := 0) (n := 156) rfl rfl rfl ?_
          refine r_getf act (gx gp_233 (w := 0x2000209009f04) rfl (by decide) rfl) (n := 159) (ci := 9) (j := 8) (N := 39) rfl rfl rfl rw_33.1 (by decide) (v := .long w_27) e_29 ?_
          refine n_call tb_pres act hEnd (gx (P := G_call) gp_233 (w := 0xa00000000000082c950000fc00a20f) rfl (by decide) rfl) (d' := D_252) rfl (as := [.ref 124, .long t_8, .long w_9, .long (-t_26), .long w_27]) (rest := []) (b_plusQ rw_33 hF_12 (FR.ngS hF_30 (the_sm hEl (by omega) (by omega) (by omega)).sml) (the_sm hEl (by omega) (by omega) (by omega)).sml (Sml.neg (the_sm hEl (by omega) (by omega) (by omega)).sml)) (show (5 : Nat) = fb 0xa00000000000082c950000fc00a20f % 16 by decide) (by show (9 : Nat) ≤ 11; decide) (fun _ => ⟨_, _, rfl, _, shp_at rw_33.1, Or.inr (show fb 0xa00000000000082c950000fc00a20f >>> 68 = 10 by decide)⟩) (by omega) (by show 8 + (11 + 11) + 55 ≤ R.locals; omega) (by show (0 : Nat) ≤ 8; decide) (by show kc + 0 ≤ _; omega) (by show ks + 0 ≤ _; omega) (fun r9 hs_40 hpo hr9 => ?_) (fun x9 hs9 hx9 hpo => ?_)
          · obtain rfl : r9 = none := hr9.elim (fun q => q.2) (fun q => absurd rfl q.1)
            obtain ⟨-, t_41, w_42, e_43, e_44, hF_45, fr_46⟩ := hpo
            have rw_47 := rw_33.fr fr_46 W0_rw
            have f_48 := f_34.fr (fun j9 _ => fr_46.2.2 125 j9 (by unfold W0; omega))
            have f_49 := f_35.fr (fun j9 _ => fr_46.2.2 131 j9 (by unfold W0; omega))
            have f_50 := f_36.fr (fun j9 _ => fr_46.2.2 132 j9 (by unfold W0; omega))
            have f_51 := f_37.fr (fun j9 _ => ⟨fr_46.2.2 133 j9 (by unfold W0; omega), fr_46.2.2 134 j9 (by unfold W0; omega)⟩)
            have f_52 := f_38.fr (fun j9 _ _ => ⟨fr_46.2.2 131 j9 (by unfold W0; omega), fr_46.2.2 132 j9 (by unfold W0; omega)⟩)
            have fr_53 := fr_39.tr (fr_46.mono (fun k9 j9 h9 => by unfold W0 at h9; unfold WF; omega))
            clear rw_33 f_34 f_35 f_36 f_37 f_38 e_28 e_29 fr_39
            show WpN (gp g0 wp) CLS p l e R s m args below meth c Q D_233.2.2.1 kc0 ks0 162 [some (.ref 124), some (.int loi), some (.int bi), some (.int ni), some (.int mi), some (.int li), some (.long t_8), none, some (.long w_9), none] (hs_40, kc, ks) []
            refine g_loadA act (gx gp_233 (w := 0xa303) rfl (by decide) rfl) (a := 0) (n := 163) rfl rfl rfl ?_
            refine r_getf act (gx gp_233 (w := 0x300040900a604) rfl (by decide) rfl) (n := 166) (ci := 9) (j := 16) (N := 39) rfl rfl rfl rw_47.1 (by decide) (rw_47.2 (16, 131, 33, 48) (by decide)).1 ?_
            refine g_loadI act (gx gp_233 (w := 0x100a702) rfl (by decide) rfl) (a := 1) (n := 167) rfl rfl rfl ?_
            refine g_constI act (gx gp_233 (w := 0x4000000240000002100000000a801) rfl (by decide) rfl) (n := 168) (x := (4 : Int32)) (by decide) rfl ?_
            refine g_loadI act (gx gp_233 (w := 0x500aa02) rfl (by decide) rfl) (a := 5) (n := 170) rfl rfl rfl ?_
            refine g_imul act (gx gp_233 (w := 0xab11) rfl (by decide) rfl) (n := 171) rfl ?_
            have v_54 := iv_mulN (show (4 : Int32).toInt = ((4 : Nat) : Int) from by decide) hli (show (4 * l9) < 2147483648 by omega)
            refine g_iadd act (gx gp_233 (w := 0xac0a) rfl (by decide) rfl) (n := 172) rfl ?_
            have v_55 := iv_addN hloi v_54 (show (lo + (4 * l9)) < 2147483648 by omega)
            refine g_loadI act (gx gp_233 (w := 0x400ae02) rfl (by decide) rfl) (a := 4) (n := 174) rfl rfl rfl ?_
            refine g_iadd act (gx gp_233 (w := 0xaf0a) rfl (by decide) rfl) (n := 175) rfl ?_
            have v_56 := iv_addN v_55 hmi (show ((lo + (4 * l9)) + m9) < 2147483648 by omega)
            refine g_loadA act (gx gp_233 (w := 0xb003) rfl (by decide) rfl) (a := 0) (n := 176) rfl rfl rfl ?_
            refine r_getf act (gx gp_233 (w := 0x20001c900b304) rfl (by decide) rfl) (n := 179) (ci := 9) (j := 7) (N := 39) rfl rfl rfl rw_47.1 (by decide) (v := .long t_41) e_43 ?_
            refine r_last act (gx gp_233 (w := 0xb405) rfl (by decide) rfl) (n := 180) (j := ((lo + (4 * l9)) + m9)) rfl (rw_47.2 (16, 131, 33, 48) (by decide)).2 v_56 (show ((lo + (4 * l9)) + m9) < 48 by omega) ?_
            have rw_57 := RW.wr (k := 131) (j := ((lo + (4 * l9)) + m9)) (v := .long t_41) rw_47 (Or.inl (by decide))
            have f_58 := f_48.ne (k := 131) (j := ((lo + (4 * l9)) + m9)) (v := .long t_41) (by decide)
            have f_59 := f_49.put (j := ((lo + (4 * l9)) + m9)) (x := t_41) (rw_47.2 (16, 131, 33, 48) (by decide)).2
            have f_60 := f_50.ne (k := 131) (j := ((lo + (4 * l9)) + m9)) (v := .long t_41) (by decide)
            have f_61 := f_51.ne (k := 131) (j := ((lo + (4 * l9)) + m9)) (v := .long t_41) (by decide) (by decide)
            have f_62 := (rd_ne hs_40 (k := 131) (j := ((lo + (4 * l9)) + m9)) (.long t_41) (Or.inl (by decide))).trans e_43
            have f_63 := (rd_ne hs_40 (k := 131) (j := ((lo + (4 * l9)) + m9)) (.long t_41) (Or.inl (by decide))).trans e_44
            have fr_64 := fr_53.wr (k := 131) (j := ((lo + (4 * l9)) + m9)) (.long t_41) (by unfold WF; omega)
            refine g_loadA act (gx gp_233 (w := 0xb503) rfl (by decide) rfl) (a := 0) (n := 181) rfl rfl rfl ?_
            refine r_getf act (gx gp_233 (w := 0x300044900b804) rfl (by decide) rfl) (n := 184) (ci := 9) (j := 17) (N := 39) rfl rfl rfl rw_57.1 (by decide) (rw_57.2 (17, 132, 33, 48) (by decide)).1 ?_
            refine g_loadI act (gx gp_233 (w := 0x100b902) rfl (by decide) rfl) (a := 1) (n := 185) rfl rfl rfl ?_
            refine g_constI act (gx gp_233 (w := 0x4000000240000002100000000ba01) rfl (by decide) rfl) (n := 186) (x := (4 : Int32)) (by decide) rfl ?_
            refine g_loadI act (gx gp_233 (w := 0x500bc02) rfl (by decide) rfl) (a := 5) (n := 188) rfl rfl rfl ?_
            refine g_imul act (gx gp_233 (w := 0xbd11) rfl (by decide) rfl) (n := 189) rfl ?_
            have v_65 := iv_mulN (show (4 : Int32).toInt = ((4 : Nat) : Int) from by decide) hli (show (4 * l9) < 2147483648 by omega)
            refine g_iadd act (gx gp_233 (w := 0xbe0a) rfl (by decide) rfl) (n := 190) rfl ?_
            have v_66 := iv_addN hloi v_65 (show (lo + (4 * l9)) < 2147483648 by omega)
            refine g_loadI act (gx gp_233 (w := 0x400c002) rfl (by decide) rfl) (a := 4) (n := 192) rfl rfl rfl ?_
            refine g_iadd act (gx gp_233 (w := 0xc10a) rfl (by decide) rfl) (n := 193) rfl ?_
            have v_67 := iv_addN v_66 hmi (show ((lo + (4 * l9)) + m9) < 2147483648 by omega)
            refine g_loadA act (gx gp_233 (w := 0xc203) rfl (by decide) rfl) (a := 0) (n := 194) rfl rfl rfl ?_
            refine r_getf act (gx gp_233 (w := 0x200020900c504) rfl (by decide) rfl) (n := 197) (ci := 9) (j := 8) (N := 39) rfl rfl rfl rw_57.1 (by decide) (v := .long w_42) f_63 ?_
            refine r_last act (gx gp_233 (w := 0xc605) rfl (by decide) rfl) (n := 198) (j := ((lo + (4 * l9)) + m9)) rfl (rw_57.2 (17, 132, 33, 48) (by decide)).2 v_67 (show ((lo + (4 * l9)) + m9) < 48 by omega) ?_
            have rw_68 := RW.wr (k := 132) (j := ((lo + (4 * l9)) + m9)) (v := .long w_42) rw_57 (Or.inl (by decide))
            have f_69 := f_58.ne (k := 132) (j := ((lo + (4 * l9)) + m9)) (v := .long w_42) (by decide)
            have f_70 := f_59.ne (k := 132) (j := ((lo + (4 * l9)) + m9)) (v := .long w_42) (by decide)
            have f_71 := f_60.put (j := ((lo + (4 * l9)) + m9)) (x := w_42) (rw_57.2 (17, 132, 33, 48) (by decide)).2
            have f_72 := f_61.ne (k := 132) (j := ((lo + (4 * l9)) + m9)) (v := .long w_42) (by decide) (by decide)
            have f_73 := (rd_ne (wr hs_40 131 ((lo + (4 * l9)) + m9) (.long t_41)) (k := 132) (j := ((lo + (4 * l9)) + m9)) (.long w_42) (Or.inl (by decide))).trans f_62
            have f_74 := (rd_ne (wr hs_40 131 ((lo + (4 * l9)) + m9) (.long t_41)) (k := 132) (j := ((lo + (4 * l9)) + m9)) (.long w_42) (Or.inl (by decide))).trans f_63
            have f_75 := f_52.put (j := ((lo + (4 * l9)) + m9)) (Y := ((the tl but nl n9 (m9 - 1) (tl (5 + l9))) + (-(the tl but nl n9 (m9 - 1) (tl (11 + l9)))))) (rw_47.2 (16, 131, 33, 48) (by decide)).2 (rw_47.2 (17, 132, 33, 48) (by decide)).2 (by decide) hF_45
            have fr_76 := fr_64.wr (k := 132) (j := ((lo + (4 * l9)) + m9)) (.long w_42) (by unfold WF; omega)
            clear rw_57 fr_64 f_58 f_59 f_60 f_61 f_62 f_63 fr_53 f_48 f_49 f_50 f_51 e_43 e_44
            generalize (wr (wr hs_40 131 ((lo + (4 * l9)) + m9) (.long t_41)) 132 ((lo + (4 * l9)) + m9) (.long w_42)) = hs_77 at *
            refine g_iinc act (gx gp_233 (w := 0x8000000100000500c909) rfl (by decide) rfl) (a := 5) (i := (1 : Int32)) (n := 201) rfl (by decide) rfl rfl (L2 := [some (.ref 124), some (.int loi), some (.int bi), some (.int ni), some (.int mi), some (.int (li + (1 : Int32))), some (.long t_8), none, some (.long w_9), none]) rfl ?_
            have v_78 := iv_addN hli (show (1 : Int32).toInt = ((1 : Nat) : Int) from by decide) (show (l9 + 1) < 2147483648 by omega)
            refine g_goto act (gx gp_233 (w := 0x5607) rfl (by decide) rfl) (n := 86) rfl ?_
            exact n_forget (d := D_233) (L2 := [some (.ref 124), some (.int loi), some (.int bi), some (.int ni), some (.int mi), some (.int (li + (1 : Int32))), none, none, none, none]) (fun i v hi => by
              match i, hi with
              | 0, hi => exact hi
              | 1, hi => exact hi
              | 2, hi => exact hi
              | 3, hi => exact hi
              | 4, hi => exact hi
              | 5, hi => exact hi
              | 6, hi => cases hi
              | 7, hi => cases hi
              | 8, hi => cases hi
              | 9, hi => cases hi
              | i + 10, hi => cases hi) (ih (l9 + 1) (by omega) (by omega) _ _ v_78 rw_68 f_69 f_70 f_71 f_72 (f_75.cong (fun j h1 _ => fac_step (by omega) (by omega) (by omega) (by omega) j h1)) fr_76)
          · exact absurd hpo.1 (by omega)
        · exact absurd hpo.1 (by omega)
      · exact absurd hpo.1 (by omega)
    · simp only [i_eq] at h7
      refine g_goto act (gx gp_233 (w := 0xc607) rfl (by decide) rfl) (n := 198) rfl ?_
      refine g_iinc act (gx gp_233 (w := 0x8000000100000500c909) rfl (by decide) rfl) (a := 5) (i := (1 : Int32)) (n := 201) rfl (by decide) rfl rfl (L2 := [some (.ref 124), some (.int loi), some (.int bi), some (.int ni), some (.int mi), some (.int (li + (1 : Int32))), none, none, none, none]) rfl ?_
      have v_79 := iv_addN hli (show (1 : Int32).toInt = ((1 : Nat) : Int) from by decide) (show (l9 + 1) < 2147483648 by omega)
      refine g_goto act (gx gp_233 (w := 0x5607) rfl (by decide) rfl) (n := 86) rfl ?_
      exact n_forget (d := D_233) (L2 := [some (.ref 124), some (.int loi), some (.int bi), some (.int ni), some (.int mi), some (.int (li + (1 : Int32))), none, none, none, none]) (fun i v hi => by
        match i, hi with
        | 0, hi => exact hi
        | 1, hi => exact hi
        | 2, hi => exact hi
        | 3, hi => exact hi
        | 4, hi => exact hi
        | 5, hi => exact hi
        | 6, hi => cases hi
        | 7, hi => cases hi
        | 8, hi => cases hi
        | 9, hi => cases hi
        | i + 10, hi => cases hi) (ih (l9 + 1) (by omega) (by omega) _ _ v_79 rwj hTo h131 h132 hQ (by rw [fac_skip (show (l9 : Int) = but by omega)] at hR; exact hR) hfr)

theorem fac_rows {g0 : GG} {bl : Nat} {xs : Nat → Int32} {l : Launch} {wp : va_W} {p : Program} {e : Env} {R : Room} {s : State} {m : MethodId} {args : Array Value} {below : List Frame} {meth : Method} {c : Code} {Q : State → Prop} {kc0 ks0 kc ks f lam KC KS : Nat} {hs : List CE} {tl : Nat → Int} {loi bi ni : Int32} {lo nl n9 : Nat} {but : Int} (hloi : loi.toInt = (lo : Int)) (hlo : lo ≤ 24) (hbi : bi.toInt = but) (hnl : tl 2 = (nl : Int)) (hn6 : nl ≤ 6) (hN : NetL tl nl) (hn0 : tl 0 = (n9 : Int) + 1) (hn3 : n9 ≤ 3) (hEl : ElOK tl but nl n9) (hni : ni.toInt = (n9 : Int)) (hf : 4 ≤ R.frames) (hl : 119 ≤ R.locals) (hc : kc ≤ R.cells + kc0) (hsl : ks ≤ R.slots + ks0) {mi : Int32} {m9 : Nat} (hmi : mi.toInt = (m9 : Int)) (hm1 : 1 ≤ m9) (hmn : m9 ≤ n9) (act : Act SSX TBL (gp g0 wp) CLS bl xs D_233 p l s m args meth c) (hEnd : EndN SSX TBL (gp g0 wp) CLS D_233 p l e R s m args below meth c Q kc0 ks0 f lam KC KS (fun kd r h2 => kd = 0 ∧ QRng h2 131 132 lo (lo + 24) (facG tl but nl n9 lo (n9 + 1) 0) ∧ ALng h2 131 48 ∧ ALng h2 132 48 ∧ ALng h2 133 12 ∧ ALng h2 134 12 ∧ FrS (WF lo) hs h2)) (hk1 : kc ≤ KC) (hk2 : ks ≤ KS) (KO : ∀ hj : List CE, RW hj → IArr hj 125 46 tl → ALng hj 131 48 → ALng hj 132 48 → ALng hj 133 12 → ALng hj 134 12 → QRng hj 131 132 lo (lo + 24) (facG tl but nl n9 lo (m9 + 1) 0) → FrS (WF lo) hs hj → WpN (gp g0 wp) CLS p l e R s m args below meth c Q D_233.2.2.1 kc0 ks0 204 [some (.ref 124), some (.int loi), some (.int bi), some (.int ni), some (.int mi), none, none, none, none, none] (hj, kc, ks) []) : ∀ l9 : Nat, l9 ≤ n9 → ∀ (li : Int32) (hj : List CE), li.toInt = (l9 : Int) → RW hj → IArr hj 125 46 tl → ALng hj 131 48 → ALng hj 132 48 → QArr hj 133 134 12 (elim (eqs0 tl but nl (m9 - 1)) n9 l9) → QRng hj 131 132 lo (lo + 24) (facG tl but nl n9 lo m9 0) → FrS (WF lo) hs hj → WpN (gp g0 wp) CLS p l e R s m args below meth c Q D_233.2.2.1 kc0 ks0 64 [some (.ref 124), some (.int loi), some (.int bi), some (.int ni), some (.int mi), some (.int li), none, none, none, none] (hj, kc, ks) [] := by
  refine dn (fun l9 hl9 ih => ?_)
  intro li hj hli rwj hTo h131 h132 hQ hR hfr
  refine g_loadI act (gx gp_233 (w := 0x5004202) rfl (by decide) rfl) (a := 5) (n := 66) rfl rfl rfl ?_
  refine g_loadI act (gx gp_233 (w := 0x3004302) rfl (by decide) rfl) (a := 3) (n := 67) rfl rfl rfl ?_
  refine g_icmpGe act (gx gp_233 (w := 0x53004608) rfl (by decide) rfl) (tgt := 83) (n := 70) rfl rfl (fun h3 => ?_) (fun h3 => ?_)
  · simp only [i_le] at h3
    refine g_constI act (gx gp_233 (w := 0x40000000400000001000000005401) rfl (by decide) rfl) (n := 84) (x := (0 : Int32)) (by decide) rfl ?_
    refine g_storeI act (gx gp_233 (w := 0x5005610) rfl (by decide) rfl) (a := 5) (n := 86) rfl rfl (L2 := [some (.ref 124), some (.int loi), some (.int bi), some (.int ni), some (.int mi), some (.int (0 : Int32)), none, none, none, none]) rfl ?_
    obtain rfl : l9 = n9 := by omega
    exact fac_lines hloi hlo hbi hnl hn6 hN hn0 hn3 hEl hni hf hl hc hsl hmi hm1 hmn act hEnd hk1 hk2 KO 0 (by omega) _ hj rfl rwj hTo h131 h132 hQ hR hfr
  · simp only [i_le] at h3
    refine g_loadA act (gx gp_233 (w := 0x4703) rfl (by decide) rfl) (a := 0) (n := 71) rfl rfl rfl ?_
    refine g_loadI act (gx gp_233 (w := 0x5004902) rfl (by decide) rfl) (a := 5) (n := 73) rfl rfl rfl ?_
    refine g_loadI act (gx gp_233 (w := 0x3004a02) rfl (by decide) rfl) (a := 3) (n := 74) rfl rfl rfl ?_
    refine n_call tb_pres act hEnd (gx (P := G_call) gp_233 (w := 0xa000000000000834330000bc004d0f) rfl (by decide) rfl) (d' := D_188) rfl (as := [.ref 124, .int li, .int ni]) (rest := []) (b_clears rwj hQ hli hni (by omega) hn3 ((hEl (m9 - 1) (by omega)).1 l9 (by omega)).1 ((hEl (m9 - 1) (by omega)).1 l9 (by omega)).2.1 ((hEl (m9 - 1) (by omega)).1 l9 (by omega)).2.2) (show (3 : Nat) = fb 0xa000000000000834330000bc004d0f % 16 by decide) (by show (3 : Nat) ≤ 13; decide) (fun _ => ⟨_, _, rfl, _, shp_at rwj.1, Or.inr (show fb 0xa000000000000834330000bc004d0f >>> 68 = 10 by decide)⟩) (by omega) (by show 8 + (13 + 11) + 87 ≤ R.locals; omega) (by show (0 : Nat) ≤ 8; decide) (by show kc + 0 ≤ _; omega) (by show ks + 0 ≤ _; omega) (fun r9 hs_2 hpo hr9 => ?_) (fun x9 hs9 hx9 hpo => ?_)
    · obtain rfl : r9 = none := hr9.elim (fun q => q.2) (fun q => absurd rfl q.1)
      obtain ⟨-, hA_1, fr_3⟩ := hpo
      have rw_4 := rwj.fr fr_3 WQ_rw
      have f_5 := hTo.fr (fun j9 _ => fr_3.2.2 125 j9 (by unfold WQ; omega))
      have f_6 := h131.fr (fun j9 _ => fr_3.2.2 131 j9 (by unfold WQ; omega))
      have f_7 := h132.fr (fun j9 _ => fr_3.2.2 132 j9 (by unfold WQ; omega))
      have f_8 := hR.fr (fun j9 _ _ => ⟨fr_3.2.2 131 j9 (by unfold WQ; omega), fr_3.2.2 132 j9 (by unfold WQ; omega)⟩)
      have fr_9 := hfr.tr (fr_3.mono (fun k9 j9 h9 => by unfold WQ at h9; unfold WF; omega))
      have hA_1 : QArr hs_2 133 134 12 (elim (eqs0 tl but nl (m9 - 1)) n9 (l9 + 1)) := hA_1
      clear rwj hTo h131 h132 hQ hR hfr
      show WpN (gp g0 wp) CLS p l e R s m args below meth c Q D_233.2.2.1 kc0 ks0 77 [some (.ref 124), some (.int loi), some (.int bi), some (.int ni), some (.int mi), some (.int li), none, none, none, none] (hs_2, kc, ks) []
      refine g_iinc act (gx gp_233 (w := 0x80000001000005005009) rfl (by decide) rfl) (a := 5) (i := (1 : Int32)) (n := 80) rfl (by decide) rfl rfl (L2 := [some (.ref 124), some (.int loi), some (.int bi), some (.int ni), some (.int mi), some (.int (li + (1 : Int32))), none, none, none, none]) rfl ?_
      have v_10 := iv_addN hli (show (1 : Int32).toInt = ((1 : Nat) : Int) from by decide) (show (l9 + 1) < 2147483648 by omega)
      refine g_goto act (gx gp_233 (w := 0x4007) rfl (by decide) rfl) (n := 64) rfl ?_
      exact ih (l9 + 1) (by omega) (by omega) _ _ v_10 rw_4 f_5 f_6 f_7 hA_1 f_8 fr_9
    · exact absurd hpo.1 (by omega)

theorem fac_nodes {g0 : GG} {bl : Nat} {xs : Nat → Int32} {l : Launch} {wp : va_W} {p : Program} {e : Env} {R : Room} {s : State} {m : MethodId} {args : Array Value} {below : List Frame} {meth : Method} {c : Code} {Q : State → Prop} {kc0 ks0 kc ks f lam KC KS : Nat} {hs : List CE} {tl : Nat → Int} {loi bi ni : Int32} {lo nl n9 : Nat} {but : Int} (hloi : loi.toInt = (lo : Int)) (hlo : lo ≤ 24) (hbi : bi.toInt = but) (hnl : tl 2 = (nl : Int)) (hn6 : nl ≤ 6) (hN : NetL tl nl) (hn0 : tl 0 = (n9 : Int) + 1) (hn3 : n9 ≤ 3) (hEl : ElOK tl but nl n9) (hni : ni.toInt = (n9 : Int)) (hf : 4 ≤ R.frames) (hl : 119 ≤ R.locals) (hc : kc ≤ R.cells + kc0) (hsl : ks ≤ R.slots + ks0) (act : Act SSX TBL (gp g0 wp) CLS bl xs D_233 p l s m args meth c) (hEnd : EndN SSX TBL (gp g0 wp) CLS D_233 p l e R s m args below meth c Q kc0 ks0 f lam KC KS (fun kd r h2 => kd = 0 ∧ QRng h2 131 132 lo (lo + 24) (facG tl but nl n9 lo (n9 + 1) 0) ∧ ALng h2 131 48 ∧ ALng h2 132 48 ∧ ALng h2 133 12 ∧ ALng h2 134 12 ∧ FrS (WF lo) hs h2)) (hk1 : kc ≤ KC) (hk2 : ks ≤ KS) : ∀ m9 : Nat, m9 ≤ n9 + 1 → ∀ (mi : Int32) (hj : List CE), mi.toInt = (m9 : Int) → 1 ≤ m9 → RW hj → IArr hj 125 46 tl → ALng hj 131 48 → ALng hj 132 48 → ALng hj 133 12 → ALng hj 134 12 → QRng hj 131 132 lo (lo + 24) (facG tl but nl n9 lo m9 0) → FrS (WF lo) hs hj → WpN (gp g0 wp) CLS p l e R s m args below meth c Q D_233.2.2.1 kc0 ks0 48 [some (.ref 124), some (.int loi), some (.int bi), some (.int ni), some (.int mi), none, none, none, none, none] (hj, kc, ks) [] := by
  refine dn (fun m9 hm9 ih => ?_)
  intro mi hj hmi hm1 rwj hTo h131 h132 h133 h134 hR hfr
  refine g_loadI act (gx gp_233 (w := 0x4003202) rfl (by decide) rfl) (a := 4) (n := 50) rfl rfl rfl ?_
  refine g_loadI act (gx gp_233 (w := 0x3003302) rfl (by decide) rfl) (a := 3) (n := 51) rfl rfl rfl ?_
  refine g_icmpGt act (gx gp_233 (w := 0xd200362b) rfl (by decide) rfl) (tgt := 210) (n := 54) rfl rfl (fun h3 => ?_) (fun h3 => ?_)
  · simp only [i_lt] at h3
    obtain rfl : m9 = n9 + 1 := by omega
    exact g_retV hEnd (gx gp_233 (w := 0x18) rfl (by decide) rfl) ⟨rfl, hR, h131, h132, h133, h134, hfr⟩ hk1 hk2
  · simp only [i_lt] at h3
    refine g_loadA act (gx gp_233 (w := 0x3703) rfl (by decide) rfl) (a := 0) (n := 55) rfl rfl rfl ?_
    refine g_loadI act (gx gp_233 (w := 0x4003902) rfl (by decide) rfl) (a := 4) (n := 57) rfl rfl rfl ?_
    refine g_loadI act (gx gp_233 (w := 0x2003a02) rfl (by decide) rfl) (a := 2) (n := 58) rfl rfl rfl ?_
    refine n_call tb_pres act hEnd (gx (P := G_call) gp_233 (w := 0xa000000000000818330000e8003d0f) rfl (by decide) rfl) (d' := D_232) rfl (as := [.ref 124, .int mi, .int bi]) (rest := []) (b_eq (nd := m9 - 1) rwj h133 h134 hTo hnl hn6 hN (show _ = ((m9 - 1 + 1 : Nat) : Int) by omega) (by omega) hbi) (show (3 : Nat) = fb 0xa000000000000818330000e8003d0f % 16 by decide) (by show (3 : Nat) ≤ 6; decide) (fun _ => ⟨_, _, rfl, _, shp_at rwj.1, Or.inr (show fb 0xa000000000000818330000e8003d0f >>> 68 = 10 by decide)⟩) (by omega) (by show 8 + (6 + 11) + 0 ≤ R.locals; omega) (by show (0 : Nat) ≤ 8; decide) (by show kc + 0 ≤ _; omega) (by show ks + 0 ≤ _; omega) (fun r9 hs_4 hpo hr9 => ?_) (fun x9 hs9 hx9 hpo => ?_)
    · obtain rfl : r9 = none := hr9.elim (fun q => q.2) (fun q => absurd rfl q.1)
      obtain ⟨-, hA_1, hB_2, fr_5⟩ := hpo
      have rw_6 := rwj.fr fr_5 WQ_rw
      have f_7 := hTo.fr (fun j9 _ => fr_5.2.2 125 j9 (by unfold WQ; omega))
      have f_8 := h131.fr (fun j9 _ => fr_5.2.2 131 j9 (by unfold WQ; omega))
      have f_9 := h132.fr (fun j9 _ => fr_5.2.2 132 j9 (by unfold WQ; omega))
      have f_10 := hR.fr (fun j9 _ _ => ⟨fr_5.2.2 131 j9 (by unfold WQ; omega), fr_5.2.2 132 j9 (by unfold WQ; omega)⟩)
      have fr_11 := hfr.tr (fr_5.mono (fun k9 j9 h9 => by unfold WQ at h9; unfold WF; omega))
      have hQ_3 : QArr hs_4 133 134 12 (elim (eqs0 tl but nl (m9 - 1)) n9 0) := hA_1.qarr hB_2 (fun _ _ => rfl)
      clear rwj hTo h131 h132 h133 h134 hR hfr
      show WpN (gp g0 wp) CLS p l e R s m args below meth c Q D_233.2.2.1 kc0 ks0 61 [some (.ref 124), some (.int loi), some (.int bi), some (.int ni), some (.int mi), none, none, none, none, none] (hs_4, kc, ks) []
      refine g_constI act (gx gp_233 (w := 0x40000000400000001000000003e01) rfl (by decide) rfl) (n := 62) (x := (0 : Int32)) (by decide) rfl ?_
      refine g_storeI act (gx gp_233 (w := 0x5004010) rfl (by decide) rfl) (a := 5) (n := 64) rfl rfl (L2 := [some (.ref 124), some (.int loi), some (.int bi), some (.int ni), some (.int mi), some (.int (0 : Int32)), none, none, none, none]) rfl ?_
      exact fac_rows hloi hlo hbi hnl hn6 hN hn0 hn3 hEl hni hf hl hc hsl hmi hm1 (by omega) act hEnd hk1 hk2 (fun hj rwj hTo h131 h132 h133 h134 hR hfr => by
          refine g_iinc act (gx gp_233 (w := 0x8000000100000400cf09) rfl (by decide) rfl) (a := 4) (i := (1 : Int32)) (n := 207) rfl (by decide) rfl rfl (L2 := [some (.ref 124), some (.int loi), some (.int bi), some (.int ni), some (.int (mi + (1 : Int32))), none, none, none, none, none]) rfl ?_
          have v_1 := iv_addN hmi (show (1 : Int32).toInt = ((1 : Nat) : Int) from by decide) (show (m9 + 1) < 2147483648 by omega)
          refine g_goto act (gx gp_233 (w := 0x3007) rfl (by decide) rfl) (n := 48) rfl ?_
          exact ih (m9 + 1) (by omega) (by omega) _ hj v_1 (by omega) rwj hTo h131 h132 h133 h134 hR hfr) 0 (by omega) _ _ rfl rw_6 f_7 f_8 f_9 hQ_3 f_10 fr_11
    · exact absurd hpo.1 (by omega)

theorem fac_clear {g0 : GG} {bl : Nat} {xs : Nat → Int32} {l : Launch} {wp : va_W} {p : Program} {e : Env} {R : Room} {s : State} {m : MethodId} {args : Array Value} {below : List Frame} {meth : Method} {c : Code} {Q : State → Prop} {kc0 ks0 kc ks f lam KC KS : Nat} {hs : List CE} {tl : Nat → Int} {loi bi ni : Int32} {lo nl n9 : Nat} {but : Int} (hloi : loi.toInt = (lo : Int)) (hlo : lo ≤ 24) (hbi : bi.toInt = but) (hnl : tl 2 = (nl : Int)) (hn6 : nl ≤ 6) (hN : NetL tl nl) (hn0 : tl 0 = (n9 : Int) + 1) (hn3 : n9 ≤ 3) (hEl : ElOK tl but nl n9) (hni : ni.toInt = (n9 : Int)) (hf : 4 ≤ R.frames) (hl : 119 ≤ R.locals) (hc : kc ≤ R.cells + kc0) (hsl : ks ≤ R.slots + ks0) (act : Act SSX TBL (gp g0 wp) CLS bl xs D_233 p l s m args meth c) (hEnd : EndN SSX TBL (gp g0 wp) CLS D_233 p l e R s m args below meth c Q kc0 ks0 f lam KC KS (fun kd r h2 => kd = 0 ∧ QRng h2 131 132 lo (lo + 24) (facG tl but nl n9 lo (n9 + 1) 0) ∧ ALng h2 131 48 ∧ ALng h2 132 48 ∧ ALng h2 133 12 ∧ ALng h2 134 12 ∧ FrS (WF lo) hs h2)) (hk1 : kc ≤ KC) (hk2 : ks ≤ KS) : ∀ k : Nat, k ≤ 24 → ∀ (ki : Int32) (hj : List CE) (fA fB : Nat → Int), ki.toInt = (k : Int) → RW hj → IArr hj 125 46 tl → LArr hj 131 48 fA → LArr hj 132 48 fB → ALng hj 133 12 → ALng hj 134 12 → (∀ j, lo ≤ j → j < lo + k → fA j = 0 ∧ fB j = 1) → FrS (WF lo) hs hj → WpN (gp g0 wp) CLS p l e R s m args below meth c Q D_233.2.2.1 kc0 ks0 12 [some (.ref 124), some (.int loi), some (.int bi), some (.int ni), some (.int ki), none, none, none, none, none] (hj, kc, ks) [] := by
  refine dn (fun k hk ih => ?_)
  intro ki hj fA fB hki rwj hTo hA hB h133 h134 hz hfr
  refine g_loadI act (gx gp_233 (w := 0x4000e02) rfl (by decide) rfl) (a := 4) (n := 14) rfl rfl rfl ?_
  refine g_constI act (gx gp_233 (w := 0x4000000c4000000c1000000001001) rfl (by decide) rfl) (n := 16) (x := (24 : Int32)) (by decide) rfl ?_
  refine g_icmpGe act (gx gp_233 (w := 0x2d001308) rfl (by decide) rfl) (tgt := 45) (n := 19) rfl rfl (fun h3 => ?_) (fun h3 => ?_)
  · simp only [i_le, show (24 : Int32).toInt = 24 from by decide] at h3
    refine g_constI act (gx gp_233 (w := 0x40000000c00000009000000002e01) rfl (by decide) rfl) (n := 46) (x := (1 : Int32)) (by decide) rfl ?_
    refine g_storeI act (gx gp_233 (w := 0x4003010) rfl (by decide) rfl) (a := 4) (n := 48) rfl rfl (L2 := [some (.ref 124), some (.int loi), some (.int bi), some (.int ni), some (.int (1 : Int32)), none, none, none, none, none]) rfl ?_
    have hR : QRng hj 131 132 lo (lo + 24) (facG tl but nl n9 lo 1 0) := fun j h1 h2 => by
      obtain ⟨t, e1, e2⟩ := hA j (by omega)
      obtain ⟨w, e3, e4⟩ := hB j (by omega)
      obtain ⟨z1, z2⟩ := hz j h1 (by omega)
      refine ⟨t, w, e1, e3, ?_⟩
      rw [show facG tl but nl n9 lo 1 0 j = ((0 : Int) : Rat) by unfold facG; rw [if_neg (by omega)]; rfl]
      exact fr_int (e2.trans z1) (e4.trans z2)
    exact fac_nodes hloi hlo hbi hnl hn6 hN hn0 hn3 hEl hni hf hl hc hsl act hEnd hk1 hk2 1 (by omega) _ hj rfl (by omega) rwj hTo hA.lng hB.lng h133 h134 hR hfr
  · simp only [i_le, show (24 : Int32).toInt = 24 from by decide] at h3
    refine g_loadA act (gx gp_233 (w := 0x1403) rfl (by decide) rfl) (a := 0) (n := 20) rfl rfl rfl ?_
    refine r_getf act (gx gp_233 (w := 0x3000409001704) rfl (by decide) rfl) (n := 23) (ci := 9) (j := 16) (N := 39) rfl rfl rfl rwj.1 (by decide) (rwj.2 (16, 131, 33, 48) (by decide)).1 ?_
    refine g_loadI act (gx gp_233 (w := 0x1001802) rfl (by decide) rfl) (a := 1) (n := 24) rfl rfl rfl ?_
    refine g_loadI act (gx gp_233 (w := 0x4001a02) rfl (by decide) rfl) (a := 4) (n := 26) rfl rfl rfl ?_
    refine g_iadd act (gx gp_233 (w := 0x1b0a) rfl (by decide) rfl) (n := 27) rfl ?_
    have v_1 := iv_addN hloi hki (show (lo + k) < 2147483648 by omega)
    refine g_constL act (gx gp_233 (w := 0x40000000000000002000000001c01) rfl (by decide) rfl) (n := 28) (x := 0) (by decide) rfl ?_
    refine r_last act (gx gp_233 (w := 0x1d05) rfl (by decide) rfl) (n := 29) (j := (lo + k)) rfl (rwj.2 (16, 131, 33, 48) (by decide)).2 v_1 (show (lo + k) < 48 by omega) ?_
    have rw_2 := RW.wr (k := 131) (j := (lo + k)) (v := .long (0 : Int64)) rwj (Or.inl (by decide))
    have f_3 := hTo.ne (k := 131) (j := (lo + k)) (v := .long (0 : Int64)) (by decide)
    have f_4 := h133.ne (k := 131) (j := (lo + k)) (v := .long (0 : Int64)) (by decide)
    have f_5 := h134.ne (k := 131) (j := (lo + k)) (v := .long (0 : Int64)) (by decide)
    have f_6 := hA.put (j := (lo + k)) (rwj.2 (16, 131, 33, 48) (by decide)).2 (show (0 : Int64).toInt = (0 : Int) from by decide)
    have f_7 := hB.ne (k := 131) (j := (lo + k)) (v := .long (0 : Int64)) (by decide)
    have fr_8 := hfr.wr (k := 131) (j := (lo + k)) (.long (0 : Int64)) (by unfold WF; omega)
    clear rwj hfr hTo h133 h134 hA hB
    generalize (wr hj 131 (lo + k) (.long (0 : Int64))) = hs_9 at *
    refine g_loadA act (gx gp_233 (w := 0x1e03) rfl (by decide) rfl) (a := 0) (n := 30) rfl rfl rfl ?_
    refine r_getf act (gx gp_233 (w := 0x3000449002104) rfl (by decide) rfl) (n := 33) (ci := 9) (j := 17) (N := 39) rfl rfl rfl rw_2.1 (by decide) (rw_2.2 (17, 132, 33, 48) (by decide)).1 ?_
    refine g_loadI act (gx gp_233 (w := 0x1002202) rfl (by decide) rfl) (a := 1) (n := 34) rfl rfl rfl ?_
    refine g_loadI act (gx gp_233 (w := 0x4002402) rfl (by decide) rfl) (a := 4) (n := 36) rfl rfl rfl ?_
    refine g_iadd act (gx gp_233 (w := 0x250a) rfl (by decide) rfl) (n := 37) rfl ?_
    have v_10 := iv_addN hloi hki (show (lo + k) < 2147483648 by omega)
    refine g_constL act (gx gp_233 (w := 0x4000000000000000a000000002601) rfl (by decide) rfl) (n := 38) (x := 1) (by decide) rfl ?_
    refine r_last act (gx gp_233 (w := 0x2705) rfl (by decide) rfl) (n := 39) (j := (lo + k)) rfl (rw_2.2 (17, 132, 33, 48) (by decide)).2 v_10 (show (lo + k) < 48 by omega) ?_
    have rw_11 := RW.wr (k := 132) (j := (lo + k)) (v := .long (1 : Int64)) rw_2 (Or.inl (by decide))
    have f_12 := f_3.ne (k := 132) (j := (lo + k)) (v := .long (1 : Int64)) (by decide)
    have f_13 := f_4.ne (k := 132) (j := (lo + k)) (v := .long (1 : Int64)) (by decide)
    have f_14 := f_5.ne (k := 132) (j := (lo + k)) (v := .long (1 : Int64)) (by decide)
    have f_15 := f_6.ne (k := 132) (j := (lo + k)) (v := .long (1 : Int64)) (by decide)
    have f_16 := f_7.put (j := (lo + k)) (rw_2.2 (17, 132, 33, 48) (by decide)).2 (show (1 : Int64).toInt = (1 : Int) from by decide)
    have fr_17 := fr_8.wr (k := 132) (j := (lo + k)) (.long (1 : Int64)) (by unfold WF; omega)
    clear rw_2 fr_8 f_3 f_4 f_5 f_6 f_7
    generalize (wr hs_9 132 (lo + k) (.long (1 : Int64))) = hs_18 at *
    refine g_iinc act (gx gp_233 (w := 0x80000001000004002a09) rfl (by decide) rfl) (a := 4) (i := (1 : Int32)) (n := 42) rfl (by decide) rfl rfl (L2 := [some (.ref 124), some (.int loi), some (.int bi), some (.int ni), some (.int (ki + (1 : Int32))), none, none, none, none, none]) rfl ?_
    have v_19 := iv_addN hki (show (1 : Int32).toInt = ((1 : Nat) : Int) from by decide) (show (k + 1) < 2147483648 by omega)
    refine g_goto act (gx gp_233 (w := 0xc07) rfl (by decide) rfl) (n := 12) rfl ?_
    exact ih (k + 1) (by omega) (by omega) _ _ _ _ v_19 rw_11 f_12 f_15 f_16 f_13 f_14 (fun j h1 h2 => by unfold upI; split <;> first | exact ⟨rfl, rfl⟩ | exact hz j h1 (by omega)) fr_17

theorem b_factors {g0 : GG} {bl : Nat} {xs : Nat → Int32} {l : Launch} {hs : List CE} {tl : Nat → Int} {loi bi : Int32} {lo nl n9 : Nat} {but : Int} (hloi : loi.toInt = (lo : Int)) (hlo : lo ≤ 24) (hbi : bi.toInt = but) (hnl : tl 2 = (nl : Int)) (hn6 : nl ≤ 6) (hN : NetL tl nl) (hn0 : tl 0 = (n9 : Int) + 1) (hn3 : n9 ≤ 3) (hEl : ElOK tl but nl n9) (rw0 : RW hs) (hTo : IArr hs 125 46 tl) (h131 : ALng hs 131 48) (h132 : ALng hs 132 48) (h133 : ALng hs 133 12) (h134 : ALng hs 134 12) : BodyN SSX TBL g0 CLS bl xs l D_233 4 119 0 0 [.ref 124, .int loi, .int bi] hs (fun kd r h2 => kd = 0 ∧ QRng h2 131 132 lo (lo + 24) (facG tl but nl n9 lo (n9 + 1) 0) ∧ ALng h2 131 48 ∧ ALng h2 132 48 ∧ ALng h2 133 12 ∧ ALng h2 134 12 ∧ FrS (WF lo) hs h2) := by
  intro wp p e R s m args below meth c Q kc0 ks0 kc ks act hf hl hc hsl hEnd
  show WpN (gp g0 wp) CLS p l e R s m args below meth c Q D_233.2.2.1 kc0 ks0 0 [some (.ref 124), some (.int loi), some (.int bi), none, none, none, none, none, none, none] (hs, kc, ks) []
  refine g_loadA act (gx gp_233 (w := 0x103) rfl (by decide) rfl) (a := 0) (n := 1) rfl rfl rfl ?_
  refine r_getf act (gx gp_233 (w := 0x3000049000404) rfl (by decide) rfl) (n := 4) (ci := 9) (j := 1) (N := 39) rfl rfl rfl rw0.1 (by decide) (rw0.2 (1, 125, 32, 46) (by decide)).1 ?_
  refine g_constI act (gx gp_233 (w := 0x40000000400000001000000000501) rfl (by decide) rfl) (n := 5) (x := (0 : Int32)) (by decide) rfl ?_
  obtain ⟨x_1, e_2, hx_3⟩ := hTo 0 (by omega)
  refine r_iald act (gx gp_233 (w := 0x61a) rfl (by decide) rfl) (n := 6) (j := 0) rfl (rw0.2 (1, 125, 32, 46) (by decide)).2 (show (0 : Int32).toInt = ((0 : Nat) : Int) from by decide) (show 0 < 46 by omega) (v := .int x_1) e_2 ?_
  refine g_constI act (gx gp_233 (w := 0x40000000c00000009000000000701) rfl (by decide) rfl) (n := 7) (x := (1 : Int32)) (by decide) rfl ?_
  refine g_isub act (gx gp_233 (w := 0x826) rfl (by decide) rfl) (n := 8) rfl ?_
  have v_4 := iv_sub hx_3 (show (1 : Int32).toInt = ((1 : Nat) : Int) from by decide) (show -2147483648 ≤ ((tl 0) - ((1 : Nat) : Int)) by omega) (show ((tl 0) - ((1 : Nat) : Int)) < 2147483648 by omega)
  refine g_storeI act (gx gp_233 (w := 0x3000910) rfl (by decide) rfl) (a := 3) (n := 9) rfl rfl (L2 := [some (.ref 124), some (.int loi), some (.int bi), some (.int (x_1 - (1 : Int32))), none, none, none, none, none, none]) rfl ?_
  refine g_constI act (gx gp_233 (w := 0x40000000400000001000000000a01) rfl (by decide) rfl) (n := 10) (x := (0 : Int32)) (by decide) rfl ?_
  refine g_storeI act (gx gp_233 (w := 0x4000c10) rfl (by decide) rfl) (a := 4) (n := 12) rfl rfl (L2 := [some (.ref 124), some (.int loi), some (.int bi), some (.int (x_1 - (1 : Int32))), some (.int (0 : Int32)), none, none, none, none, none]) rfl ?_
  obtain ⟨fA, hA⟩ := LArr.any h131
  obtain ⟨fB, hB⟩ := LArr.any h132
  exact fac_clear hloi hlo hbi hnl hn6 hN hn0 hn3 hEl (show _ = (n9 : Int) by omega) hf hl hc hsl act hEnd (by omega) (by omega) 0 (by omega) _ hs fA fB rfl rw0 hTo hA hB h133 h134 (fun j h1 h2 => absurd h2 (by omega)) (FrS.rf _ _)
