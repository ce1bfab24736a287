/-! All factors: laysAllFactors. -/
def WA (k j : Nat) : Prop := k = 131 ∨ k = 132 ∨ k = 133 ∨ k = 134 ∨ (k = 124 ∧ (j = 7 ∨ j = 8))
theorem WA_rw : ∀ q ∈ RWT, ¬ WA 124 q.1 := by
  intro q hq
  have : q.1 ≠ 7 ∧ q.1 ≠ 8 := by revert q; decide
  unfold WA
  omega
def facA (tl : Nat → Int) (nl n : Nat) (ou : Int) (j : Nat) : Rat := if j < 24 then facG tl (-1) nl n 0 (n + 1) 0 j else facG tl ou nl n 24 (n + 1) 0 j
theorem facA_0 {tl : Nat → Int} {nl n : Nat} {ou : Int} {hs : List CE} (h : QRng hs 131 132 0 (0 + 24) (facG tl (-1) nl n 0 (n + 1) 0)) : QRng hs 131 132 0 24 (facA tl nl n ou) := h.cong (fun j _ hj => by unfold facA; rw [if_pos (by omega)])
theorem facA_1 {tl : Nat → Int} {nl n : Nat} {ou : Int} {hs : List CE} (h : QRng hs 131 132 24 (24 + 24) (facG tl ou nl n 24 (n + 1) 0)) : QRng hs 131 132 24 48 (facA tl nl n ou) := h.cong (fun j h1 _ => by unfold facA; rw [if_neg (by omega)])
theorem NetL4.netL {tl : Nat → Int} {nl n : Nat} (h : NetL4 tl nl n) (hn : n ≤ 3) : NetL tl nl := fun l hl => by
  obtain ⟨h1, h2, h3, h4, h5⟩ := h l hl
  exact ⟨h1, by omega, h3, by omega, h5⟩

theorem b_all {g0 : GG} {bl : Nat} {xs : Nat → Int32} {l : Launch} {hs : List CE} {tl : Nat → Int} {oi : Int32} {nl n : Nat} {ou : Int} (hoi : oi.toInt = ou) (hn0 : tl 0 = (n : Int) + 1) (hnl : tl 2 = (nl : Int)) (hG : NG tl nl n ou) (rw0 : RW hs) (hTo : IArr hs 125 46 tl) (h131 : ALng hs 131 48) (h132 : ALng hs 132 48) (h133 : ALng hs 133 12) (h134 : ALng hs 134 12) : BodyN SSX TBL g0 CLS bl xs l D_231 5 148 0 0 [.ref 124, .int oi] hs (fun kd _ h2 => kd = 0 ∧ QRng h2 131 132 0 24 (facA tl nl n ou) ∧ (ou ≠ -1 → QRng h2 131 132 24 48 (facA tl nl n ou)) ∧ ALng h2 131 48 ∧ ALng h2 132 48 ∧ ALng h2 133 12 ∧ ALng h2 134 12 ∧ FrS WA hs h2) := by
  intro wp p e R s m args below meth c Q kc0 ks0 kc ks act hf hl hc hsl hEnd
  obtain ⟨hn1, hn3, hq6, hN9, hC9, ho9⟩ := hG
  show WpN (gp g0 wp) CLS p l e R s m args below meth c Q D_231.2.2.1 kc0 ks0 0 [some (.ref 124), some (.int oi)] (hs, kc, ks) []
  refine g_loadA act (gx gp_231 (w := 0x103) rfl (by decide) rfl) (a := 0) (n := 1) rfl rfl rfl ?_
  refine g_constI act (gx gp_231 (w := 0x40000000400000001000000000201) rfl (by decide) rfl) (n := 2) (x := (0 : Int32)) (by decide) rfl ?_
  refine g_constI act (gx gp_231 (w := 0x3fffffffbfffffff9000000000301) rfl (by decide) rfl) (n := 3) (x := (-1 : Int32)) (by decide) rfl ?_
  refine n_call tb_pres act hEnd (gx (P := G_call) gp_231 (w := 0xa000000000000828330000e900060f) rfl (by decide) rfl) (d' := D_233) rfl (as := [.ref 124, .int (0 : Int32), .int (-1 : Int32)]) (rest := []) (b_factors (lo := 0) (show (0 : Int32).toInt = ((0 : Nat) : Int) from by decide) (by decide) (show (-1 : Int32).toInt = (-1 : Int) from by decide) hnl hq6 (hN9.netL hn3) hn0 hn3 (net_el hN9 hn1 hn3 hq6 hC9).1 rw0 hTo h131 h132 h133 h134) (show (3 : Nat) = fb 0xa000000000000828330000e900060f % 16 by decide) (by show (3 : Nat) ≤ 10; decide) (fun _ => ⟨_, _, rfl, _, shp_at rw0.1, Or.inr (show fb 0xa000000000000828330000e900060f >>> 68 = 10 by decide)⟩) (by omega) (by show 8 + (10 + 11) + 119 ≤ R.locals; omega) (by show (0 : Nat) ≤ 8; decide) (by show kc + 0 ≤ _; omega) (by show ks + 0 ≤ _; omega) (fun r9 hs_6 hpo hr9 => ?_) (fun x9 hs9 hx9 hpo => ?_)
  · obtain rfl : r9 = none := hr9.elim (fun q => q.2) (fun q => absurd rfl q.1)
    obtain ⟨-, hR_1, h_2, h_3, h_4, h_5, fr_7⟩ := hpo
    have rw_8 := rw0.fr fr_7 WF_rw
    have f_9 := hTo.fr (fun j9 _ => fr_7.2.2 125 j9 (by unfold WF; omega))
    have fr_10 := (FrS.rf WA hs).tr (fr_7.mono (fun k9 j9 h9 => by unfold WF at h9; unfold WA; omega))
    clear hTo h131 h132 h133 h134
    show WpN (gp g0 wp) CLS p l e R s m args below meth c Q D_231.2.2.1 kc0 ks0 6 [some (.ref 124), some (.int oi)] (hs_6, kc, ks) []
    refine g_loadI act (gx gp_231 (w := 0x1000702) rfl (by decide) rfl) (a := 1) (n := 7) rfl rfl rfl ?_
    refine g_constI act (gx gp_231 (w := 0x3fffffffbfffffff9000000000801) rfl (by decide) rfl) (n := 8) (x := (-1 : Int32)) (by decide) rfl ?_
    refine g_icmpEq act (gx gp_231 (w := 0x12000b2e) rfl (by decide) rfl) (tgt := 18) (n := 11) rfl rfl (fun h6 => ?_) (fun h6 => ?_)
    · simp only [i_eq, show (-1 : Int32).toInt = -1 from by decide] at h6
      exact g_retV hEnd (gx gp_231 (w := 0x18) rfl (by decide) rfl) ⟨rfl, facA_0 hR_1, (fun q => absurd (show ou = -1 by omega) q), h_2, h_3, h_4, h_5, fr_10⟩ (by show kc ≤ kc + 0; omega) (by show ks ≤ ks + 0; omega)
    · simp only [i_eq, show (-1 : Int32).toInt = -1 from by decide] at h6
      refine g_loadA act (gx gp_231 (w := 0xc03) rfl (by decide) rfl) (a := 0) (n := 12) rfl rfl rfl ?_
      refine g_constI act (gx gp_231 (w := 0x4000000c4000000c1000000000e01) rfl (by decide) rfl) (n := 14) (x := (24 : Int32)) (by decide) rfl ?_
      refine g_loadI act (gx gp_231 (w := 0x1000f02) rfl (by decide) rfl) (a := 1) (n := 15) rfl rfl rfl ?_
      refine n_call tb_pres act hEnd (gx (P := G_call) gp_231 (w := 0xa000000000000828330000e900120f) rfl (by decide) rfl) (d' := D_233) rfl (as := [.ref 124, .int (24 : Int32), .int oi]) (rest := []) (b_factors (lo := 24) (show (24 : Int32).toInt = ((24 : Nat) : Int) from by decide) (by decide) hoi hnl hq6 (hN9.netL hn3) hn0 hn3 (net_el hN9 hn1 hn3 hq6 (ho9.resolve_left (by omega)).2.2).1 rw_8 f_9 h_2 h_3 h_4 h_5) (show (3 : Nat) = fb 0xa000000000000828330000e900120f % 16 by decide) (by show (3 : Nat) ≤ 10; decide) (fun _ => ⟨_, _, rfl, _, shp_at rw_8.1, Or.inr (show fb 0xa000000000000828330000e900120f >>> 68 = 10 by decide)⟩) (by omega) (by show 8 + (10 + 11) + 119 ≤ R.locals; omega) (by show (0 : Nat) ≤ 8; decide) (by show kc + 0 ≤ _; omega) (by show ks + 0 ≤ _; omega) (fun r9 hs_16 hpo hr9 => ?_) (fun x9 hs9 hx9 hpo => ?_)
      · obtain rfl : r9 = none := hr9.elim (fun q => q.2) (fun q => absurd rfl q.1)
        obtain ⟨-, hR_11, h_12, h_13, h_14, h_15, fr_17⟩ := hpo
        have rw_18 := rw_8.fr fr_17 WF_rw
        have f_19 := f_9.fr (fun j9 _ => fr_17.2.2 125 j9 (by unfold WF; omega))
        have f_20 := hR_1.fr (fun j9 _ _ => ⟨fr_17.2.2 131 j9 (by unfold WF; omega), fr_17.2.2 132 j9 (by unfold WF; omega)⟩)
        have fr_21 := fr_10.tr (fr_17.mono (fun k9 j9 h9 => by unfold WF at h9; unfold WA; omega))
        clear rw_8 f_9 hR_1 h_2 h_3 h_4 h_5 fr_10
        show WpN (gp g0 wp) CLS p l e R s m args below meth c Q D_231.2.2.1 kc0 ks0 18 [some (.ref 124), some (.int oi)] (hs_16, kc, ks) []
        exact g_retV hEnd (gx gp_231 (w := 0x18) rfl (by decide) rfl) ⟨rfl, facA_0 f_20, (fun _ => facA_1 hR_11), h_12, h_13, h_14, h_15, fr_21⟩ (by show kc ≤ kc + 0; omega) (by show ks ≤ ks + 0; omega)
      · exact absurd hpo.1 (by omega)
  · exact absurd hpo.1 (by omega)
