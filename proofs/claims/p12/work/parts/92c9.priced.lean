/-! The reference: what prices give. -/
theorem pool7 {tl : Nat → Int} {nl n : Nat} {ou : Int} (h : NG tl nl n ou) : ∃ S ∈ S5, ∀ D, PD tl nl n ou D → ∃ e ∈ S, D ∣ e := by
  obtain ⟨S9, hS, hp⟩ := net_pool h
  refine ⟨S9, hS, fun D hD => ?_⟩
  obtain ⟨a, b, c, q1, q2, q3, e, hne⟩ := hD
  have := dok_t ((inP_t hp).2 a b c q1 q2 q3)
  rw [← e] at this
  exact this.2.2 hne
theorem pd4 {tl : Nat → Int} {nl n : Nat} {ou : Int} (h : NG tl nl n ou) {D1 D2 D3 D4 : Nat} (h1 : PD tl nl n ou D1) (h2 : PD tl nl n ou D2) (h3 : PD tl nl n ou D3) (h4 : PD tl nl n ou D4) : ∃ L : Nat, L ≤ 15000000 ∧ ¬ 128 ∣ L ∧ D1 ∣ L ∧ D2 ∣ L ∧ D3 ∣ L ∧ D4 ∣ L := by
  obtain ⟨S, hS, hd⟩ := pool7 h
  obtain ⟨e1, m1, d1⟩ := hd _ h1
  obtain ⟨e2, m2, d2⟩ := hd _ h2
  obtain ⟨e3, m3, d3⟩ := hd _ h3
  obtain ⟨e4, m4, d4⟩ := hd _ h4
  obtain ⟨L, q0, q1, q2, q3, q4, q5⟩ := lc4_t hS m1 m2 m3 m4
  exact ⟨L, q0, q1, Nat.dvd_trans d1 q2, Nat.dvd_trans d2 q3, Nat.dvd_trans d3 q4, Nat.dvd_trans d4 q5⟩
theorem PD.k7 {tl : Nat → Int} {nl n : Nat} {ou : Int} {D : Nat} (h : NG tl nl n ou) (hD : PD tl nl n ou D) : ¬ 2 ^ 7 ∣ D := fun q => by
  obtain ⟨L, -, h2, h3, -⟩ := pd4 h hD hD hD hD
  exact h2 (Nat.dvd_trans (by exact q) h3)
theorem K2.den {t w : Int64} {q : Rat} {b : Nat} (h : FR t w q) (hd : ¬ 2 ^ b ∣ q.den) : K2 b w := by
  unfold K2
  rw [h.2, Int.natAbs_natCast]
  exact hd
theorem den_dvd2 {D : Nat} {q : Rat} {b : Nat} (hI : IsI ((D : Rat) * q)) (hD : ¬ 2 ^ b ∣ D) : ¬ 2 ^ b ∣ q.den := fun z => hD (Nat.dvd_trans z (den_dvd hI))
theorem den_sum {a b k : Nat} {x y : Rat} (hx : IsI ((a : Rat) * x)) (hy : IsI ((b : Rat) * y)) (ha : ¬ 2 ^ k ∣ a) (hb : ¬ 2 ^ k ∣ b) : ¬ 2 ^ k ∣ (x + y).den := by
  have ha0 : 0 < a := by
    rcases Nat.eq_zero_or_pos a with q | q
    · exact absurd (by rw [q]; exact Nat.dvd_zero _) ha
    · exact q
  have hg : 0 < Nat.gcd a b := Nat.gcd_pos_of_pos_left _ ha0
  obtain ⟨a', ea⟩ := Nat.gcd_dvd_left a b
  obtain ⟨b', eb⟩ := Nat.gcd_dvd_right a b
  have e1 : a / Nat.gcd a b = a' := Nat.div_eq_of_eq_mul_right hg ea
  have hl := k_lcm ha hb
  rw [e1] at hl
  refine den_dvd2 (D := a' * b) ?_ hl
  have e2 : a' * b = b' * a := by
    generalize Nat.gcd a b = g at *
    rw [ea, eb, Nat.mul_left_comm, Nat.mul_left_comm b', Nat.mul_comm a']
  rw [Rat.mul_add]
  refine IsI.add ?_ ?_
  · rw [e2, Rat.natCast_mul, Rat.mul_assoc]
    exact (IsI.int (b' : Int)).mul hx
  · rw [Rat.natCast_mul, Rat.mul_assoc]
    exact (IsI.int (a' : Int)).mul hy
theorem IsI.ngm {D : Nat} {q : Rat} (h : IsI ((D : Rat) * q)) : IsI ((D : Rat) * -q) := by rw [Rat.mul_neg]; exact h.neg
theorem pri_k {hs : List CE} {tl : Nat → Int} {nl n : Nat} {ou : Int} {ni : Int32} (hG : NG tl nl n ou) (h : PRI hs tl nl n ou ni) {k : Nat} (hk : k ≤ n) (hb : bitS ni k) : KR hs 144 145 k (k + 1) 7 := fun j h1 h2 => by
  obtain rfl : j = k := by omega
  obtain ⟨C0, D0, a1, a2, -, -, a5⟩ := h
  obtain ⟨C, D, t, w, b1, b2, -, -, b5, b6, b7⟩ := a5 j hk hb
  exact ⟨t, w, b5, b6, K2.den b7 (den_sum b2 a2.ngm (b1.k7 hG) (a1.k7 hG))⟩
theorem pri_all {hs : List CE} {tl : Nat → Int} {nl n : Nat} {ou : Int} {ni : Int32} (hG : NG tl nl n ou) (h : PRI hs tl nl n ou ni) (hb : ∀ k, k ≤ n → bitS ni k) : KR hs 144 145 0 (n + 1) 7 := fun j _ h2 => pri_k hG h (by omega) (hb j (by omega)) j (Nat.le_refl _) (Nat.lt_succ_self _)
theorem found_k7 {hs : List CE} {tl : Nat → Int} {nl n : Nat} {ou : Int} (h : NG tl nl n ou) (hF : Found hs tl nl n ou) : KR hs 142 143 0 5 7 := by
  obtain ⟨D, C, o, t, w, hD, e29, e30, hFC, hO, hI, -, -, ho⟩ := hF
  intro j _ hj
  obtain ⟨t2, w2, e1, e2, hF2⟩ := hO j hj
  exact ⟨t2, w2, e1, e2, K2.den hF2 (den_dvd2 (ho j hj).1 (hD.k7 h))⟩
theorem i32_of {y : Int32} {k : Nat} (h : y.toInt = (k : Int)) (hk : k ≤ 4) : (k = 0 ∧ y = 0) ∨ (k = 1 ∧ y = 1) ∨ (k = 2 ∧ y = 2) ∨ (k = 3 ∧ y = 3) ∨ (k = 4 ∧ y = 4) := by
  have : k = 0 ∨ k = 1 ∨ k = 2 ∨ k = 3 ∨ k = 4 := by omega
  rcases this with rfl | rfl | rfl | rfl | rfl
  · exact Or.inl ⟨rfl, Int32.toInt_inj.mp (h.trans (by decide))⟩
  · exact Or.inr (Or.inl ⟨rfl, Int32.toInt_inj.mp (h.trans (by decide))⟩)
  · exact Or.inr (Or.inr (Or.inl ⟨rfl, Int32.toInt_inj.mp (h.trans (by decide))⟩))
  · exact Or.inr (Or.inr (Or.inr (Or.inl ⟨rfl, Int32.toInt_inj.mp (h.trans (by decide))⟩)))
  · exact Or.inr (Or.inr (Or.inr (Or.inr ⟨rfl, Int32.toInt_inj.mp (h.trans (by decide))⟩)))
theorem bit_one {x : Int32} {k : Nat} (hx : x.toInt = (k : Int)) (hk : k ≤ 3) : bitS ((1 : Int32) <<< (x &&& 31)) k := fun y hy => by
  have : x = y := Int32.toInt_inj.mp (hx.trans hy.symm)
  subst this
  rcases i32_of hx (by omega) with ⟨-, rfl⟩ | ⟨-, rfl⟩ | ⟨-, rfl⟩ | ⟨-, rfl⟩ | ⟨q, -⟩
  · decide
  · decide
  · decide
  · decide
  · omega
theorem bit_two {x z : Int32} {k m : Nat} (hx : x.toInt = (k : Int)) (hz : z.toInt = (m : Int)) (hk : k ≤ 3) (hm : m ≤ 3) : bitS (((1 : Int32) <<< (x &&& 31)) ||| ((1 : Int32) <<< (z &&& 31))) k ∧ bitS (((1 : Int32) <<< (x &&& 31)) ||| ((1 : Int32) <<< (z &&& 31))) m := by
  rcases i32_of hx (by omega) with ⟨rfl, rfl⟩ | ⟨rfl, rfl⟩ | ⟨rfl, rfl⟩ | ⟨rfl, rfl⟩ | ⟨q, -⟩
  all_goals first | omega | skip
  all_goals rcases i32_of hz (by omega) with ⟨rfl, rfl⟩ | ⟨rfl, rfl⟩ | ⟨rfl, rfl⟩ | ⟨rfl, rfl⟩ | ⟨q, -⟩
  all_goals first | omega | (constructor <;> (intro y hy; rcases i32_of hy (by omega) with ⟨e, rfl⟩ | ⟨e, rfl⟩ | ⟨e, rfl⟩ | ⟨e, rfl⟩ | ⟨e, -⟩ <;> first | (exfalso; revert e; decide) | decide))
theorem bit_all {x : Int32} {n : Nat} (hx : x.toInt = (n : Int) + 1) (hn : n ≤ 3) : ∀ k, k ≤ n → bitS (((1 : Int32) <<< (x &&& 31)) - 1) k := fun k hk y hy => by
  rcases i32_of (k := n + 1) (by rw [hx]; omega) (by omega) with ⟨q, -⟩ | ⟨q, rfl⟩ | ⟨q, rfl⟩ | ⟨q, rfl⟩ | ⟨q, rfl⟩
  · omega
  all_goals (rcases i32_of hy (by omega) with ⟨e, rfl⟩ | ⟨e, rfl⟩ | ⟨e, rfl⟩ | ⟨e, rfl⟩ | ⟨e, rfl⟩ <;> first | (exfalso; omega) | decide)

theorem b_isPriced {g0 : GG} {bl : Nat} {xs : Nat → Int32} {l : Launch} {hs : List CE} {tl wl : Nat → Int} {nl n ng nr : Nat} (hNW : NW tl wl nl n ng nr) {it a b ni : Int32} {ti x y : Int} (hB : BM hs tl wl) (hM : ModF hs) (hit : it.toInt = ti) (hti : ti = 0 ∨ ti = 1) (ha : a.toInt = x) (hb : b.toInt = y) : BodyN SSX TBL g0 CLS bl xs l D_228 10 251 0 0 [.ref 124, .int it, .int a, .int b, .int ni] hs (fun kd r h2 => kd = 0 ∧ ModF h2 ∧ FrS WM hs h2 ∧ ∃ rg : Int32, r = some (.int rg) ∧ (rg = 0 ∨ (rg = 1 ∧ ti = 1 ∧ 0 ≤ x ∧ x < tl 1 ∧ 0 ≤ y ∧ y ≤ 1 ∧ FD9 h2 tl wl nl n (wl 38) 200 400 ∧ PRI h2 tl nl n (wl 38) ni))) := by
  intro wp p e R s m args below meth c Q kc0 ks0 kc ks act hf hl hc hsl hEnd
  have hN9 := hNW
  obtain ⟨n0, n1, n2, n3, n4, n5, n6, n7, n8, hG0, nL, nC, nP, nD⟩ := hN9
  have hGn := hG0.1
  have hGn3 := hG0.2.1
  have hGl := hG0.2.2.1
  obtain ⟨rw0, hTo, hW⟩ := hB
  show WpN (gp g0 wp) CLS p l e R s m args below meth c Q D_228.2.2.1 kc0 ks0 0 [some (.ref 124), some (.int it), some (.int a), some (.int b), some (.int ni)] (hs, kc, ks) []
  refine g_loadA act (gx gp_228 (w := 0x103) rfl (by decide) rfl) (a := 0) (n := 1) rfl rfl rfl ?_
  refine g_loadI act (gx gp_228 (w := 0x1000202) rfl (by decide) rfl) (a := 1) (n := 2) rfl rfl rfl ?_
  refine g_loadI act (gx gp_228 (w := 0x2000302) rfl (by decide) rfl) (a := 2) (n := 3) rfl rfl rfl ?_
  refine g_loadI act (gx gp_228 (w := 0x3000402) rfl (by decide) rfl) (a := 3) (n := 4) rfl rfl rfl ?_
  refine n_call tb_pres act hEnd (gx (P := G_call) gp_228 (w := 0xa000000000000c10440000df00070f) rfl (by decide) rfl) (d' := D_223) rfl (as := [.ref 124, .int it, .int a, .int b]) (rest := []) (b_isGood hNW ⟨rw0, hTo, hW⟩ hM (ti := ti) hit (by omega) (x := x) ha (y := y) hb) (show (4 : Nat) = fb 0xa000000000000c10440000df00070f % 16 by decide) (by show (4 : Nat) ≤ 4; decide) (fun _ => ⟨_, _, rfl, _, shp_at rw0.1, Or.inr (show fb 0xa000000000000c10440000df00070f >>> 68 = 10 by decide)⟩) (by omega) (by show 8 + (4 + 11) + 228 ≤ R.locals; omega) (by show (0 : Nat) ≤ 8; decide) (by show kc + 0 ≤ _; omega) (by show ks + 0 ≤ _; omega) (fun r9 hs_1 hpo hr9 => ?_) (fun x9 hs9 hx9 hpo => ?_)
  · obtain ⟨-, hM_3, fr_2, rg, rfl, hg_4⟩ := hpo
    have rw_6 := rw0.fr fr_2 WM_rw
    have f_7 := hTo.fr (fun j9 _ => fr_2.2.2 125 j9 (by unfold WM; omega))
    have f_8 := hW.fr (fun j9 _ => fr_2.2.2 127 j9 (by unfold WM; omega))
    have fr_9 := (FrS.rf WM hs).tr fr_2
    show WpN (gp g0 wp) CLS p l e R s m args below meth c Q D_228.2.2.1 kc0 ks0 7 [some (.ref 124), some (.int it), some (.int a), some (.int b), some (.int ni)] (hs_1, kc, ks) [.int rg]
    rcases hg_4 with rfl | ⟨rfl, g1_11, g2_11, g3_11, g4_11, g5_11, hFD_11⟩
    · refine g_ifNe act (gx gp_228 (w := 0xc000a1d) rfl (by decide) rfl) (tgt := 12) (n := 10) rfl rfl (fun q => absurd q (by decide)) (fun _ => ?_)
      refine g_constI act (gx gp_228 (w := 0x40000000400000001000000000b01) rfl (by decide) rfl) (n := 11) (x := (0 : Int32)) (by decide) rfl ?_
      exact g_retZ hEnd (gx gp_228 (w := 0x23) rfl (by decide) rfl) (by decide) ⟨rfl, hM_3, fr_9, _, rfl, Or.inl rfl⟩ (by show kc ≤ kc + 0; omega) (by show ks ≤ ks + 0; omega)
    · obtain ⟨⟨frw_10, fTo_10, fW_10⟩, ⟨hG_10, ⟨oi_10, f24_10, hoi_10⟩, ⟨dm_10, fD_10, hdm_10⟩, ⟨lm_10, fL_10, hlm_10⟩, ⟨em_10, fE_10, hem_10⟩, ⟨cp_10, fC_10, hcp_10⟩⟩, fFo_10, ⟨fK0_10, fK1_10⟩⟩ := hFD_11
      obtain ⟨⟨ct_10, cl_10, f29_10, f30_10, hck_10⟩, fKO_10⟩ := found_k hG_10 fFo_10
      refine g_ifNe act (gx gp_228 (w := 0xc000a1d) rfl (by decide) rfl) (tgt := 12) (n := 10) rfl rfl (fun _ => ?_) (fun q => absurd (by decide) q)
      refine g_loadA act (gx gp_228 (w := 0xd03) rfl (by decide) rfl) (a := 0) (n := 13) rfl rfl rfl ?_
      refine g_loadA act (gx gp_228 (w := 0xe03) rfl (by decide) rfl) (a := 0) (n := 14) rfl rfl rfl ?_
      refine g_loadI act (gx gp_228 (w := 0x4001002) rfl (by decide) rfl) (a := 4) (n := 16) rfl rfl rfl ?_
      refine n_call tb_pres act hEnd (gx (P := G_call) gp_228 (w := 0xa000000000000c20220000fe00130f) rfl (by decide) rfl) (d' := D_254) rfl (as := [.ref 124, .int ni]) (rest := [.ref 124]) (b_prices hNW ⟨⟨frw_10, fTo_10, fW_10⟩, ⟨hG_10, ⟨_, f24_10, hoi_10⟩, ⟨_, fD_10, hdm_10⟩, ⟨_, fL_10, hlm_10⟩, ⟨_, fE_10, hem_10⟩, ⟨_, fC_10, hcp_10⟩⟩, fFo_10, fK0_10, fK1_10⟩ hM_3) (show (2 : Nat) = fb 0xa000000000000c20220000fe00130f % 16 by decide) (by show (2 : Nat) ≤ 8; decide) (fun _ => ⟨_, _, rfl, _, shp_at frw_10.1, Or.inr (show fb 0xa000000000000c20220000fe00130f >>> 68 = 10 by decide)⟩) (by omega) (by show 8 + (8 + 11) + 207 ≤ R.locals; omega) (by show (1 : Nat) ≤ 8; decide) (by show kc + 0 ≤ _; omega) (by show ks + 0 ≤ _; omega) (fun r9 hs_12 hpo hr9 => ?_) (fun x9 hs9 hx9 hpo => ?_)
      · obtain ⟨-, hM_14, fr_13, rp, rfl, hg_15⟩ := hpo
        have rw_16 := frw_10.fr fr_13 WM_rw
        have f_17 := fTo_10.fr (fun j9 _ => fr_13.2.2 125 j9 (by unfold WM; omega))
        have f_18 := fW_10.fr (fun j9 _ => fr_13.2.2 127 j9 (by unfold WM; omega))
        have fr_19 := fr_9.tr fr_13
        clear frw_10 hM_3 fTo_10 fW_10 fD_10 fL_10 fE_10 fC_10 f24_10 f29_10 f30_10 fKO_10 fK0_10 fK1_10 fFo_10 fr_9
        show WpN (gp g0 wp) CLS p l e R s m args below meth c Q D_228.2.2.1 kc0 ks0 19 [some (.ref 124), some (.int it), some (.int a), some (.int b), some (.int ni)] (hs_12, kc, ks) [.int rp, .ref 124]
        rcases hg_15 with rfl | ⟨rfl, hPI_20, hFD_20⟩
        · refine g_ifEq act (gx gp_228 (w := 0x1a00160e) rfl (by decide) rfl) (tgt := 26) (n := 22) rfl rfl (fun _ => ?_) (fun q => absurd (by decide) q)
          refine g_constI act (gx gp_228 (w := 0x40000002400000021000000001b01) rfl (by decide) rfl) (n := 27) (x := (4 : Int32)) (by decide) rfl ?_
          refine r_putf act (gx gp_228 (w := 0x9001e13) rfl (by decide) rfl) (n := 30) (ci := 9) (j := 0) (N := 39) rfl rfl rfl rw_16.1 (by decide) (Or.inl ⟨rfl, _, rfl⟩) ?_
          have rw_21 := RW.wr (k := 124) (j := 0) (v := .int (4 : Int32)) rw_16 (Or.inr (by decide))
          have f_22 := f_17.ne (k := 124) (j := 0) (v := .int (4 : Int32)) (by decide)
          have f_23 := f_18.ne (k := 124) (j := 0) (v := .int (4 : Int32)) (by decide)
          have f_24 := hM_14.wr0 (x := (4 : Int32)) rw_16.1 (by decide) (by decide)
          have f_25 := rd_same (j := 0) (v := .int (4 : Int32)) rw_16.1
          have fr_26 := fr_19.wr (k := 124) (j := 0) (.int (4 : Int32)) (by unfold WM; omega)
          clear rw_16 fr_19 f_17 f_18 hM_14
          generalize (wr hs_12 124 0 (.int (4 : Int32))) = hs_27 at *
          refine g_loadA act (gx gp_228 (w := 0x1f03) rfl (by decide) rfl) (a := 0) (n := 31) rfl rfl rfl ?_
          refine r_getf act (gx gp_228 (w := 0x9002204) rfl (by decide) rfl) (n := 34) (ci := 9) (j := 0) (N := 39) rfl rfl rfl rw_21.1 (by decide) (v := .int (4 : Int32)) f_25 ?_
          refine g_ifNe act (gx gp_228 (w := 0x2900251d) rfl (by decide) rfl) (tgt := 41) (n := 37) rfl rfl (fun _ => ?_) (fun q => absurd (by decide) q)
          refine g_constI act (gx gp_228 (w := 0x40000000400000001000000002a01) rfl (by decide) rfl) (n := 42) (x := (0 : Int32)) (by decide) rfl ?_
          exact g_retZ hEnd (gx gp_228 (w := 0x23) rfl (by decide) rfl) (by decide) ⟨rfl, f_24, fr_26, _, rfl, Or.inl rfl⟩ (by show kc ≤ kc + 0; omega) (by show ks ≤ ks + 0; omega)
        · refine g_ifEq act (gx gp_228 (w := 0x1a00160e) rfl (by decide) rfl) (tgt := 26) (n := 22) rfl rfl (fun q => absurd q (by decide)) (fun _ => ?_)
          refine g_constI act (gx gp_228 (w := 0x40000000400000001000000001701) rfl (by decide) rfl) (n := 23) (x := (0 : Int32)) (by decide) rfl ?_
          refine g_goto act (gx gp_228 (w := 0x1b07) rfl (by decide) rfl) (n := 27) rfl ?_
          refine r_putf act (gx gp_228 (w := 0x9001e13) rfl (by decide) rfl) (n := 30) (ci := 9) (j := 0) (N := 39) rfl rfl rfl rw_16.1 (by decide) (Or.inl ⟨rfl, _, rfl⟩) ?_
          have hFd_28 := FD9.wr0 hFD_20 (v := .int (0 : Int32))
          have rw_29 := RW.wr (k := 124) (j := 0) (v := .int (0 : Int32)) rw_16 (Or.inr (by decide))
          have f_30 := f_17.ne (k := 124) (j := 0) (v := .int (0 : Int32)) (by decide)
          have f_31 := f_18.ne (k := 124) (j := 0) (v := .int (0 : Int32)) (by decide)
          have f_32 := hM_14.wr0 (x := (0 : Int32)) rw_16.1 (by decide) (by decide)
          have f_33 := hPI_20.fr (frs_one (k := 124) (j := 0) (v := .int (0 : Int32))) (fun j9 => by omega)
          have f_34 := rd_same (j := 0) (v := .int (0 : Int32)) rw_16.1
          have fr_35 := fr_19.wr (k := 124) (j := 0) (.int (0 : Int32)) (by unfold WM; omega)
          clear rw_16 fr_19 f_17 f_18 hM_14 hPI_20
          generalize (wr hs_12 124 0 (.int (0 : Int32))) = hs_36 at *
          refine g_loadA act (gx gp_228 (w := 0x1f03) rfl (by decide) rfl) (a := 0) (n := 31) rfl rfl rfl ?_
          refine r_getf act (gx gp_228 (w := 0x9002204) rfl (by decide) rfl) (n := 34) (ci := 9) (j := 0) (N := 39) rfl rfl rfl rw_29.1 (by decide) (v := .int (0 : Int32)) f_34 ?_
          refine g_ifNe act (gx gp_228 (w := 0x2900251d) rfl (by decide) rfl) (tgt := 41) (n := 37) rfl rfl (fun q => absurd q (by decide)) (fun _ => ?_)
          refine g_constI act (gx gp_228 (w := 0x40000000c00000009000000002601) rfl (by decide) rfl) (n := 38) (x := (1 : Int32)) (by decide) rfl ?_
          refine g_goto act (gx gp_228 (w := 0x2a07) rfl (by decide) rfl) (n := 42) rfl ?_
          exact g_retZ hEnd (gx gp_228 (w := 0x23) rfl (by decide) rfl) (by decide) ⟨rfl, f_32, fr_35, _, rfl, Or.inr ⟨rfl, by omega, by omega, by omega, by omega, by omega, hFd_28, f_33⟩⟩ (by show kc ≤ kc + 0; omega) (by show ks ≤ ks + 0; omega)
      · exact absurd hpo.1 (by omega)
  · exact absurd hpo.1 (by omega)

theorem b_dearer {g0 : GG} {bl : Nat} {xs : Nat → Int32} {l : Launch} {hs : List CE} {ai bi : Int32} {a9 b9 : Nat} (hai : ai.toInt = (a9 : Int)) (hbi : bi.toInt = (b9 : Int)) (ha4 : a9 < 4) (hb4 : b9 < 4) (rw0 : RW hs) (hA : KR hs 144 145 a9 (a9 + 1) 7) (hB : KR hs 144 145 b9 (b9 + 1) 7) (hM : ModF hs) : BodyN SSX TBL g0 CLS bl xs l D_196 3 85 0 0 [.ref 124, .int ai, .int bi] hs (fun kd _ h2 => kd = 0 ∧ ∃ t w : Int64, rd h2 124 7 = .long t ∧ rd h2 124 8 = .long w ∧ K2 7 w ∧ FrS W0 hs h2) := by
  intro wp p e R s m args below meth c Q kc0 ks0 kc ks act hf hl hc hsl hEnd
  show WpN (gp g0 wp) CLS p l e R s m args below meth c Q D_196.2.2.1 kc0 ks0 0 [some (.ref 124), some (.int ai), some (.int bi)] (hs, kc, ks) []
  refine g_loadA act (gx gp_196 (w := 0x103) rfl (by decide) rfl) (a := 0) (n := 1) rfl rfl rfl ?_
  refine g_loadA act (gx gp_196 (w := 0x203) rfl (by decide) rfl) (a := 0) (n := 2) rfl rfl rfl ?_
  refine r_getf act (gx gp_196 (w := 0x3000849000504) rfl (by decide) rfl) (n := 5) (ci := 9) (j := 33) (N := 39) rfl rfl rfl rw0.1 (by decide) (rw0.2 (33, 144, 33, 4) (by decide)).1 ?_
  refine g_loadI act (gx gp_196 (w := 0x1000602) rfl (by decide) rfl) (a := 1) (n := 6) rfl rfl rfl ?_
  obtain ⟨x_1, w_4, e_2, e_5, hx_3⟩ := hA a9 (by omega) (by omega)
  refine r_lald act (gx gp_196 (w := 0x70d) rfl (by decide) rfl) (n := 7) (j := a9) rfl (rw0.2 (33, 144, 33, 4) (by decide)).2 hai (show a9 < 4 by omega) (v := .long x_1) e_2 ?_
  refine g_loadA act (gx gp_196 (w := 0x803) rfl (by decide) rfl) (a := 0) (n := 8) rfl rfl rfl ?_
  refine r_getf act (gx gp_196 (w := 0x3000889000b04) rfl (by decide) rfl) (n := 11) (ci := 9) (j := 34) (N := 39) rfl rfl rfl rw0.1 (by decide) (rw0.2 (34, 145, 33, 4) (by decide)).1 ?_
  refine g_loadI act (gx gp_196 (w := 0x1000c02) rfl (by decide) rfl) (a := 1) (n := 12) rfl rfl rfl ?_
  refine r_lald act (gx gp_196 (w := 0xd0d) rfl (by decide) rfl) (n := 13) (j := a9) rfl (rw0.2 (34, 145, 33, 4) (by decide)).2 hai (show a9 < 4 by omega) (v := .long w_4) e_5 ?_
  refine g_loadA act (gx gp_196 (w := 0xe03) rfl (by decide) rfl) (a := 0) (n := 14) rfl rfl rfl ?_
  refine r_getf act (gx gp_196 (w := 0x3000849001104) rfl (by decide) rfl) (n := 17) (ci := 9) (j := 33) (N := 39) rfl rfl rfl rw0.1 (by decide) (rw0.2 (33, 144, 33, 4) (by decide)).1 ?_
  refine g_loadI act (gx gp_196 (w := 0x2001202) rfl (by decide) rfl) (a := 2) (n := 18) rfl rfl rfl ?_
  obtain ⟨x_11, w_14, e_12, e_15, hx_13⟩ := hB b9 (by omega) (by omega)
  refine r_lald act (gx gp_196 (w := 0x130d) rfl (by decide) rfl) (n := 19) (j := b9) rfl (rw0.2 (33, 144, 33, 4) (by decide)).2 hbi (show b9 < 4 by omega) (v := .long x_11) e_12 ?_
  refine g_lneg act (gx gp_196 (w := 0x1425) rfl (by decide) rfl) (n := 20) rfl ?_
  refine g_loadA act (gx gp_196 (w := 0x1503) rfl (by decide) rfl) (a := 0) (n := 21) rfl rfl rfl ?_
  refine r_getf act (gx gp_196 (w := 0x3000889001804) rfl (by decide) rfl) (n := 24) (ci := 9) (j := 34) (N := 39) rfl rfl rfl rw0.1 (by decide) (rw0.2 (34, 145, 33, 4) (by decide)).1 ?_
  refine g_loadI act (gx gp_196 (w := 0x2001902) rfl (by decide) rfl) (a := 2) (n := 25) rfl rfl rfl ?_
  refine r_lald act (gx gp_196 (w := 0x1a0d) rfl (by decide) rfl) (n := 26) (j := b9) rfl (rw0.2 (34, 145, 33, 4) (by decide)).2 hbi (show b9 < 4 by omega) (v := .long w_14) e_15 ?_
  refine n_call tb_pres act hEnd (gx (P := G_call) gp_196 (w := 0xa00000000000082c950000fc001d0f) rfl (by decide) rfl) (d' := D_252) rfl (as := [.ref 124, .long x_1, .long w_4, .long (-x_11), .long w_14]) (rest := []) (b_plusK (k := 7) rw0.1 (hx_3.mono (by decide)) (hx_13.mono (by decide)) (by decide)) (show (5 : Nat) = fb 0xa00000000000082c950000fc001d0f % 16 by decide) (by show (9 : Nat) ≤ 11; decide) (fun _ => ⟨_, _, rfl, _, shp_at rw0.1, Or.inr (show fb 0xa00000000000082c950000fc001d0f >>> 68 = 10 by decide)⟩) (by omega) (by show 8 + (11 + 11) + 55 ≤ R.locals; omega) (by show (0 : Nat) ≤ 8; decide) (by show kc + 0 ≤ _; omega) (by show ks + 0 ≤ _; omega) (fun r9 hs_21 hpo hr9 => ?_) (fun x9 hs9 hx9 hpo => ?_)
  · obtain rfl : r9 = none := hr9.elim (fun q => q.2) (fun q => absurd rfl q.1)
    obtain ⟨-, t_22, w_23, e_24, e_25, hK_26, fr_27⟩ := hpo
    have hM_28 := ModF.w0 hM fr_27
    have rw_29 := rw0.fr fr_27 W0_rw
    have f_30 := hA.fr (fun j9 _ _ => ⟨fr_27.2.2 144 j9 (by unfold W0; omega), fr_27.2.2 145 j9 (by unfold W0; omega)⟩)
    have f_31 := hB.fr (fun j9 _ _ => ⟨fr_27.2.2 144 j9 (by unfold W0; omega), fr_27.2.2 145 j9 (by unfold W0; omega)⟩)
    have fr_33 := (FrS.rf W0 hs).tr fr_27
    show WpN (gp g0 wp) CLS p l e R s m args below meth c Q D_196.2.2.1 kc0 ks0 29 [some (.ref 124), some (.int ai), some (.int bi)] (hs_21, kc, ks) []
    exact g_retV hEnd (gx gp_196 (w := 0x18) rfl (by decide) rfl) ⟨rfl, _, _, e_24, e_25, hK_26, fr_33⟩ (by show kc ≤ kc + 0; omega) (by show ks ≤ ks + 0; omega)
  · exact absurd hpo.1 (by omega)

theorem b_price {g0 : GG} {bl : Nat} {xs : Nat → Int32} {l : Launch} {hs : List CE} {tl wl : Nat → Int} {nl n ng nr : Nat} (hNW : NW tl wl nl n ng nr) {a b c9 : Int32} (hB : BM hs tl wl) (hM : ModF hs) : BodyN SSX TBL g0 CLS bl xs l D_253 11 275 0 0 [.ref 124, .int a, .int b, .int c9] hs (POL hs) := by
  intro wp p e R s m args below meth c Q kc0 ks0 kc ks act hf hl hc hsl hEnd
  have hN9 := hNW
  obtain ⟨n0, n1, n2, n3, n4, n5, n6, n7, n8, hG0, nL, nC, nP, nD⟩ := hN9
  have hGn := hG0.1
  have hGn3 := hG0.2.1
  have hGl := hG0.2.2.1
  obtain ⟨rw0, hTo, hW⟩ := hB
  show WpN (gp g0 wp) CLS p l e R s m args below meth c Q D_253.2.2.1 kc0 ks0 0 [some (.ref 124), some (.int a), some (.int b), some (.int c9)] (hs, kc, ks) []
  refine g_loadA act (gx gp_253 (w := 0x103) rfl (by decide) rfl) (a := 0) (n := 1) rfl rfl rfl ?_
  refine g_loadA act (gx gp_253 (w := 0x203) rfl (by decide) rfl) (a := 0) (n := 2) rfl rfl rfl ?_
  refine g_loadI act (gx gp_253 (w := 0x2000302) rfl (by decide) rfl) (a := 2) (n := 3) rfl rfl rfl ?_
  refine n_call tb_pres act hEnd (gx (P := G_call) gp_253 (w := 0xa000000000000c08220000e300060f) rfl (by decide) rfl) (d' := D_227) rfl (as := [.ref 124, .int b]) (rest := [.ref 124]) (b_isNode (tl := tl) rw0 hTo (rfl : Int32.toInt b = _) (by omega) (by omega)) (show (2 : Nat) = fb 0xa000000000000c08220000e300060f % 16 by decide) (by show (2 : Nat) ≤ 2; decide) (fun _ => ⟨_, _, rfl, _, shp_at rw0.1, Or.inr (show fb 0xa000000000000c08220000e300060f >>> 68 = 10 by decide)⟩) (by omega) (by show 8 + (2 + 11) + 22 ≤ R.locals; omega) (by show (1 : Nat) ≤ 8; decide) (by show kc + 0 ≤ _; omega) (by show ks + 0 ≤ _; omega) (fun r9 h3 hpo hr9 => ?_) (fun x9 hs9 hx9 hpo => ?_)
  · obtain ⟨-, rfl, hin_2⟩ := hpo
    obtain ⟨rv_1, rfl, hin_2o⟩ := in1_t hin_2
    show WpN (gp g0 wp) CLS p l e R s m args below meth c Q D_253.2.2.1 kc0 ks0 6 [some (.ref 124), some (.int a), some (.int b), some (.int c9)] (hs, kc, ks) [.int rv_1, .ref 124]
    refine g_loadI act (gx gp_253 (w := 0x1000702) rfl (by decide) rfl) (a := 1) (n := 7) rfl rfl rfl ?_
    refine g_loadI act (gx gp_253 (w := 0x3000802) rfl (by decide) rfl) (a := 3) (n := 8) rfl rfl rfl ?_
    refine g_constI act (gx gp_253 (w := 0x40000000c00000009000000000901) rfl (by decide) rfl) (n := 9) (x := (1 : Int32)) (by decide) rfl ?_
    refine g_loadI act (gx gp_253 (w := 0x2000a02) rfl (by decide) rfl) (a := 2) (n := 10) rfl rfl rfl ?_
    refine g_ishl act (gx gp_253 (w := 0xb3b) rfl (by decide) rfl) (n := 11) rfl ?_
    refine n_call tb_pres act hEnd (gx (P := G_call) gp_253 (w := 0xa000000000000c14550000e4000e0f) rfl (by decide) rfl) (d' := D_228) rfl (as := [.ref 124, .int rv_1, .int a, .int c9, .int ((1 : Int32) <<< (b &&& 31))]) (rest := []) (b_isPriced hNW ⟨rw0, hTo, hW⟩ hM (ti := (Int32.toInt rv_1)) (rfl : Int32.toInt rv_1 = _) (by omega) (x := (Int32.toInt a)) (rfl : Int32.toInt a = _) (y := (Int32.toInt c9)) (rfl : Int32.toInt c9 = _)) (show (5 : Nat) = fb 0xa000000000000c14550000e4000e0f % 16 by decide) (by show (5 : Nat) ≤ 5; decide) (fun _ => ⟨_, _, rfl, _, shp_at rw0.1, Or.inr (show fb 0xa000000000000c14550000e4000e0f >>> 68 = 10 by decide)⟩) (by omega) (by show 8 + (5 + 11) + 251 ≤ R.locals; omega) (by show (0 : Nat) ≤ 8; decide) (by show kc + 0 ≤ _; omega) (by show ks + 0 ≤ _; omega) (fun r9 hs_3 hpo hr9 => ?_) (fun x9 hs9 hx9 hpo => ?_)
    · obtain ⟨-, hM_5, fr_4, rg, rfl, hg_6⟩ := hpo
      have rw_7 := rw0.fr fr_4 WM_rw
      have f_8 := hTo.fr (fun j9 _ => fr_4.2.2 125 j9 (by unfold WM; omega))
      have f_9 := hW.fr (fun j9 _ => fr_4.2.2 127 j9 (by unfold WM; omega))
      have fr_10 := (FrS.rf WM hs).tr fr_4
      show WpN (gp g0 wp) CLS p l e R s m args below meth c Q D_253.2.2.1 kc0 ks0 14 [some (.ref 124), some (.int a), some (.int b), some (.int c9)] (hs_3, kc, ks) [.int rg]
      rcases hg_6 with rfl | ⟨rfl, g1_11, g2_11, g3_11, g4_11, g5_11, hFD_11, hPI_11⟩
      · refine g_ifNe act (gx gp_253 (w := 0x1300111d) rfl (by decide) rfl) (tgt := 19) (n := 17) rfl rfl (fun q => absurd q (by decide)) (fun _ => ?_)
        refine g_constL act (gx gp_253 (w := 0x40000000000000002000000001201) rfl (by decide) rfl) (n := 18) (x := 0) (by decide) rfl ?_
        exact g_retL hEnd (gx gp_253 (w := 0x19) rfl (by decide) rfl) ⟨rfl, ⟨_, rfl⟩, hM_5, fr_10⟩ (by show kc ≤ kc + 0; omega) (by show ks ≤ ks + 0; omega)
      · obtain ⟨⟨frw_12, fTo_12, fW_12⟩, ⟨hG_12, ⟨oi_12, f24_12, hoi_12⟩, ⟨dm_12, fD_12, hdm_12⟩, ⟨lm_12, fL_12, hlm_12⟩, ⟨em_12, fE_12, hem_12⟩, ⟨cp_12, fC_12, hcp_12⟩⟩, fFo_12, ⟨fK0_12, fK1_12⟩⟩ := hFD_11
        obtain ⟨⟨ct_12, cl_12, f29_12, f30_12, hck_12⟩, fKO_12⟩ := found_k hG_12 fFo_12
        have fO7_12 := found_k7 hG_12 fFo_12
        have fP0_12 := pri_k (k := ((Int32.toInt b)).toNat) hG_12 hPI_11 (by omega) (bit_one (show _ = ((((Int32.toInt b)).toNat : Nat) : Int) by have q9 := (rfl : Int32.toInt b = _); omega) (by omega))
        refine g_ifNe act (gx gp_253 (w := 0x1300111d) rfl (by decide) rfl) (tgt := 19) (n := 17) rfl rfl (fun _ => ?_) (fun q => absurd (by decide) q)
        refine g_loadA act (gx gp_253 (w := 0x1403) rfl (by decide) rfl) (a := 0) (n := 20) rfl rfl rfl ?_
        refine g_loadA act (gx gp_253 (w := 0x1503) rfl (by decide) rfl) (a := 0) (n := 21) rfl rfl rfl ?_
        refine r_getf act (gx gp_253 (w := 0x3000849001804) rfl (by decide) rfl) (n := 24) (ci := 9) (j := 33) (N := 39) rfl rfl rfl frw_12.1 (by decide) (frw_12.2 (33, 144, 33, 4) (by decide)).1 ?_
        refine g_loadI act (gx gp_253 (w := 0x2001902) rfl (by decide) rfl) (a := 2) (n := 25) rfl rfl rfl ?_
        obtain ⟨x_13, w_16, e_14, e_17, hx_15⟩ := fP0_12 (((Int32.toInt b)).toNat) (by omega) (by omega)
        refine r_lald act (gx gp_253 (w := 0x1a0d) rfl (by decide) rfl) (n := 26) (j := ((Int32.toInt b)).toNat) rfl (frw_12.2 (33, 144, 33, 4) (by decide)).2 (show _ = ((((Int32.toInt b)).toNat : Nat) : Int) by have q9 := (rfl : Int32.toInt b = _); omega) (show ((Int32.toInt b)).toNat < 4 by omega) (v := .long x_13) e_14 ?_
        refine g_loadA act (gx gp_253 (w := 0x1b03) rfl (by decide) rfl) (a := 0) (n := 27) rfl rfl rfl ?_
        refine r_getf act (gx gp_253 (w := 0x3000889001e04) rfl (by decide) rfl) (n := 30) (ci := 9) (j := 34) (N := 39) rfl rfl rfl frw_12.1 (by decide) (frw_12.2 (34, 145, 33, 4) (by decide)).1 ?_
        refine g_loadI act (gx gp_253 (w := 0x2001f02) rfl (by decide) rfl) (a := 2) (n := 31) rfl rfl rfl ?_
        refine r_lald act (gx gp_253 (w := 0x200d) rfl (by decide) rfl) (n := 32) (j := ((Int32.toInt b)).toNat) rfl (frw_12.2 (34, 145, 33, 4) (by decide)).2 (show _ = ((((Int32.toInt b)).toNat : Nat) : Int) by have q9 := (rfl : Int32.toInt b = _); omega) (show ((Int32.toInt b)).toNat < 4 by omega) (v := .long w_16) e_17 ?_
        refine n_call tb_pres act hEnd (gx (P := G_call) gp_253 (w := 0xa00000000000081c530000da00230f) rfl (by decide) rfl) (d' := D_218) rfl (as := [.ref 124, .long x_13, .long w_16]) (rest := []) (b_isK frw_12.1 hx_15) (show (3 : Nat) = fb 0xa00000000000081c530000da00230f % 16 by decide) (by show (5 : Nat) ≤ 7; decide) (fun _ => ⟨_, _, rfl, _, shp_at frw_12.1, Or.inr (show fb 0xa00000000000081c530000da00230f >>> 68 = 10 by decide)⟩) (by omega) (by show 8 + (7 + 11) + 29 ≤ R.locals; omega) (by show (0 : Nat) ≤ 8; decide) (by show kc + 0 ≤ _; omega) (by show ks + 0 ≤ _; omega) (fun r9 hs_23 hpo hr9 => ?_) (fun x9 hs9 hx9 hpo => ?_)
        · obtain rfl : r9 = none := hr9.elim (fun q => q.2) (fun q => absurd rfl q.1)
          obtain ⟨-, t_24, w_25, e_26, e_27, hK_28, fr_29⟩ := hpo
          have hM_30 := ModF.w0 hM_5 fr_29
          have rw_31 := frw_12.fr fr_29 W0_rw
          have f_33 := fTo_12.fr (fun j9 _ => fr_29.2.2 125 j9 (by unfold W0; omega))
          have f_34 := fW_12.fr (fun j9 _ => fr_29.2.2 127 j9 (by unfold W0; omega))
          have f_35 := fD_12.fr (fun j9 _ => fr_29.2.2 135 j9 (by unfold W0; omega))
          have f_36 := fL_12.fr (fun j9 _ => fr_29.2.2 136 j9 (by unfold W0; omega))
          have f_37 := fE_12.fr (fun j9 _ => fr_29.2.2 137 j9 (by unfold W0; omega))
          have f_38 := fC_12.fr (fun j9 _ => fr_29.2.2 138 j9 (by unfold W0; omega))
          have f_39 := rd_fr fr_29 f24_12 (by unfold W0; omega)
          have f_40 := rd_fr fr_29 f29_12 (by unfold W0; omega)
          have f_41 := rd_fr fr_29 f30_12 (by unfold W0; omega)
          have f_42 := fK0_12.fr (fun j9 _ _ => ⟨fr_29.2.2 131 j9 (by unfold W0; omega), fr_29.2.2 132 j9 (by unfold W0; omega)⟩)
          have f_43 := fun q9 => (fK1_12 q9).fr (fun j9 _ _ => ⟨fr_29.2.2 131 j9 (by unfold W0; omega), fr_29.2.2 132 j9 (by unfold W0; omega)⟩)
          have f_44 := fFo_12.fr fr_29 (fun j9 => by unfold W0; omega) (by unfold W0; omega) (by unfold W0; omega)
          have f_45 := fO7_12.fr (fun j9 _ _ => ⟨fr_29.2.2 142 j9 (by unfold W0; omega), fr_29.2.2 143 j9 (by unfold W0; omega)⟩)
          have f_46 := fP0_12.fr (fun j9 _ _ => ⟨fr_29.2.2 144 j9 (by unfold W0; omega), fr_29.2.2 145 j9 (by unfold W0; omega)⟩)
          have fr_47 := fr_10.tr (fr_29.mono (fun k9 j9 h9 => by unfold W0 at h9; unfold WM; omega))
          clear frw_12 hM_5 fTo_12 fW_12 fD_12 fL_12 fE_12 fC_12 f24_12 f29_12 f30_12 fK0_12 fK1_12 fFo_12 fO7_12 fP0_12 fr_10
          show WpN (gp g0 wp) CLS p l e R s m args below meth c Q D_253.2.2.1 kc0 ks0 35 [some (.ref 124), some (.int a), some (.int b), some (.int c9)] (hs_23, kc, ks) []
          refine g_loadA act (gx gp_253 (w := 0x2403) rfl (by decide) rfl) (a := 0) (n := 36) rfl rfl rfl ?_
          refine g_loadI act (gx gp_253 (w := 0x3002502) rfl (by decide) rfl) (a := 3) (n := 37) rfl rfl rfl ?_
          refine n_call tb_pres act hEnd (gx (P := G_call) gp_253 (w := 0xa000000000000c08220000fa00280f) rfl (by decide) rfl) (d' := D_250) rfl (as := [.ref 124, .int c9]) (rest := []) (b_part rw_31.1 e_26 e_27) (show (2 : Nat) = fb 0xa000000000000c08220000fa00280f % 16 by decide) (by show (2 : Nat) ≤ 2; decide) (fun _ => ⟨_, _, rfl, _, shp_at rw_31.1, Or.inr (show fb 0xa000000000000c08220000fa00280f >>> 68 = 10 by decide)⟩) (by omega) (by show 8 + (2 + 11) + 0 ≤ R.locals; omega) (by show (0 : Nat) ≤ 8; decide) (by show kc + 0 ≤ _; omega) (by show ks + 0 ≤ _; omega) (fun r9 h3 hpo hr9 => ?_) (fun x9 hs9 hx9 hpo => ?_)
          · obtain ⟨-, rfl, pv_48, rfl⟩ := hpo
            show WpN (gp g0 wp) CLS p l e R s m args below meth c Q D_253.2.2.1 kc0 ks0 40 [some (.ref 124), some (.int a), some (.int b), some (.int c9)] (hs_23, kc, ks) [.long pv_48]
            exact g_retL hEnd (gx gp_253 (w := 0x19) rfl (by decide) rfl) ⟨rfl, ⟨_, rfl⟩, hM_30, fr_47⟩ (by show kc ≤ kc + 0; omega) (by show ks ≤ ks + 0; omega)
          · exact absurd hpo.1 (by omega)
        · exact absurd hpo.1 (by omega)
    · exact absurd hpo.1 (by omega)
  · exact absurd hpo.1 (by omega)
