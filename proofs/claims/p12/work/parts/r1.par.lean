/-! The reference reads: words and numbers. -/
def NE9 (b x z : Int) : Prop := b = 0 → x ≠ z
theorem NE9.at {b x z : Int} (h : NE9 b x z) (q : b = 0) : x ≠ z := h q
section PAR2
variable {g0 : GG} {bl : Nat} {xs : Nat → Int32} {l : Launch} {hs : List CE} {tx : Nat → Int} {L A b : Int}

theorem br_word (hP : PSt hs tx L A b) : BodyN SSX TBL g0 CLS bl xs l D_287 2 43 0 0 [.ref 124] hs (fun kd r h2 => kd = 0 ∧ ∃ (A2 : Int) (x : Int64), r = some (.long x) ∧ PSt h2 tx L A2 b ∧ FrS WP hs h2 ∧ A ≤ A2 ∧ (A ≤ L → A2 ≤ L) ∧ (x.toInt ≠ 0 → (A2 < L ∧ 97 ≤ tx A2.toNat ∧ tx A2.toNat ≤ 122))) := by
  intro wp p e R s m args below meth c Q kc0 ks0 kc ks act hf hl hc hsl hEnd
  have hf : 2 ≤ R.frames := hf
  have hl : 43 ≤ R.locals := hl
  have hk1 : kc ≤ kc + 0 := by omega
  have hk2 : ks ≤ ks + 0 := by omega
  have loop : ∀ (hj : List CE) (Aj : Int) (vj : Int64) (en : Int32) (kj : Int32) (En : Int) (Kj : Int), PSt hj tx L Aj b → FrS WP hs hj → en.toInt = En → kj.toInt = Kj → A ≤ Aj → (A ≤ L → Aj ≤ L) → Aj ≤ Kj → En ≤ 701 → (Kj < En → En ≤ L) → (Aj < En → Aj < L ∧ 97 ≤ tx Aj.toNat ∧ tx Aj.toNat ≤ 122) → (vj.toInt ≠ 0 → Aj < L ∧ 97 ≤ tx Aj.toNat ∧ tx Aj.toNat ≤ 122) → WpN (gp g0 wp) CLS p l e R s m args below meth c Q D_287.2.2.1 kc0 ks0 28 [some (.ref 124), some (.long vj), none, some (.int en), some (.int kj)] (hj, kc, ks) [] := by
    intro hj Aj vj en kj En Kj hPj hfr hEn hKj w1 w2 w3 w4 w5 hQ hv0
    generalize hm : (En - Kj).toNat = m9
    induction m9 using Nat.strongRecOn generalizing hj Aj vj en kj En Kj with
    | _ m9 ih =>
    subst hm
    obtain ⟨rw_1, hT_1, ⟨L9_1, e10_1, hL_1⟩, ⟨A9_1, e11_1, hA_1⟩, ⟨b9_1, e14_1, hb_1⟩, ⟨c9_1, e12_1⟩, ⟨d9_1, e13_1⟩, ⟨f9_1, e15_1⟩, q1_1, q2_1, q3_1, q4_1, q5_1, q6_1⟩ := hPj
    refine g_loadI act (gx gp_287 (w := 0x4001e02) rfl (by decide) rfl) (a := 4) (n := 30) rfl rfl rfl ?_
    refine g_loadI act (gx gp_287 (w := 0x3001f02) rfl (by decide) rfl) (a := 3) (n := 31) rfl rfl rfl ?_
    refine g_icmpGe act (gx gp_287 (w := 0x4c002208) rfl (by decide) rfl) (tgt := 76) (n := 34) rfl rfl (fun h3 => ?_) (fun h3 => ?_)
    · simp only [i_le] at h3
      refine g_loadL act (gx gp_287 (w := 0x1004d06) rfl (by decide) rfl) (a := 1) (n := 77) rfl rfl rfl ?_
      exact g_retL hEnd (gx gp_287 (w := 0x19) rfl (by decide) rfl) ⟨rfl, Aj, _, rfl, (show PSt hj tx L Aj b from ⟨rw_1, hT_1, ⟨_, e10_1, hL_1⟩, ⟨_, e11_1, hA_1⟩, ⟨_, e14_1, hb_1⟩, ⟨_, e12_1⟩, ⟨_, e13_1⟩, ⟨_, e15_1⟩, by omega, by omega, by omega, by omega, by omega, by omega⟩), hfr, by omega, by omega, hv0⟩ hk1 hk2
    · simp only [i_le] at h3
      refine g_loadI act (gx gp_287 (w := 0x3002302) rfl (by decide) rfl) (a := 3) (n := 35) rfl rfl rfl ?_
      refine g_loadA act (gx gp_287 (w := 0x2403) rfl (by decide) rfl) (a := 0) (n := 36) rfl rfl rfl ?_
      refine r_getf act (gx gp_287 (w := 0x2c9002704) rfl (by decide) rfl) (n := 39) (ci := 9) (j := 11) (N := 39) rfl rfl rfl rw_1.1 (by decide) (v := .int A9_1) e11_1 ?_
      refine g_isub act (gx gp_287 (w := 0x2826) rfl (by decide) rfl) (n := 40) rfl ?_
      have v_2 := iv_sub hEn hA_1 (show -2147483648 ≤ (En - Aj) by omega) (show (En - Aj) < 2147483648 by omega)
      refine g_constI act (gx gp_287 (w := 0x40000004c00000049000000002a01) rfl (by decide) rfl) (n := 42) (x := (9 : Int32)) (by decide) rfl ?_
      refine g_icmpLe act (gx gp_287 (w := 0x33002d3c) rfl (by decide) rfl) (tgt := 51) (n := 45) rfl rfl (fun h8 => ?_) (fun h8 => ?_)
      · simp only [i_le, show (9 : Int32).toInt = 9 from by decide] at h8
        refine g_constL act (gx gp_287 (w := 0x400000000000000da000000003601) rfl (by decide) rfl) (n := 54) (x := (27 : Int64)) (by decide) rfl ?_
        refine g_loadL act (gx gp_287 (w := 0x1003706) rfl (by decide) rfl) (a := 1) (n := 55) rfl rfl rfl ?_
        refine g_lmul act (gx gp_287 (w := 0x3815) rfl (by decide) rfl) (n := 56) rfl ?_
        refine g_loadA act (gx gp_287 (w := 0x3903) rfl (by decide) rfl) (a := 0) (n := 57) rfl rfl rfl ?_
        refine r_getf act (gx gp_287 (w := 0x3000249003c04) rfl (by decide) rfl) (n := 60) (ci := 9) (j := 9) (N := 39) rfl rfl rfl rw_1.1 (by decide) (rw_1.2 (9, 130, 32, 700) (by decide)).1 ?_
        refine g_loadI act (gx gp_287 (w := 0x4003e02) rfl (by decide) rfl) (a := 4) (n := 62) rfl rfl rfl ?_
        obtain ⟨j_3, hj_4⟩ := Int.eq_ofNat_of_zero_le (show (0 : Int) ≤ Kj by omega)
        obtain ⟨x_5, e_6, hx_7⟩ := hT_1 j_3 (by omega)
        refine r_iald act (gx gp_287 (w := 0x3f1a) rfl (by decide) rfl) (n := 63) (j := j_3) rfl (rw_1.2 (9, 130, 32, 700) (by decide)).2 (hKj.trans hj_4) (show j_3 < 700 by omega) (v := .int x_5) e_6 ?_
        refine g_i2l act (gx gp_287 (w := 0x402c) rfl (by decide) rfl) (n := 64) rfl ?_
        have v_8 := lw_i2l hx_7
        refine g_ladd act (gx gp_287 (w := 0x411f) rfl (by decide) rfl) (n := 65) rfl ?_
        refine g_constL act (gx gp_287 (w := 0x40000000000000302000000004401) rfl (by decide) rfl) (n := 68) (x := (96 : Int64)) (by decide) rfl ?_
        refine g_lsub act (gx gp_287 (w := 0x451e) rfl (by decide) rfl) (n := 69) rfl ?_
        refine g_storeL act (gx gp_287 (w := 0x100460b) rfl (by decide) rfl) (a := 1) (n := 70) rfl rfl (L2 := [some (.ref 124), some (.long ((((27 : Int64) * vj) + (x_5).toInt64) - (96 : Int64))), none, some (.int en), some (.int kj)]) rfl ?_
        refine g_iinc act (gx gp_287 (w := 0x80000001000004004909) rfl (by decide) rfl) (a := 4) (i := (1 : Int32)) (n := 73) rfl (by decide) rfl rfl (L2 := [some (.ref 124), some (.long ((((27 : Int64) * vj) + (x_5).toInt64) - (96 : Int64))), none, some (.int en), some (.int (kj + (1 : Int32)))]) rfl ?_
        have v_9 := iv_addN (hKj.trans hj_4) (show (1 : Int32).toInt = ((1 : Nat) : Int) from by decide) (show (j_3 + 1) < 2147483648 by omega)
        refine g_goto act (gx gp_287 (w := 0x1c07) rfl (by decide) rfl) (n := 28) rfl ?_
        exact ih _ (by omega) _ _ _ _ _ _ _ (show PSt hj tx L Aj b from ⟨rw_1, hT_1, ⟨_, e10_1, hL_1⟩, ⟨_, e11_1, hA_1⟩, ⟨_, e14_1, hb_1⟩, ⟨_, e12_1⟩, ⟨_, e13_1⟩, ⟨_, e15_1⟩, by omega, by omega, by omega, by omega, by omega, by omega⟩) hfr hEn v_9 (by omega) (by omega) (by omega) (by omega) (by omega) hQ (fun _ => hQ (by omega)) rfl
      · simp only [i_le, show (9 : Int32).toInt = 9 from by decide] at h8
        refine g_constL act (gx gp_287 (w := 0x3fffffffffffffffa000000003001) rfl (by decide) rfl) (n := 48) (x := (-1 : Int64)) (by decide) rfl ?_
        refine g_goto act (gx gp_287 (w := 0x4507) rfl (by decide) rfl) (n := 69) rfl ?_
        refine g_storeL act (gx gp_287 (w := 0x100460b) rfl (by decide) rfl) (a := 1) (n := 70) rfl rfl (L2 := [some (.ref 124), some (.long (-1 : Int64)), none, some (.int en), some (.int kj)]) rfl ?_
        refine g_iinc act (gx gp_287 (w := 0x80000001000004004909) rfl (by decide) rfl) (a := 4) (i := (1 : Int32)) (n := 73) rfl (by decide) rfl rfl (L2 := [some (.ref 124), some (.long (-1 : Int64)), none, some (.int en), some (.int (kj + (1 : Int32)))]) rfl ?_
        have v_10 := iv_add hKj (show (1 : Int32).toInt = (1 : Int) from by decide) (show -2147483648 ≤ (Kj + (1)) by omega) (show (Kj + (1)) < 2147483648 by omega)
        refine g_goto act (gx gp_287 (w := 0x1c07) rfl (by decide) rfl) (n := 28) rfl ?_
        exact ih _ (by omega) _ _ _ _ _ _ _ (show PSt hj tx L Aj b from ⟨rw_1, hT_1, ⟨_, e10_1, hL_1⟩, ⟨_, e11_1, hA_1⟩, ⟨_, e14_1, hb_1⟩, ⟨_, e12_1⟩, ⟨_, e13_1⟩, ⟨_, e15_1⟩, by omega, by omega, by omega, by omega, by omega, by omega⟩) hfr hEn v_10 (by omega) (by omega) (by omega) (by omega) (by omega) hQ (fun _ => hQ (by omega)) rfl
  obtain ⟨rw_11, hT_11, ⟨L9_11, e10_11, hL_11⟩, ⟨A9_11, e11_11, hA_11⟩, ⟨b9_11, e14_11, hb_11⟩, ⟨c9_11, e12_11⟩, ⟨d9_11, e13_11⟩, ⟨f9_11, e15_11⟩, q1_11, q2_11, q3_11, q4_11, q5_11, q6_11⟩ := hP
  have hfr0 := FrS.rf WP hs
  show WpN (gp g0 wp) CLS p l e R s m args below meth c Q D_287.2.2.1 kc0 ks0 0 [some (.ref 124), none, none, none, none] (hs, kc, ks) []
  refine g_constL act (gx gp_287 (w := 0x40000000000000002000000000101) rfl (by decide) rfl) (n := 1) (x := 0) (by decide) rfl ?_
  refine g_storeL act (gx gp_287 (w := 0x100020b) rfl (by decide) rfl) (a := 1) (n := 2) rfl rfl (L2 := [some (.ref 124), some (.long (0 : Int64)), none, none, none]) rfl ?_
  refine g_loadA act (gx gp_287 (w := 0x303) rfl (by decide) rfl) (a := 0) (n := 3) rfl rfl rfl ?_
  refine n_call tb_pres act hEnd (gx (P := G_call) gp_287 (w := 0xa000000000000c04110000d800060f) rfl (by decide) rfl) (d' := D_216) rfl (as := [.ref 124]) (rest := []) (br_here (show PSt hs tx L A b from ⟨rw_11, hT_11, ⟨_, e10_11, hL_11⟩, ⟨_, e11_11, hA_11⟩, ⟨_, e14_11, hb_11⟩, ⟨_, e12_11⟩, ⟨_, e13_11⟩, ⟨_, e15_11⟩, by omega, by omega, by omega, by omega, by omega, by omega⟩)) (show (1 : Nat) = fb 0xa000000000000c04110000d800060f % 16 by decide) (by show (1 : Nat) ≤ 1; decide) (fun _ => ⟨_, _, rfl, _, shp_at rw_11.1, Or.inr (show fb 0xa000000000000c04110000d800060f >>> 68 = 10 by decide)⟩) (by omega) (by show 8 + (1 + 11) + 0 ≤ R.locals; omega) (by show (0 : Nat) ≤ 8; decide) (by show kc + 0 ≤ _; omega) (by show ks + 0 ≤ _; omega) (fun r9 hs_c12 hpo hr9 => ?_) (fun x9 hs9 hx9 hpo => ?_)
  · obtain ⟨-, A_c12, rv_c12, rfl, hP_c12, fr_c12, q7_c12, q8_c12, q9_c12⟩ := hpo
    try replace q8_c12 := q8_c12 (by omega)
    have rw_13 := rw_11.fr fr_c12 WP_rw
    have f_14 := hT_11.fr (fun j9 _ => fr_c12.2.2 130 j9 (by unfold WP; omega))
    have f_15 := rd_fr fr_c12 e10_11 (by unfold WP; omega)
    have fr_16 := hfr0.tr fr_c12
    obtain ⟨-, -, -, ⟨A9_c12, e11_c12, hA_c12⟩, ⟨b9_c12, e14_c12, hb_c12⟩, ⟨c9_c12, e12_c12⟩, ⟨d9_c12, e13_c12⟩, ⟨f9_c12, e15_c12⟩, -, -, q3_c12, q4_c12, q5_c12, q6_c12⟩ := hP_c12
    clear rw_11 hT_11 e10_11 e11_11 e14_11 e12_11 e13_11 e15_11 hfr0
    show WpN (gp g0 wp) CLS p l e R s m args below meth c Q D_287.2.2.1 kc0 ks0 6 [some (.ref 124), some (.long (0 : Int64)), none, none, none] (hs_c12, kc, ks) [.int rv_c12]
    refine g_constI act (gx gp_287 (w := 0x3fffffffbfffffff9000000000701) rfl (by decide) rfl) (n := 7) (x := (-1 : Int32)) (by decide) rfl ?_
    refine g_icmpNe act (gx gp_287 (w := 0x11000a21) rfl (by decide) rfl) (tgt := 17) (n := 10) rfl rfl (fun h5 => ?_) (fun h5 => ?_)
    · simp only [i_eq, show (-1 : Int32).toInt = -1 from by decide] at h5
      refine g_loadA act (gx gp_287 (w := 0x1203) rfl (by decide) rfl) (a := 0) (n := 18) rfl rfl rfl ?_
      refine n_call tb_pres act hEnd (gx (P := G_call) gp_287 (w := 0xa000000000000c081100012000150f) rfl (by decide) rfl) (d' := D_288) rfl (as := [.ref 124]) (rest := []) (br_wordEnd (show PSt hs_c12 tx L A_c12 b from ⟨rw_13, f_14, ⟨_, f_15, hL_11⟩, ⟨_, e11_c12, hA_c12⟩, ⟨_, e14_c12, hb_c12⟩, ⟨_, e12_c12⟩, ⟨_, e13_c12⟩, ⟨_, e15_c12⟩, by omega, by omega, by omega, by omega, by omega, by omega⟩)) (show (1 : Nat) = fb 0xa000000000000c081100012000150f % 16 by decide) (by show (1 : Nat) ≤ 2; decide) (fun _ => ⟨_, _, rfl, _, shp_at rw_13.1, Or.inr (show fb 0xa000000000000c081100012000150f >>> 68 = 10 by decide)⟩) (by omega) (by show 8 + (2 + 11) + 22 ≤ R.locals; omega) (by show (0 : Nat) ≤ 8; decide) (by show kc + 0 ≤ _; omega) (by show ks + 0 ≤ _; omega) (fun r9 h3 hpo hr9 => ?_) (fun x9 hs9 hx9 hpo => ?_)
      · obtain ⟨-, rfl, rv_17, rfl, w1_17, w2_17, w3_17, w4_17, w5_17⟩ := hpo
        show WpN (gp g0 wp) CLS p l e R s m args below meth c Q D_287.2.2.1 kc0 ks0 21 [some (.ref 124), some (.long (0 : Int64)), none, none, none] (hs_c12, kc, ks) [.int rv_17]
        refine g_storeI act (gx gp_287 (w := 0x3001610) rfl (by decide) rfl) (a := 3) (n := 22) rfl rfl (L2 := [some (.ref 124), some (.long (0 : Int64)), none, some (.int rv_17), none]) rfl ?_
        refine g_loadA act (gx gp_287 (w := 0x1703) rfl (by decide) rfl) (a := 0) (n := 23) rfl rfl rfl ?_
        refine r_getf act (gx gp_287 (w := 0x2c9001a04) rfl (by decide) rfl) (n := 26) (ci := 9) (j := 11) (N := 39) rfl rfl rfl rw_13.1 (by decide) (v := .int A9_c12) e11_c12 ?_
        refine g_storeI act (gx gp_287 (w := 0x4001c10) rfl (by decide) rfl) (a := 4) (n := 28) rfl rfl (L2 := [some (.ref 124), some (.long (0 : Int64)), none, some (.int rv_17), some (.int A9_c12)]) rfl ?_
        exact loop _ _ _ _ _ _ _ (show PSt hs_c12 tx L A_c12 b from ⟨rw_13, f_14, ⟨_, f_15, hL_11⟩, ⟨_, e11_c12, hA_c12⟩, ⟨_, e14_c12, hb_c12⟩, ⟨_, e12_c12⟩, ⟨_, e13_c12⟩, ⟨_, e15_c12⟩, by omega, by omega, by omega, by omega, by omega, by omega⟩) fr_16 (rfl : Int32.toInt rv_17 = _) hA_c12 (by omega) (by omega) (by omega) (by omega) (by omega) (by omega) (fun q => absurd (show (0 : Int64).toInt = 0 by decide) q)
      · exact absurd hpo.1 (by omega)
    · simp only [i_eq, show (-1 : Int32).toInt = -1 from by decide] at h5
      refine g_loadA act (gx gp_287 (w := 0xb03) rfl (by decide) rfl) (a := 0) (n := 11) rfl rfl rfl ?_
      refine r_getf act (gx gp_287 (w := 0x2c9000e04) rfl (by decide) rfl) (n := 14) (ci := 9) (j := 11) (N := 39) rfl rfl rfl rw_13.1 (by decide) (v := .int A9_c12) e11_c12 ?_
      refine g_goto act (gx gp_287 (w := 0x1507) rfl (by decide) rfl) (n := 21) rfl ?_
      refine g_storeI act (gx gp_287 (w := 0x3001610) rfl (by decide) rfl) (a := 3) (n := 22) rfl rfl (L2 := [some (.ref 124), some (.long (0 : Int64)), none, some (.int A9_c12), none]) rfl ?_
      refine g_loadA act (gx gp_287 (w := 0x1703) rfl (by decide) rfl) (a := 0) (n := 23) rfl rfl rfl ?_
      refine r_getf act (gx gp_287 (w := 0x2c9001a04) rfl (by decide) rfl) (n := 26) (ci := 9) (j := 11) (N := 39) rfl rfl rfl rw_13.1 (by decide) (v := .int A9_c12) e11_c12 ?_
      refine g_storeI act (gx gp_287 (w := 0x4001c10) rfl (by decide) rfl) (a := 4) (n := 28) rfl rfl (L2 := [some (.ref 124), some (.long (0 : Int64)), none, some (.int A9_c12), some (.int A9_c12)]) rfl ?_
      exact loop _ _ _ _ _ _ _ (show PSt hs_c12 tx L A_c12 b from ⟨rw_13, f_14, ⟨_, f_15, hL_11⟩, ⟨_, e11_c12, hA_c12⟩, ⟨_, e14_c12, hb_c12⟩, ⟨_, e12_c12⟩, ⟨_, e13_c12⟩, ⟨_, e15_c12⟩, by omega, by omega, by omega, by omega, by omega, by omega⟩) fr_16 hA_c12 hA_c12 (by omega) (by omega) (by omega) (by omega) (by omega) (by omega) (fun q => absurd (show (0 : Int64).toInt = 0 by decide) q)
  · exact absurd hpo.1 (by omega)

theorem br_takes {n9 : Int64} (hP : PSt hs tx L A b) : BodyN SSX TBL g0 CLS bl xs l D_277 3 67 0 0 [.ref 124, .long n9] hs (fun kd r h2 => kd = 0 ∧ ∃ (A2 : Int) (x : Int32), r = some (.int x) ∧ PSt h2 tx L A2 b ∧ FrS WP hs h2 ∧ A ≤ A2 ∧ (A ≤ L → A2 ≤ L) ∧ (x.toInt = 0 ∨ (x.toInt = 1 ∧ b = 0 ∧ (n9.toInt ≠ 0 → A < A2)))) := by
  intro wp p e R s m args below meth c Q kc0 ks0 kc ks act hf hl hc hsl hEnd
  have hf : 3 ≤ R.frames := hf
  have hl : 67 ≤ R.locals := hl
  have hk1 : kc ≤ kc + 0 := by omega
  have hk2 : ks ≤ ks + 0 := by omega
  obtain ⟨rw_1, hT_1, ⟨L9_1, e10_1, hL_1⟩, ⟨A9_1, e11_1, hA_1⟩, ⟨b9_1, e14_1, hb_1⟩, ⟨c9_1, e12_1⟩, ⟨d9_1, e13_1⟩, ⟨f9_1, e15_1⟩, q1_1, q2_1, q3_1, q4_1, q5_1, q6_1⟩ := hP
  have hfr0 := FrS.rf WP hs
  show WpN (gp g0 wp) CLS p l e R s m args below meth c Q D_277.2.2.1 kc0 ks0 0 [some (.ref 124), some (.long n9), none] (hs, kc, ks) []
  refine g_loadA act (gx gp_277 (w := 0x103) rfl (by decide) rfl) (a := 0) (n := 1) rfl rfl rfl ?_
  refine r_getf act (gx gp_277 (w := 0x1000389000404) rfl (by decide) rfl) (n := 4) (ci := 9) (j := 14) (N := 39) rfl rfl rfl rw_1.1 (by decide) (v := .int b9_1) e14_1 ?_
  refine g_ifNe act (gx gp_277 (w := 0x1000071d) rfl (by decide) rfl) (tgt := 16) (n := 7) rfl rfl (fun h2 => ?_) (fun h2 => ?_)
  · simp only [i_eq, i0] at h2
    refine g_constI act (gx gp_277 (w := 0x40000000400000001000000001101) rfl (by decide) rfl) (n := 17) (x := (0 : Int32)) (by decide) rfl ?_
    exact g_retZ hEnd (gx gp_277 (w := 0x23) rfl (by decide) rfl) (Or.inl rfl) ⟨rfl, A, _, rfl, (show PSt hs tx L A b from ⟨rw_1, hT_1, ⟨_, e10_1, hL_1⟩, ⟨_, e11_1, hA_1⟩, ⟨_, e14_1, hb_1⟩, ⟨_, e12_1⟩, ⟨_, e13_1⟩, ⟨_, e15_1⟩, by omega, by omega, by omega, by omega, by omega, by omega⟩), hfr0, by omega, by omega, Or.inl (by decide)⟩ hk1 hk2
  · simp only [i_eq, i0] at h2
    refine g_loadA act (gx gp_277 (w := 0x803) rfl (by decide) rfl) (a := 0) (n := 8) rfl rfl rfl ?_
    refine n_call tb_pres act hEnd (gx (P := G_call) gp_277 (w := 0xa000000000000c141100011f000b0f) rfl (by decide) rfl) (d' := D_287) rfl (as := [.ref 124]) (rest := []) (br_word (show PSt hs tx L A b from ⟨rw_1, hT_1, ⟨_, e10_1, hL_1⟩, ⟨_, e11_1, hA_1⟩, ⟨_, e14_1, hb_1⟩, ⟨_, e12_1⟩, ⟨_, e13_1⟩, ⟨_, e15_1⟩, by omega, by omega, by omega, by omega, by omega, by omega⟩)) (show (1 : Nat) = fb 0xa000000000000c141100011f000b0f % 16 by decide) (by show (1 : Nat) ≤ 5; decide) (fun _ => ⟨_, _, rfl, _, shp_at rw_1.1, Or.inr (show fb 0xa000000000000c141100011f000b0f >>> 68 = 10 by decide)⟩) (by omega) (by show 8 + (5 + 11) + 43 ≤ R.locals; omega) (by show (0 : Nat) ≤ 8; decide) (by show kc + 0 ≤ _; omega) (by show ks + 0 ≤ _; omega) (fun r9 hs_c2 hpo hr9 => ?_) (fun x9 hs9 hx9 hpo => ?_)
    · obtain ⟨-, A_c2, rv_c2, rfl, hP_c2, fr_c2, q7_c2, q8_c2, q9_c2⟩ := hpo
      try replace q8_c2 := q8_c2 (by omega)
      have rw_3 := rw_1.fr fr_c2 WP_rw
      have f_4 := hT_1.fr (fun j9 _ => fr_c2.2.2 130 j9 (by unfold WP; omega))
      have f_5 := rd_fr fr_c2 e10_1 (by unfold WP; omega)
      have fr_6 := hfr0.tr fr_c2
      obtain ⟨-, -, -, ⟨A9_c2, e11_c2, hA_c2⟩, ⟨b9_c2, e14_c2, hb_c2⟩, ⟨c9_c2, e12_c2⟩, ⟨d9_c2, e13_c2⟩, ⟨f9_c2, e15_c2⟩, -, -, q3_c2, q4_c2, q5_c2, q6_c2⟩ := hP_c2
      clear rw_1 hT_1 e10_1 e11_1 e14_1 e12_1 e13_1 e15_1 hfr0
      show WpN (gp g0 wp) CLS p l e R s m args below meth c Q D_277.2.2.1 kc0 ks0 11 [some (.ref 124), some (.long n9), none] (hs_c2, kc, ks) [.long rv_c2]
      refine g_loadL act (gx gp_277 (w := 0x1000c06) rfl (by decide) rfl) (a := 1) (n := 12) rfl rfl rfl ?_
      refine g_lcmp act (gx gp_277 (w := 0xd0c) rfl (by decide) rfl) (n := 13) rfl ?_
      refine g_ifEq act (gx gp_277 (w := 0x1200100e) rfl (by decide) rfl) (tgt := 18) (n := 16) rfl rfl (fun h7 => ?_) (fun h7 => ?_)
      · simp only [cmpEq] at h7
        refine g_loadA act (gx gp_277 (w := 0x1303) rfl (by decide) rfl) (a := 0) (n := 19) rfl rfl rfl ?_
        refine g_loadA act (gx gp_277 (w := 0x1403) rfl (by decide) rfl) (a := 0) (n := 20) rfl rfl rfl ?_
        refine n_call tb_pres act hEnd (gx (P := G_call) gp_277 (w := 0xa000000000000c081100012000170f) rfl (by decide) rfl) (d' := D_288) rfl (as := [.ref 124]) (rest := [.ref 124]) (br_wordEnd (show PSt hs_c2 tx L A_c2 b from ⟨rw_3, f_4, ⟨_, f_5, hL_1⟩, ⟨_, e11_c2, hA_c2⟩, ⟨_, e14_c2, hb_c2⟩, ⟨_, e12_c2⟩, ⟨_, e13_c2⟩, ⟨_, e15_c2⟩, by omega, by omega, by omega, by omega, by omega, by omega⟩)) (show (1 : Nat) = fb 0xa000000000000c081100012000170f % 16 by decide) (by show (1 : Nat) ≤ 2; decide) (fun _ => ⟨_, _, rfl, _, shp_at rw_3.1, Or.inr (show fb 0xa000000000000c081100012000170f >>> 68 = 10 by decide)⟩) (by omega) (by show 8 + (2 + 11) + 22 ≤ R.locals; omega) (by show (1 : Nat) ≤ 8; decide) (by show kc + 0 ≤ _; omega) (by show ks + 0 ≤ _; omega) (fun r9 h3 hpo hr9 => ?_) (fun x9 hs9 hx9 hpo => ?_)
        · obtain ⟨-, rfl, rv_7, rfl, w1_7, w2_7, w3_7, w4_7, w5_7⟩ := hpo
          show WpN (gp g0 wp) CLS p l e R s m args below meth c Q D_277.2.2.1 kc0 ks0 23 [some (.ref 124), some (.long n9), none] (hs_c2, kc, ks) [.int rv_7, .ref 124]
          refine r_putf act (gx gp_277 (w := 0x2c9001a13) rfl (by decide) rfl) (n := 26) (ci := 9) (j := 11) (N := 39) rfl rfl rfl rw_3.1 (by decide) (Or.inl ⟨rfl, _, rfl⟩) ?_
          have rw_8 := RW.wr (k := 124) (j := 11) (v := .int rv_7) rw_3 (Or.inr (by decide))
          have f_9 := f_4.ne (k := 124) (j := 11) (v := .int rv_7) (by decide)
          have f_10 := (rd_ne hs_c2 (k := 124) (j := 11) (.int rv_7) (Or.inr (by decide))).trans f_5
          have f_12 := (rd_ne hs_c2 (k := 124) (j := 11) (.int rv_7) (Or.inr (by decide))).trans e14_c2
          have f_13 := (rd_ne hs_c2 (k := 124) (j := 11) (.int rv_7) (Or.inr (by decide))).trans e12_c2
          have f_14 := (rd_ne hs_c2 (k := 124) (j := 11) (.int rv_7) (Or.inr (by decide))).trans e13_c2
          have f_15 := (rd_ne hs_c2 (k := 124) (j := 11) (.int rv_7) (Or.inr (by decide))).trans e15_c2
          have f_16 := rd_same (j := 11) (v := .int rv_7) rw_3.1
          have fr_17 := fr_6.wr (k := 124) (j := 11) (.int rv_7) (by unfold WP; omega)
          clear rw_3 fr_6 f_4 f_5 e11_c2 e14_c2 e12_c2 e13_c2 e15_c2
          generalize (wr hs_c2 124 11 (.int rv_7)) = hs_18 at *
          refine g_constI act (gx gp_277 (w := 0x40000000c00000009000000001b01) rfl (by decide) rfl) (n := 27) (x := (1 : Int32)) (by decide) rfl ?_
          exact g_retZ hEnd (gx gp_277 (w := 0x23) rfl (by decide) rfl) (Or.inr rfl) ⟨rfl, (Int32.toInt rv_7), _, rfl, (show PSt hs_18 tx L (Int32.toInt rv_7) b from ⟨rw_8, f_9, ⟨_, f_10, hL_1⟩, ⟨_, f_16, (rfl : Int32.toInt rv_7 = _)⟩, ⟨_, f_12, hb_c2⟩, ⟨_, f_13⟩, ⟨_, f_14⟩, ⟨_, f_15⟩, by omega, by omega, by omega, by omega, by omega, by omega⟩), fr_17, by omega, by omega, Or.inr ⟨by decide, by omega, fun q => by omega⟩⟩ hk1 hk2
        · exact absurd hpo.1 (by omega)
      · simp only [cmpEq] at h7
        refine g_constI act (gx gp_277 (w := 0x40000000400000001000000001101) rfl (by decide) rfl) (n := 17) (x := (0 : Int32)) (by decide) rfl ?_
        exact g_retZ hEnd (gx gp_277 (w := 0x23) rfl (by decide) rfl) (Or.inl rfl) ⟨rfl, A_c2, _, rfl, (show PSt hs_c2 tx L A_c2 b from ⟨rw_3, f_4, ⟨_, f_5, hL_1⟩, ⟨_, e11_c2, hA_c2⟩, ⟨_, e14_c2, hb_c2⟩, ⟨_, e12_c2⟩, ⟨_, e13_c2⟩, ⟨_, e15_c2⟩, by omega, by omega, by omega, by omega, by omega, by omega⟩), fr_6, by omega, by omega, Or.inl (by decide)⟩ hk1 hk2
    · exact absurd hpo.1 (by omega)

theorem br_mustTake {n9 : Int64} (hP : PSt hs tx L A b) : BodyN SSX TBL g0 CLS bl xs l D_242 4 89 0 0 [.ref 124, .long n9] hs (fun kd r h2 => kd = 0 ∧ r = none ∧ ∃ A2 b2 : Int, PSt h2 tx L A2 b2 ∧ FrS WP hs h2 ∧ b ≤ b2 ∧ (A ≤ L → A2 ≤ L)) := by
  intro wp p e R s m args below meth c Q kc0 ks0 kc ks act hf hl hc hsl hEnd
  have hf : 4 ≤ R.frames := hf
  have hl : 89 ≤ R.locals := hl
  have hk1 : kc ≤ kc + 0 := by omega
  have hk2 : ks ≤ ks + 0 := by omega
  obtain ⟨rw_1, hT_1, ⟨L9_1, e10_1, hL_1⟩, ⟨A9_1, e11_1, hA_1⟩, ⟨b9_1, e14_1, hb_1⟩, ⟨c9_1, e12_1⟩, ⟨d9_1, e13_1⟩, ⟨f9_1, e15_1⟩, q1_1, q2_1, q3_1, q4_1, q5_1, q6_1⟩ := hP
  have hfr0 := FrS.rf WP hs
  show WpN (gp g0 wp) CLS p l e R s m args below meth c Q D_242.2.2.1 kc0 ks0 0 [some (.ref 124), some (.long n9), none] (hs, kc, ks) []
  refine g_loadA act (gx gp_242 (w := 0x103) rfl (by decide) rfl) (a := 0) (n := 1) rfl rfl rfl ?_
  refine r_getf act (gx gp_242 (w := 0x1000389000404) rfl (by decide) rfl) (n := 4) (ci := 9) (j := 14) (N := 39) rfl rfl rfl rw_1.1 (by decide) (v := .int b9_1) e14_1 ?_
  refine g_ifNe act (gx gp_242 (w := 0x1800071d) rfl (by decide) rfl) (tgt := 24) (n := 7) rfl rfl (fun h2 => ?_) (fun h2 => ?_)
  · simp only [i_eq, i0] at h2
    exact g_retV hEnd (gx gp_242 (w := 0x18) rfl (by decide) rfl) ⟨rfl, rfl, A, b, (show PSt hs tx L A b from ⟨rw_1, hT_1, ⟨_, e10_1, hL_1⟩, ⟨_, e11_1, hA_1⟩, ⟨_, e14_1, hb_1⟩, ⟨_, e12_1⟩, ⟨_, e13_1⟩, ⟨_, e15_1⟩, by omega, by omega, by omega, by omega, by omega, by omega⟩), hfr0, by omega, by omega⟩ hk1 hk2
  · simp only [i_eq, i0] at h2
    refine g_loadA act (gx gp_242 (w := 0x803) rfl (by decide) rfl) (a := 0) (n := 8) rfl rfl rfl ?_
    refine g_loadL act (gx gp_242 (w := 0x1000906) rfl (by decide) rfl) (a := 1) (n := 9) rfl rfl rfl ?_
    refine n_call tb_pres act hEnd (gx (P := G_call) gp_242 (w := 0xa000000000000c0c32000115000c0f) rfl (by decide) rfl) (d' := D_277) rfl (as := [.ref 124, .long n9]) (rest := []) (br_takes (n9 := n9) (show PSt hs tx L A b from ⟨rw_1, hT_1, ⟨_, e10_1, hL_1⟩, ⟨_, e11_1, hA_1⟩, ⟨_, e14_1, hb_1⟩, ⟨_, e12_1⟩, ⟨_, e13_1⟩, ⟨_, e15_1⟩, by omega, by omega, by omega, by omega, by omega, by omega⟩)) (show (2 : Nat) = fb 0xa000000000000c0c32000115000c0f % 16 by decide) (by show (3 : Nat) ≤ 3; decide) (fun _ => ⟨_, _, rfl, _, shp_at rw_1.1, Or.inr (show fb 0xa000000000000c0c32000115000c0f >>> 68 = 10 by decide)⟩) (by omega) (by show 8 + (3 + 11) + 67 ≤ R.locals; omega) (by show (0 : Nat) ≤ 8; decide) (by show kc + 0 ≤ _; omega) (by show ks + 0 ≤ _; omega) (fun r9 hs_c2 hpo hr9 => ?_) (fun x9 hs9 hx9 hpo => ?_)
    · obtain ⟨-, A_c2, rv_c2, rfl, hP_c2, fr_c2, q7_c2, q8_c2, q9_c2⟩ := hpo
      first | (replace q8_c2 := q8_c2 (by omega)) | clear q8_c2
      have rw_3 := rw_1.fr fr_c2 WP_rw
      have f_4 := hT_1.fr (fun j9 _ => fr_c2.2.2 130 j9 (by unfold WP; omega))
      have f_5 := rd_fr fr_c2 e10_1 (by unfold WP; omega)
      have fr_6 := hfr0.tr fr_c2
      obtain ⟨-, -, -, ⟨A9_c2, e11_c2, hA_c2⟩, ⟨b9_c2, e14_c2, hb_c2⟩, ⟨c9_c2, e12_c2⟩, ⟨d9_c2, e13_c2⟩, ⟨f9_c2, e15_c2⟩, -, -, q3_c2, q4_c2, q5_c2, q6_c2⟩ := hP_c2
      clear rw_1 hT_1 e10_1 e11_1 e14_1 e12_1 e13_1 e15_1 hfr0
      show WpN (gp g0 wp) CLS p l e R s m args below meth c Q D_242.2.2.1 kc0 ks0 12 [some (.ref 124), some (.long n9), none] (hs_c2, kc, ks) [.int rv_c2]
      refine g_ifNe act (gx gp_242 (w := 0x18000f1d) rfl (by decide) rfl) (tgt := 24) (n := 15) rfl rfl (fun h5 => ?_) (fun h5 => ?_)
      · simp only [i_eq, i0] at h5
        exact g_retV hEnd (gx gp_242 (w := 0x18) rfl (by decide) rfl) ⟨rfl, rfl, A_c2, b, (show PSt hs_c2 tx L A_c2 b from ⟨rw_3, f_4, ⟨_, f_5, hL_1⟩, ⟨_, e11_c2, hA_c2⟩, ⟨_, e14_c2, hb_c2⟩, ⟨_, e12_c2⟩, ⟨_, e13_c2⟩, ⟨_, e15_c2⟩, by omega, by omega, by omega, by omega, by omega, by omega⟩), fr_6, by omega, by omega⟩ hk1 hk2
      · simp only [i_eq, i0] at h5
        refine g_loadA act (gx gp_242 (w := 0x1003) rfl (by decide) rfl) (a := 0) (n := 16) rfl rfl rfl ?_
        refine g_constI act (gx gp_242 (w := 0x40000000c00000009000000001101) rfl (by decide) rfl) (n := 17) (x := (1 : Int32)) (by decide) rfl ?_
        refine g_loadA act (gx gp_242 (w := 0x1203) rfl (by decide) rfl) (a := 0) (n := 18) rfl rfl rfl ?_
        refine r_getf act (gx gp_242 (w := 0x2c9001504) rfl (by decide) rfl) (n := 21) (ci := 9) (j := 11) (N := 39) rfl rfl rfl rw_3.1 (by decide) (v := .int A9_c2) e11_c2 ?_
        refine n_call tb_pres act hEnd (gx (P := G_call) gp_242 (w := 0xa00000000000080c3300012100180f) rfl (by decide) rfl) (d' := D_289) rfl (as := [.ref 124, .int (1 : Int32), .int A9_c2]) (rest := []) (br_wrong (show PSt hs_c2 tx L A_c2 b from ⟨rw_3, f_4, ⟨_, f_5, hL_1⟩, ⟨_, e11_c2, hA_c2⟩, ⟨_, e14_c2, hb_c2⟩, ⟨_, e12_c2⟩, ⟨_, e13_c2⟩, ⟨_, e15_c2⟩, by omega, by omega, by omega, by omega, by omega, by omega⟩)) (show (3 : Nat) = fb 0xa00000000000080c3300012100180f % 16 by decide) (by show (3 : Nat) ≤ 3; decide) (fun _ => ⟨_, _, rfl, _, shp_at rw_3.1, Or.inr (show fb 0xa00000000000080c3300012100180f >>> 68 = 10 by decide)⟩) (by omega) (by show 8 + (3 + 11) + 0 ≤ R.locals; omega) (by show (0 : Nat) ≤ 8; decide) (by show kc + 0 ≤ _; omega) (by show ks + 0 ≤ _; omega) (fun r9 hs_c7 hpo hr9 => ?_) (fun x9 hs9 hx9 hpo => ?_)
        · obtain rfl : r9 = none := hr9.elim (fun q => q.2) (fun q => absurd rfl q.1)
          obtain ⟨-, b_c7, hP_c7, fr_c7, qb_c7⟩ := hpo
          obtain ⟨A_c7, qA_c7⟩ : ∃ z : Int, z = A_c2 := ⟨_, rfl⟩
          rw [← qA_c7] at hP_c7
          have rw_8 := rw_3.fr fr_c7 WP_rw
          have f_9 := f_4.fr (fun j9 _ => fr_c7.2.2 130 j9 (by unfold WP; omega))
          have f_10 := rd_fr fr_c7 f_5 (by unfold WP; omega)
          have fr_11 := fr_6.tr fr_c7
          obtain ⟨-, -, -, ⟨A9_c7, e11_c7, hA_c7⟩, ⟨b9_c7, e14_c7, hb_c7⟩, ⟨c9_c7, e12_c7⟩, ⟨d9_c7, e13_c7⟩, ⟨f9_c7, e15_c7⟩, -, -, q3_c7, q4_c7, q5_c7, q6_c7⟩ := hP_c7
          clear rw_3 f_4 f_5 e11_c2 e14_c2 e12_c2 e13_c2 e15_c2 fr_6
          show WpN (gp g0 wp) CLS p l e R s m args below meth c Q D_242.2.2.1 kc0 ks0 24 [some (.ref 124), some (.long n9), none] (hs_c7, kc, ks) []
          exact g_retV hEnd (gx gp_242 (w := 0x18) rfl (by decide) rfl) ⟨rfl, rfl, A_c7, b_c7, (show PSt hs_c7 tx L A_c7 b_c7 from ⟨rw_8, f_9, ⟨_, f_10, hL_1⟩, ⟨_, e11_c7, hA_c7⟩, ⟨_, e14_c7, hb_c7⟩, ⟨_, e12_c7⟩, ⟨_, e13_c7⟩, ⟨_, e15_c7⟩, by omega, by omega, by omega, by omega, by omega, by omega⟩), fr_11, by omega, by omega⟩ hk1 hk2
        · exact absurd hpo.1 (by omega)
    · exact absurd hpo.1 (by omega)

theorem br_number {lo9 hi9 : Int32} {lo hi : Int} (hP : PSt hs tx L A b) (hlo : lo9.toInt = lo) (hhi : hi9.toInt = hi) (hlh : lo ≤ hi) : BodyN SSX TBL g0 CLS bl xs l D_244 1 22 0 0 [.ref 124, .int lo9, .int hi9] hs (fun kd r h2 => kd = 0 ∧ ∃ (A2 b2 : Int) (x : Int32), r = some (.int x) ∧ PSt h2 tx L A2 b2 ∧ FrS WP hs h2 ∧ A ≤ A2 ∧ (A ≤ L → A2 ≤ L) ∧ b ≤ b2 ∧ lo ≤ x.toInt ∧ x.toInt ≤ hi) := by
  intro wp p e R s m args below meth c Q kc0 ks0 kc ks act hf hl hc hsl hEnd
  have hf : 1 ≤ R.frames := hf
  have hl : 22 ≤ R.locals := hl
  have hk1 : kc ≤ kc + 0 := by omega
  have hk2 : ks ≤ ks + 0 := by omega
  have fin155 : ∀ (hj : List CE) (Aj : Int) (bj : Int) (is9 : Int32) (fm : Int32) (vj : Int32) (Fm : Int), PSt hj tx L Aj bj → FrS WP hs hj → fm.toInt = Fm → A ≤ Aj → (A ≤ L → Aj ≤ L) → b ≤ bj → (bj = 0 → lo ≤ vj.toInt ∧ vj.toInt ≤ hi) → WpN (gp g0 wp) CLS p l e R s m args below meth c Q D_244.2.2.1 kc0 ks0 155 [some (.ref 124), some (.int lo9), some (.int hi9), some (.int is9), some (.int fm), some (.int vj)] (hj, kc, ks) [] := by
    intro hj Aj bj is9 fm vj Fm hPj hfr hFm w1 w2 w3 w4
    obtain ⟨rw_1, hT_1, ⟨L9_1, e10_1, hL_1⟩, ⟨A9_1, e11_1, hA_1⟩, ⟨b9_1, e14_1, hb_1⟩, ⟨c9_1, e12_1⟩, ⟨d9_1, e13_1⟩, ⟨f9_1, e15_1⟩, q1_1, q2_1, q3_1, q4_1, q5_1, q6_1⟩ := hPj
    refine g_loadA act (gx gp_244 (w := 0x9c03) rfl (by decide) rfl) (a := 0) (n := 156) rfl rfl rfl ?_
    refine g_loadI act (gx gp_244 (w := 0x4009e02) rfl (by decide) rfl) (a := 4) (n := 158) rfl rfl rfl ?_
    refine r_putf act (gx gp_244 (w := 0x3c900a113) rfl (by decide) rfl) (n := 161) (ci := 9) (j := 15) (N := 39) rfl rfl rfl rw_1.1 (by decide) (Or.inl ⟨rfl, _, rfl⟩) ?_
    have rw_2 := RW.wr (k := 124) (j := 15) (v := .int fm) rw_1 (Or.inr (by decide))
    have f_3 := hT_1.ne (k := 124) (j := 15) (v := .int fm) (by decide)
    have f_4 := (rd_ne hj (k := 124) (j := 15) (.int fm) (Or.inr (by decide))).trans e10_1
    have f_5 := (rd_ne hj (k := 124) (j := 15) (.int fm) (Or.inr (by decide))).trans e11_1
    have f_6 := (rd_ne hj (k := 124) (j := 15) (.int fm) (Or.inr (by decide))).trans e14_1
    have f_7 := (rd_ne hj (k := 124) (j := 15) (.int fm) (Or.inr (by decide))).trans e12_1
    have f_8 := (rd_ne hj (k := 124) (j := 15) (.int fm) (Or.inr (by decide))).trans e13_1
    have f_10 := rd_same (j := 15) (v := .int fm) rw_1.1
    have fr_11 := hfr.wr (k := 124) (j := 15) (.int fm) (by unfold WP; omega)
    clear rw_1 hfr hT_1 e10_1 e11_1 e14_1 e12_1 e13_1 e15_1
    generalize (wr hj 124 15 (.int fm)) = hs_12 at *
    refine g_loadA act (gx gp_244 (w := 0xa203) rfl (by decide) rfl) (a := 0) (n := 162) rfl rfl rfl ?_
    refine r_getf act (gx gp_244 (w := 0x100038900a504) rfl (by decide) rfl) (n := 165) (ci := 9) (j := 14) (N := 39) rfl rfl rfl rw_2.1 (by decide) (v := .int b9_1) f_6 ?_
    refine g_ifEq act (gx gp_244 (w := 0xac00a80e) rfl (by decide) rfl) (tgt := 172) (n := 168) rfl rfl (fun h4 => ?_) (fun h4 => ?_)
    · simp only [i_eq, i0] at h4
      refine g_loadI act (gx gp_244 (w := 0x500ae02) rfl (by decide) rfl) (a := 5) (n := 174) rfl rfl rfl ?_
      exact g_retI hEnd (gx gp_244 (w := 0x2f) rfl (by decide) rfl) ⟨rfl, Aj, bj, _, rfl, (show PSt hs_12 tx L Aj bj from ⟨rw_2, f_3, ⟨_, f_4, hL_1⟩, ⟨_, f_5, hA_1⟩, ⟨_, f_6, hb_1⟩, ⟨_, f_7⟩, ⟨_, f_8⟩, ⟨_, f_10⟩, by omega, by omega, by omega, by omega, by omega, by omega⟩), fr_11, by omega, by omega, by omega, by omega, by omega⟩ hk1 hk2
    · simp only [i_eq, i0] at h4
      refine g_loadI act (gx gp_244 (w := 0x100a902) rfl (by decide) rfl) (a := 1) (n := 169) rfl rfl rfl ?_
      refine g_goto act (gx gp_244 (w := 0xae07) rfl (by decide) rfl) (n := 174) rfl ?_
      exact g_retI hEnd (gx gp_244 (w := 0x2f) rfl (by decide) rfl) ⟨rfl, Aj, bj, _, rfl, (show PSt hs_12 tx L Aj bj from ⟨rw_2, f_3, ⟨_, f_4, hL_1⟩, ⟨_, f_5, hA_1⟩, ⟨_, f_6, hb_1⟩, ⟨_, f_7⟩, ⟨_, f_8⟩, ⟨_, f_10⟩, by omega, by omega, by omega, by omega, by omega, by omega⟩), fr_11, by omega, by omega, by omega, by omega, by omega⟩ hk1 hk2
  have fin113 : ∀ (hj : List CE) (Aj : Int) (bj : Int) (is9 : Int32) (fm : Int32) (vj : Int32) (Fm : Int), PSt hj tx L Aj bj → FrS WP hs hj → fm.toInt = Fm → A ≤ Aj → (A ≤ L → Aj ≤ L) → b = 0 → bj = 0 → 0 ≤ Fm → Fm ≤ 701 → WpN (gp g0 wp) CLS p l e R s m args below meth c Q D_244.2.2.1 kc0 ks0 113 [some (.ref 124), some (.int lo9), some (.int hi9), some (.int is9), some (.int fm), some (.int vj)] (hj, kc, ks) [] := by
    intro hj Aj bj is9 fm vj Fm hPj hfr hFm w1 w2 w3 w4 w5 w6
    obtain ⟨rw_13, hT_13, ⟨L9_13, e10_13, hL_13⟩, ⟨A9_13, e11_13, hA_13⟩, ⟨b9_13, e14_13, hb_13⟩, ⟨c9_13, e12_13⟩, ⟨d9_13, e13_13⟩, ⟨f9_13, e15_13⟩, q1_13, q2_13, q3_13, q4_13, q5_13, q6_13⟩ := hPj
    refine g_loadI act (gx gp_244 (w := 0x3007202) rfl (by decide) rfl) (a := 3) (n := 114) rfl rfl rfl ?_
    refine g_ifEq act (gx gp_244 (w := 0x8000750e) rfl (by decide) rfl) (tgt := 128) (n := 117) rfl rfl (fun h2 => ?_) (fun h2 => ?_)
    · simp only [i_eq, i0] at h2
      refine g_loadA act (gx gp_244 (w := 0x8103) rfl (by decide) rfl) (a := 0) (n := 129) rfl rfl rfl ?_
      refine g_constI act (gx gp_244 (w := 0x40000000c00000009000000008201) rfl (by decide) rfl) (n := 130) (x := (1 : Int32)) (by decide) rfl ?_
      refine g_loadI act (gx gp_244 (w := 0x4008402) rfl (by decide) rfl) (a := 4) (n := 132) rfl rfl rfl ?_
      refine n_call tb_pres act hEnd (gx (P := G_call) gp_244 (w := 0xa00000000000080c3300012100870f) rfl (by decide) rfl) (d' := D_289) rfl (as := [.ref 124, .int (1 : Int32), .int fm]) (rest := []) (br_wrong (show PSt hj tx L Aj bj from ⟨rw_13, hT_13, ⟨_, e10_13, hL_13⟩, ⟨_, e11_13, hA_13⟩, ⟨_, e14_13, hb_13⟩, ⟨_, e12_13⟩, ⟨_, e13_13⟩, ⟨_, e15_13⟩, by omega, by omega, by omega, by omega, by omega, by omega⟩)) (show (3 : Nat) = fb 0xa00000000000080c3300012100870f % 16 by decide) (by show (3 : Nat) ≤ 3; decide) (fun _ => ⟨_, _, rfl, _, shp_at rw_13.1, Or.inr (show fb 0xa00000000000080c3300012100870f >>> 68 = 10 by decide)⟩) (by omega) (by show 8 + (3 + 11) + 0 ≤ R.locals; omega) (by show (0 : Nat) ≤ 8; decide) (by show kc + 0 ≤ _; omega) (by show ks + 0 ≤ _; omega) (fun r9 hs_c14 hpo hr9 => ?_) (fun x9 hs9 hx9 hpo => ?_)
      · obtain rfl : r9 = none := hr9.elim (fun q => q.2) (fun q => absurd rfl q.1)
        obtain ⟨-, b_c14, hP_c14, fr_c14, qb_c14⟩ := hpo
        obtain ⟨A_c14, qA_c14⟩ : ∃ z : Int, z = Aj := ⟨_, rfl⟩
        rw [← qA_c14] at hP_c14
        have rw_15 := rw_13.fr fr_c14 WP_rw
        have f_16 := hT_13.fr (fun j9 _ => fr_c14.2.2 130 j9 (by unfold WP; omega))
        have f_17 := rd_fr fr_c14 e10_13 (by unfold WP; omega)
        have fr_18 := hfr.tr fr_c14
        obtain ⟨-, -, -, ⟨A9_c14, e11_c14, hA_c14⟩, ⟨b9_c14, e14_c14, hb_c14⟩, ⟨c9_c14, e12_c14⟩, ⟨d9_c14, e13_c14⟩, ⟨f9_c14, e15_c14⟩, -, -, q3_c14, q4_c14, q5_c14, q6_c14⟩ := hP_c14
        clear rw_13 hT_13 e10_13 e11_13 e14_13 e12_13 e13_13 e15_13 hfr
        show WpN (gp g0 wp) CLS p l e R s m args below meth c Q D_244.2.2.1 kc0 ks0 135 [some (.ref 124), some (.int lo9), some (.int hi9), some (.int is9), some (.int fm), some (.int vj)] (hs_c14, kc, ks) []
        refine g_goto act (gx gp_244 (w := 0x9b07) rfl (by decide) rfl) (n := 155) rfl ?_
        exact fin155 _ _ _ _ _ _ _ (show PSt hs_c14 tx L A_c14 b_c14 from ⟨rw_15, f_16, ⟨_, f_17, hL_13⟩, ⟨_, e11_c14, hA_c14⟩, ⟨_, e14_c14, hb_c14⟩, ⟨_, e12_c14⟩, ⟨_, e13_c14⟩, ⟨_, e15_c14⟩, by omega, by omega, by omega, by omega, by omega, by omega⟩) fr_18 hFm (by omega) (by omega) (by omega) (by omega)
      · exact absurd hpo.1 (by omega)
    · simp only [i_eq, i0] at h2
      refine g_loadA act (gx gp_244 (w := 0x7603) rfl (by decide) rfl) (a := 0) (n := 118) rfl rfl rfl ?_
      refine r_getf act (gx gp_244 (w := 0x2c9007904) rfl (by decide) rfl) (n := 121) (ci := 9) (j := 11) (N := 39) rfl rfl rfl rw_13.1 (by decide) (v := .int A9_13) e11_13 ?_
      refine g_loadI act (gx gp_244 (w := 0x4007b02) rfl (by decide) rfl) (a := 4) (n := 123) rfl rfl rfl ?_
      refine g_isub act (gx gp_244 (w := 0x7c26) rfl (by decide) rfl) (n := 124) rfl ?_
      have v_19 := iv_sub hA_13 hFm (show -2147483648 ≤ (Aj - Fm) by omega) (show (Aj - Fm) < 2147483648 by omega)
      refine g_constI act (gx gp_244 (w := 0x40000002400000021000000007d01) rfl (by decide) rfl) (n := 125) (x := (4 : Int32)) (by decide) rfl ?_
      refine g_icmpLe act (gx gp_244 (w := 0x8a00803c) rfl (by decide) rfl) (tgt := 138) (n := 128) rfl rfl (fun h10 => ?_) (fun h10 => ?_)
      · simp only [i_le, show (4 : Int32).toInt = 4 from by decide] at h10
        refine g_loadI act (gx gp_244 (w := 0x5008c02) rfl (by decide) rfl) (a := 5) (n := 140) rfl rfl rfl ?_
        refine g_loadI act (gx gp_244 (w := 0x1008d02) rfl (by decide) rfl) (a := 1) (n := 141) rfl rfl rfl ?_
        refine g_loadI act (gx gp_244 (w := 0x2008e02) rfl (by decide) rfl) (a := 2) (n := 142) rfl rfl rfl ?_
        refine n_call tb_pres act hEnd (gx (P := G_call) gp_244 (w := 0x40c330000d900910f) rfl (by decide) rfl) (d' := D_217) rfl (as := [.int vj, .int lo9, .int hi9]) (rest := []) (b_in (rfl : Int32.toInt vj = _) hlo hhi) (show (3 : Nat) = fb 0x40c330000d900910f % 16 by decide) (by show (3 : Nat) ≤ 3; decide) (fun q => absurd q (by decide)) (by omega) (by show 8 + (3 + 11) + 0 ≤ R.locals; omega) (by show (0 : Nat) ≤ 8; decide) (by show kc + 0 ≤ _; omega) (by show ks + 0 ≤ _; omega) (fun r9 h3 hpo hr9 => ?_) (fun x9 hs9 hx9 hpo => ?_)
        · obtain ⟨-, rfl, hin9⟩ := hpo
          obtain ⟨rv_20, rfl, hr_21⟩ := in1_x hin9
          show WpN (gp g0 wp) CLS p l e R s m args below meth c Q D_244.2.2.1 kc0 ks0 145 [some (.ref 124), some (.int lo9), some (.int hi9), some (.int is9), some (.int fm), some (.int vj)] (hj, kc, ks) [.int rv_20]
          refine g_ifNe act (gx gp_244 (w := 0x9b00941d) rfl (by decide) rfl) (tgt := 155) (n := 148) rfl rfl (fun h14 => ?_) (fun h14 => ?_)
          · simp only [i_eq, i0] at h14
            exact fin155 _ _ _ _ _ _ _ (show PSt hj tx L Aj bj from ⟨rw_13, hT_13, ⟨_, e10_13, hL_13⟩, ⟨_, e11_13, hA_13⟩, ⟨_, e14_13, hb_13⟩, ⟨_, e12_13⟩, ⟨_, e13_13⟩, ⟨_, e15_13⟩, by omega, by omega, by omega, by omega, by omega, by omega⟩) hfr hFm (by omega) (by omega) (by omega) (by omega)
          · simp only [i_eq, i0] at h14
            refine g_loadA act (gx gp_244 (w := 0x9503) rfl (by decide) rfl) (a := 0) (n := 149) rfl rfl rfl ?_
            refine g_constI act (gx gp_244 (w := 0x40000001400000011000000009601) rfl (by decide) rfl) (n := 150) (x := (2 : Int32)) (by decide) rfl ?_
            refine g_loadI act (gx gp_244 (w := 0x4009802) rfl (by decide) rfl) (a := 4) (n := 152) rfl rfl rfl ?_
            refine n_call tb_pres act hEnd (gx (P := G_call) gp_244 (w := 0xa00000000000080c33000121009b0f) rfl (by decide) rfl) (d' := D_289) rfl (as := [.ref 124, .int (2 : Int32), .int fm]) (rest := []) (br_wrong (show PSt hj tx L Aj bj from ⟨rw_13, hT_13, ⟨_, e10_13, hL_13⟩, ⟨_, e11_13, hA_13⟩, ⟨_, e14_13, hb_13⟩, ⟨_, e12_13⟩, ⟨_, e13_13⟩, ⟨_, e15_13⟩, by omega, by omega, by omega, by omega, by omega, by omega⟩)) (show (3 : Nat) = fb 0xa00000000000080c33000121009b0f % 16 by decide) (by show (3 : Nat) ≤ 3; decide) (fun _ => ⟨_, _, rfl, _, shp_at rw_13.1, Or.inr (show fb 0xa00000000000080c33000121009b0f >>> 68 = 10 by decide)⟩) (by omega) (by show 8 + (3 + 11) + 0 ≤ R.locals; omega) (by show (0 : Nat) ≤ 8; decide) (by show kc + 0 ≤ _; omega) (by show ks + 0 ≤ _; omega) (fun r9 hs_c22 hpo hr9 => ?_) (fun x9 hs9 hx9 hpo => ?_)
            · obtain rfl : r9 = none := hr9.elim (fun q => q.2) (fun q => absurd rfl q.1)
              obtain ⟨-, b_c22, hP_c22, fr_c22, qb_c22⟩ := hpo
              obtain ⟨A_c22, qA_c22⟩ : ∃ z : Int, z = Aj := ⟨_, rfl⟩
              rw [← qA_c22] at hP_c22
              have rw_23 := rw_13.fr fr_c22 WP_rw
              have f_24 := hT_13.fr (fun j9 _ => fr_c22.2.2 130 j9 (by unfold WP; omega))
              have f_25 := rd_fr fr_c22 e10_13 (by unfold WP; omega)
              have fr_26 := hfr.tr fr_c22
              obtain ⟨-, -, -, ⟨A9_c22, e11_c22, hA_c22⟩, ⟨b9_c22, e14_c22, hb_c22⟩, ⟨c9_c22, e12_c22⟩, ⟨d9_c22, e13_c22⟩, ⟨f9_c22, e15_c22⟩, -, -, q3_c22, q4_c22, q5_c22, q6_c22⟩ := hP_c22
              clear rw_13 hT_13 e10_13 e11_13 e14_13 e12_13 e13_13 e15_13 hfr
              show WpN (gp g0 wp) CLS p l e R s m args below meth c Q D_244.2.2.1 kc0 ks0 155 [some (.ref 124), some (.int lo9), some (.int hi9), some (.int is9), some (.int fm), some (.int vj)] (hs_c22, kc, ks) []
              exact fin155 _ _ _ _ _ _ _ (show PSt hs_c22 tx L A_c22 b_c22 from ⟨rw_23, f_24, ⟨_, f_25, hL_13⟩, ⟨_, e11_c22, hA_c22⟩, ⟨_, e14_c22, hb_c22⟩, ⟨_, e12_c22⟩, ⟨_, e13_c22⟩, ⟨_, e15_c22⟩, by omega, by omega, by omega, by omega, by omega, by omega⟩) fr_26 hFm (by omega) (by omega) (by omega) (by omega)
            · exact absurd hpo.1 (by omega)
        · exact absurd hpo.1 (by omega)
      · simp only [i_le, show (4 : Int32).toInt = 4 from by decide] at h10
        refine g_loadA act (gx gp_244 (w := 0x8103) rfl (by decide) rfl) (a := 0) (n := 129) rfl rfl rfl ?_
        refine g_constI act (gx gp_244 (w := 0x40000000c00000009000000008201) rfl (by decide) rfl) (n := 130) (x := (1 : Int32)) (by decide) rfl ?_
        refine g_loadI act (gx gp_244 (w := 0x4008402) rfl (by decide) rfl) (a := 4) (n := 132) rfl rfl rfl ?_
        refine n_call tb_pres act hEnd (gx (P := G_call) gp_244 (w := 0xa00000000000080c3300012100870f) rfl (by decide) rfl) (d' := D_289) rfl (as := [.ref 124, .int (1 : Int32), .int fm]) (rest := []) (br_wrong (show PSt hj tx L Aj bj from ⟨rw_13, hT_13, ⟨_, e10_13, hL_13⟩, ⟨_, e11_13, hA_13⟩, ⟨_, e14_13, hb_13⟩, ⟨_, e12_13⟩, ⟨_, e13_13⟩, ⟨_, e15_13⟩, by omega, by omega, by omega, by omega, by omega, by omega⟩)) (show (3 : Nat) = fb 0xa00000000000080c3300012100870f % 16 by decide) (by show (3 : Nat) ≤ 3; decide) (fun _ => ⟨_, _, rfl, _, shp_at rw_13.1, Or.inr (show fb 0xa00000000000080c3300012100870f >>> 68 = 10 by decide)⟩) (by omega) (by show 8 + (3 + 11) + 0 ≤ R.locals; omega) (by show (0 : Nat) ≤ 8; decide) (by show kc + 0 ≤ _; omega) (by show ks + 0 ≤ _; omega) (fun r9 hs_c27 hpo hr9 => ?_) (fun x9 hs9 hx9 hpo => ?_)
        · obtain rfl : r9 = none := hr9.elim (fun q => q.2) (fun q => absurd rfl q.1)
          obtain ⟨-, b_c27, hP_c27, fr_c27, qb_c27⟩ := hpo
          obtain ⟨A_c27, qA_c27⟩ : ∃ z : Int, z = Aj := ⟨_, rfl⟩
          rw [← qA_c27] at hP_c27
          have rw_28 := rw_13.fr fr_c27 WP_rw
          have f_29 := hT_13.fr (fun j9 _ => fr_c27.2.2 130 j9 (by unfold WP; omega))
          have f_30 := rd_fr fr_c27 e10_13 (by unfold WP; omega)
          have fr_31 := hfr.tr fr_c27
          obtain ⟨-, -, -, ⟨A9_c27, e11_c27, hA_c27⟩, ⟨b9_c27, e14_c27, hb_c27⟩, ⟨c9_c27, e12_c27⟩, ⟨d9_c27, e13_c27⟩, ⟨f9_c27, e15_c27⟩, -, -, q3_c27, q4_c27, q5_c27, q6_c27⟩ := hP_c27
          clear rw_13 hT_13 e10_13 e11_13 e14_13 e12_13 e13_13 e15_13 hfr
          show WpN (gp g0 wp) CLS p l e R s m args below meth c Q D_244.2.2.1 kc0 ks0 135 [some (.ref 124), some (.int lo9), some (.int hi9), some (.int is9), some (.int fm), some (.int vj)] (hs_c27, kc, ks) []
          refine g_goto act (gx gp_244 (w := 0x9b07) rfl (by decide) rfl) (n := 155) rfl ?_
          exact fin155 _ _ _ _ _ _ _ (show PSt hs_c27 tx L A_c27 b_c27 from ⟨rw_28, f_29, ⟨_, f_30, hL_13⟩, ⟨_, e11_c27, hA_c27⟩, ⟨_, e14_c27, hb_c27⟩, ⟨_, e12_c27⟩, ⟨_, e13_c27⟩, ⟨_, e15_c27⟩, by omega, by omega, by omega, by omega, by omega, by omega⟩) fr_31 hFm (by omega) (by omega) (by omega) (by omega)
        · exact absurd hpo.1 (by omega)
  have loop : ∀ (hj : List CE) (Aj : Int) (bj : Int) (is9 : Int32) (fm : Int32) (vj : Int32) (Fm : Int), PSt hj tx L Aj bj → FrS WP hs hj → fm.toInt = Fm → A ≤ Aj → (A ≤ L → Aj ≤ L) → b = 0 → bj = 0 → 0 ≤ Fm → Fm ≤ Aj → WpN (gp g0 wp) CLS p l e R s m args below meth c Q D_244.2.2.1 kc0 ks0 30 [some (.ref 124), some (.int lo9), some (.int hi9), some (.int is9), some (.int fm), some (.int vj)] (hj, kc, ks) [] := by
    intro hj Aj bj is9 fm vj Fm hPj hfr hFm w1 w2 w3 w4 w5 w6
    generalize hm : (L - Aj).toNat = m9
    induction m9 using Nat.strongRecOn generalizing hj Aj bj is9 fm vj Fm with
    | _ m9 ih =>
    subst hm
    obtain ⟨rw_32, hT_32, ⟨L9_32, e10_32, hL_32⟩, ⟨A9_32, e11_32, hA_32⟩, ⟨b9_32, e14_32, hb_32⟩, ⟨c9_32, e12_32⟩, ⟨d9_32, e13_32⟩, ⟨f9_32, e15_32⟩, q1_32, q2_32, q3_32, q4_32, q5_32, q6_32⟩ := hPj
    refine g_loadI act (gx gp_244 (w := 0x3001f02) rfl (by decide) rfl) (a := 3) (n := 31) rfl rfl rfl ?_
    refine g_ifEq act (gx gp_244 (w := 0x7100220e) rfl (by decide) rfl) (tgt := 113) (n := 34) rfl rfl (fun h2 => ?_) (fun h2 => ?_)
    · simp only [i_eq, i0] at h2
      exact fin113 _ _ _ _ _ _ _ (show PSt hj tx L Aj bj from ⟨rw_32, hT_32, ⟨_, e10_32, hL_32⟩, ⟨_, e11_32, hA_32⟩, ⟨_, e14_32, hb_32⟩, ⟨_, e12_32⟩, ⟨_, e13_32⟩, ⟨_, e15_32⟩, by omega, by omega, by omega, by omega, by omega, by omega⟩) hfr hFm (by omega) (by omega) (by omega) (by omega) (by omega) (by omega)
    · simp only [i_eq, i0] at h2
      refine g_loadA act (gx gp_244 (w := 0x2303) rfl (by decide) rfl) (a := 0) (n := 35) rfl rfl rfl ?_
      refine r_getf act (gx gp_244 (w := 0x2c9002604) rfl (by decide) rfl) (n := 38) (ci := 9) (j := 11) (N := 39) rfl rfl rfl rw_32.1 (by decide) (v := .int A9_32) e11_32 ?_
      refine g_loadA act (gx gp_244 (w := 0x2703) rfl (by decide) rfl) (a := 0) (n := 39) rfl rfl rfl ?_
      refine r_getf act (gx gp_244 (w := 0x289002a04) rfl (by decide) rfl) (n := 42) (ci := 9) (j := 10) (N := 39) rfl rfl rfl rw_32.1 (by decide) (v := .int L9_32) e10_32 ?_
      refine g_icmpGe act (gx gp_244 (w := 0x71002d08) rfl (by decide) rfl) (tgt := 113) (n := 45) rfl rfl (fun h5 => ?_) (fun h5 => ?_)
      · simp only [i_le] at h5
        exact fin113 _ _ _ _ _ _ _ (show PSt hj tx L Aj bj from ⟨rw_32, hT_32, ⟨_, e10_32, hL_32⟩, ⟨_, e11_32, hA_32⟩, ⟨_, e14_32, hb_32⟩, ⟨_, e12_32⟩, ⟨_, e13_32⟩, ⟨_, e15_32⟩, by omega, by omega, by omega, by omega, by omega, by omega⟩) hfr hFm (by omega) (by omega) (by omega) (by omega) (by omega) (by omega)
      · simp only [i_le] at h5
        refine g_loadA act (gx gp_244 (w := 0x2e03) rfl (by decide) rfl) (a := 0) (n := 46) rfl rfl rfl ?_
        refine r_getf act (gx gp_244 (w := 0x3000249003104) rfl (by decide) rfl) (n := 49) (ci := 9) (j := 9) (N := 39) rfl rfl rfl rw_32.1 (by decide) (rw_32.2 (9, 130, 32, 700) (by decide)).1 ?_
        refine g_loadA act (gx gp_244 (w := 0x3203) rfl (by decide) rfl) (a := 0) (n := 50) rfl rfl rfl ?_
        refine r_getf act (gx gp_244 (w := 0x2c9003504) rfl (by decide) rfl) (n := 53) (ci := 9) (j := 11) (N := 39) rfl rfl rfl rw_32.1 (by decide) (v := .int A9_32) e11_32 ?_
        obtain ⟨j_33, hj_34⟩ := Int.eq_ofNat_of_zero_le (show (0 : Int) ≤ Aj by omega)
        obtain ⟨x_35, e_36, hx_37⟩ := hT_32 j_33 (by omega)
        refine r_iald act (gx gp_244 (w := 0x361a) rfl (by decide) rfl) (n := 54) (j := j_33) rfl (rw_32.2 (9, 130, 32, 700) (by decide)).2 (hA_32.trans hj_34) (show j_33 < 700 by omega) (v := .int x_35) e_36 ?_
        refine g_constI act (gx gp_244 (w := 0x40000018400000181000000003801) rfl (by decide) rfl) (n := 56) (x := (48 : Int32)) (by decide) rfl ?_
        refine g_constI act (gx gp_244 (w := 0x4000001cc000001c9000000003a01) rfl (by decide) rfl) (n := 58) (x := (57 : Int32)) (by decide) rfl ?_
        refine n_call tb_pres act hEnd (gx (P := G_call) gp_244 (w := 0x40c330000d9003d0f) rfl (by decide) rfl) (d' := D_217) rfl (as := [.int x_35, .int (48 : Int32), .int (57 : Int32)]) (rest := []) (b_in hx_37 (show (48 : Int32).toInt = ((48 : Nat) : Int) from by decide) (show (57 : Int32).toInt = ((57 : Nat) : Int) from by decide)) (show (3 : Nat) = fb 0x40c330000d9003d0f % 16 by decide) (by show (3 : Nat) ≤ 3; decide) (fun q => absurd q (by decide)) (by omega) (by show 8 + (3 + 11) + 0 ≤ R.locals; omega) (by show (0 : Nat) ≤ 8; decide) (by show kc + 0 ≤ _; omega) (by show ks + 0 ≤ _; omega) (fun r9 h3 hpo hr9 => ?_) (fun x9 hs9 hx9 hpo => ?_)
        · obtain ⟨-, rfl, hin9⟩ := hpo
          obtain ⟨rv_38, rfl, hr_39⟩ := in1_x hin9
          show WpN (gp g0 wp) CLS p l e R s m args below meth c Q D_244.2.2.1 kc0 ks0 61 [some (.ref 124), some (.int lo9), some (.int hi9), some (.int is9), some (.int fm), some (.int vj)] (hj, kc, ks) [.int rv_38]
          refine g_ifEq act (gx gp_244 (w := 0x7100400e) rfl (by decide) rfl) (tgt := 113) (n := 64) rfl rfl (fun h10 => ?_) (fun h10 => ?_)
          · simp only [i_eq, i0] at h10
            exact fin113 _ _ _ _ _ _ _ (show PSt hj tx L ((j_33 : Nat) : Int) bj from ⟨rw_32, hT_32, ⟨_, e10_32, hL_32⟩, ⟨_, e11_32, (hA_32.trans hj_34)⟩, ⟨_, e14_32, hb_32⟩, ⟨_, e12_32⟩, ⟨_, e13_32⟩, ⟨_, e15_32⟩, by omega, by omega, by omega, by omega, by omega, by omega⟩) hfr hFm (by omega) (by omega) (by omega) (by omega) (by omega) (by omega)
          · simp only [i_eq, i0] at h10
            refine g_loadA act (gx gp_244 (w := 0x4103) rfl (by decide) rfl) (a := 0) (n := 65) rfl rfl rfl ?_
            refine r_getf act (gx gp_244 (w := 0x2c9004404) rfl (by decide) rfl) (n := 68) (ci := 9) (j := 11) (N := 39) rfl rfl rfl rw_32.1 (by decide) (v := .int A9_32) e11_32 ?_
            refine g_loadI act (gx gp_244 (w := 0x4004602) rfl (by decide) rfl) (a := 4) (n := 70) rfl rfl rfl ?_
            refine g_isub act (gx gp_244 (w := 0x4726) rfl (by decide) rfl) (n := 71) rfl ?_
            have v_40 := iv_sub (hA_32.trans hj_34) hFm (show -2147483648 ≤ (((j_33 : Nat) : Int) - Fm) by omega) (show (((j_33 : Nat) : Int) - Fm) < 2147483648 by omega)
            refine g_constI act (gx gp_244 (w := 0x40000002400000021000000004801) rfl (by decide) rfl) (n := 72) (x := (4 : Int32)) (by decide) rfl ?_
            refine g_icmpGe act (gx gp_244 (w := 0x60004b08) rfl (by decide) rfl) (tgt := 96) (n := 75) rfl rfl (fun h14 => ?_) (fun h14 => ?_)
            · simp only [i_le, show (4 : Int32).toInt = 4 from by decide] at h14
              refine g_loadI act (gx gp_244 (w := 0x5006202) rfl (by decide) rfl) (a := 5) (n := 98) rfl rfl rfl ?_
              refine g_storeI act (gx gp_244 (w := 0x5006410) rfl (by decide) rfl) (a := 5) (n := 100) rfl rfl (L2 := [some (.ref 124), some (.int lo9), some (.int hi9), some (.int is9), some (.int fm), some (.int vj)]) rfl ?_
              refine g_loadA act (gx gp_244 (w := 0x6503) rfl (by decide) rfl) (a := 0) (n := 101) rfl rfl rfl ?_
              refine g_dup act (gx gp_244 (w := 0x6622) rfl (by decide) rfl) (n := 102) rfl rfl ?_
              refine r_getf act (gx gp_244 (w := 0x2c9006904) rfl (by decide) rfl) (n := 105) (ci := 9) (j := 11) (N := 39) rfl rfl rfl rw_32.1 (by decide) (v := .int A9_32) e11_32 ?_
              refine g_constI act (gx gp_244 (w := 0x40000000c00000009000000006a01) rfl (by decide) rfl) (n := 106) (x := (1 : Int32)) (by decide) rfl ?_
              refine g_iadd act (gx gp_244 (w := 0x6b0a) rfl (by decide) rfl) (n := 107) rfl ?_
              have v_41 := iv_addN (hA_32.trans hj_34) (show (1 : Int32).toInt = ((1 : Nat) : Int) from by decide) (show (j_33 + 1) < 2147483648 by omega)
              refine r_putf act (gx gp_244 (w := 0x2c9006e13) rfl (by decide) rfl) (n := 110) (ci := 9) (j := 11) (N := 39) rfl rfl rfl rw_32.1 (by decide) (Or.inl ⟨rfl, _, rfl⟩) ?_
              have rw_42 := RW.wr (k := 124) (j := 11) (v := .int (A9_32 + (1 : Int32))) rw_32 (Or.inr (by decide))
              have f_43 := hT_32.ne (k := 124) (j := 11) (v := .int (A9_32 + (1 : Int32))) (by decide)
              have f_44 := (rd_ne hj (k := 124) (j := 11) (.int (A9_32 + (1 : Int32))) (Or.inr (by decide))).trans e10_32
              have f_46 := (rd_ne hj (k := 124) (j := 11) (.int (A9_32 + (1 : Int32))) (Or.inr (by decide))).trans e14_32
              have f_47 := (rd_ne hj (k := 124) (j := 11) (.int (A9_32 + (1 : Int32))) (Or.inr (by decide))).trans e12_32
              have f_48 := (rd_ne hj (k := 124) (j := 11) (.int (A9_32 + (1 : Int32))) (Or.inr (by decide))).trans e13_32
              have f_49 := (rd_ne hj (k := 124) (j := 11) (.int (A9_32 + (1 : Int32))) (Or.inr (by decide))).trans e15_32
              have f_50 := rd_same (j := 11) (v := .int (A9_32 + (1 : Int32))) rw_32.1
              have fr_51 := hfr.wr (k := 124) (j := 11) (.int (A9_32 + (1 : Int32))) (by unfold WP; omega)
              clear rw_32 hfr hT_32 e10_32 e11_32 e14_32 e12_32 e13_32 e15_32
              generalize (wr hj 124 11 (.int (A9_32 + (1 : Int32)))) = hs_52 at *
              refine g_goto act (gx gp_244 (w := 0x1e07) rfl (by decide) rfl) (n := 30) rfl ?_
              exact ih _ (by omega) _ _ _ _ _ _ _ (show PSt hs_52 tx L (((j_33 + 1) : Nat) : Int) bj from ⟨rw_42, f_43, ⟨_, f_44, hL_32⟩, ⟨_, f_50, v_41⟩, ⟨_, f_46, hb_32⟩, ⟨_, f_47⟩, ⟨_, f_48⟩, ⟨_, f_49⟩, by omega, by omega, by omega, by omega, by omega, by omega⟩) fr_51 hFm (by omega) (by omega) (by omega) (by omega) (by omega) rfl
            · simp only [i_le, show (4 : Int32).toInt = 4 from by decide] at h14
              refine g_constI act (gx gp_244 (w := 0x40000005400000051000000004d01) rfl (by decide) rfl) (n := 77) (x := (10 : Int32)) (by decide) rfl ?_
              refine g_loadI act (gx gp_244 (w := 0x5004f02) rfl (by decide) rfl) (a := 5) (n := 79) rfl rfl rfl ?_
              refine g_imul act (gx gp_244 (w := 0x5011) rfl (by decide) rfl) (n := 80) rfl ?_
              refine g_loadA act (gx gp_244 (w := 0x5103) rfl (by decide) rfl) (a := 0) (n := 81) rfl rfl rfl ?_
              refine r_getf act (gx gp_244 (w := 0x3000249005404) rfl (by decide) rfl) (n := 84) (ci := 9) (j := 9) (N := 39) rfl rfl rfl rw_32.1 (by decide) (rw_32.2 (9, 130, 32, 700) (by decide)).1 ?_
              refine g_loadA act (gx gp_244 (w := 0x5503) rfl (by decide) rfl) (a := 0) (n := 85) rfl rfl rfl ?_
              refine r_getf act (gx gp_244 (w := 0x2c9005804) rfl (by decide) rfl) (n := 88) (ci := 9) (j := 11) (N := 39) rfl rfl rfl rw_32.1 (by decide) (v := .int A9_32) e11_32 ?_
              obtain ⟨x_53, e_54, hx_55⟩ := hT_32 j_33 (by omega)
              refine r_iald act (gx gp_244 (w := 0x591a) rfl (by decide) rfl) (n := 89) (j := j_33) rfl (rw_32.2 (9, 130, 32, 700) (by decide)).2 (hA_32.trans hj_34) (show j_33 < 700 by omega) (v := .int x_53) e_54 ?_
              refine g_iadd act (gx gp_244 (w := 0x5a0a) rfl (by decide) rfl) (n := 90) rfl ?_
              refine g_constI act (gx gp_244 (w := 0x40000018400000181000000005c01) rfl (by decide) rfl) (n := 92) (x := (48 : Int32)) (by decide) rfl ?_
              refine g_isub act (gx gp_244 (w := 0x5d26) rfl (by decide) rfl) (n := 93) rfl ?_
              refine g_goto act (gx gp_244 (w := 0x6207) rfl (by decide) rfl) (n := 98) rfl ?_
              refine g_storeI act (gx gp_244 (w := 0x5006410) rfl (by decide) rfl) (a := 5) (n := 100) rfl rfl (L2 := [some (.ref 124), some (.int lo9), some (.int hi9), some (.int is9), some (.int fm), some (.int ((((10 : Int32) * vj) + x_53) - (48 : Int32)))]) rfl ?_
              refine g_loadA act (gx gp_244 (w := 0x6503) rfl (by decide) rfl) (a := 0) (n := 101) rfl rfl rfl ?_
              refine g_dup act (gx gp_244 (w := 0x6622) rfl (by decide) rfl) (n := 102) rfl rfl ?_
              refine r_getf act (gx gp_244 (w := 0x2c9006904) rfl (by decide) rfl) (n := 105) (ci := 9) (j := 11) (N := 39) rfl rfl rfl rw_32.1 (by decide) (v := .int A9_32) e11_32 ?_
              refine g_constI act (gx gp_244 (w := 0x40000000c00000009000000006a01) rfl (by decide) rfl) (n := 106) (x := (1 : Int32)) (by decide) rfl ?_
              refine g_iadd act (gx gp_244 (w := 0x6b0a) rfl (by decide) rfl) (n := 107) rfl ?_
              have v_56 := iv_addN (hA_32.trans hj_34) (show (1 : Int32).toInt = ((1 : Nat) : Int) from by decide) (show (j_33 + 1) < 2147483648 by omega)
              refine r_putf act (gx gp_244 (w := 0x2c9006e13) rfl (by decide) rfl) (n := 110) (ci := 9) (j := 11) (N := 39) rfl rfl rfl rw_32.1 (by decide) (Or.inl ⟨rfl, _, rfl⟩) ?_
              have rw_57 := RW.wr (k := 124) (j := 11) (v := .int (A9_32 + (1 : Int32))) rw_32 (Or.inr (by decide))
              have f_58 := hT_32.ne (k := 124) (j := 11) (v := .int (A9_32 + (1 : Int32))) (by decide)
              have f_59 := (rd_ne hj (k := 124) (j := 11) (.int (A9_32 + (1 : Int32))) (Or.inr (by decide))).trans e10_32
              have f_61 := (rd_ne hj (k := 124) (j := 11) (.int (A9_32 + (1 : Int32))) (Or.inr (by decide))).trans e14_32
              have f_62 := (rd_ne hj (k := 124) (j := 11) (.int (A9_32 + (1 : Int32))) (Or.inr (by decide))).trans e12_32
              have f_63 := (rd_ne hj (k := 124) (j := 11) (.int (A9_32 + (1 : Int32))) (Or.inr (by decide))).trans e13_32
              have f_64 := (rd_ne hj (k := 124) (j := 11) (.int (A9_32 + (1 : Int32))) (Or.inr (by decide))).trans e15_32
              have f_65 := rd_same (j := 11) (v := .int (A9_32 + (1 : Int32))) rw_32.1
              have fr_66 := hfr.wr (k := 124) (j := 11) (.int (A9_32 + (1 : Int32))) (by unfold WP; omega)
              clear rw_32 hfr hT_32 e10_32 e11_32 e14_32 e12_32 e13_32 e15_32
              generalize (wr hj 124 11 (.int (A9_32 + (1 : Int32)))) = hs_67 at *
              refine g_goto act (gx gp_244 (w := 0x1e07) rfl (by decide) rfl) (n := 30) rfl ?_
              exact ih _ (by omega) _ _ _ _ _ _ _ (show PSt hs_67 tx L (((j_33 + 1) : Nat) : Int) bj from ⟨rw_57, f_58, ⟨_, f_59, hL_32⟩, ⟨_, f_65, v_56⟩, ⟨_, f_61, hb_32⟩, ⟨_, f_62⟩, ⟨_, f_63⟩, ⟨_, f_64⟩, by omega, by omega, by omega, by omega, by omega, by omega⟩) fr_66 hFm (by omega) (by omega) (by omega) (by omega) (by omega) rfl
        · exact absurd hpo.1 (by omega)
  obtain ⟨rw_68, hT_68, ⟨L9_68, e10_68, hL_68⟩, ⟨A9_68, e11_68, hA_68⟩, ⟨b9_68, e14_68, hb_68⟩, ⟨c9_68, e12_68⟩, ⟨d9_68, e13_68⟩, ⟨f9_68, e15_68⟩, q1_68, q2_68, q3_68, q4_68, q5_68, q6_68⟩ := hP
  have hfr0 := FrS.rf WP hs
  show WpN (gp g0 wp) CLS p l e R s m args below meth c Q D_244.2.2.1 kc0 ks0 0 [some (.ref 124), some (.int lo9), some (.int hi9), none, none, none] (hs, kc, ks) []
  refine g_loadA act (gx gp_244 (w := 0x103) rfl (by decide) rfl) (a := 0) (n := 1) rfl rfl rfl ?_
  refine r_getf act (gx gp_244 (w := 0x1000389000404) rfl (by decide) rfl) (n := 4) (ci := 9) (j := 14) (N := 39) rfl rfl rfl rw_68.1 (by decide) (v := .int b9_68) e14_68 ?_
  refine g_ifEq act (gx gp_244 (w := 0x900070e) rfl (by decide) rfl) (tgt := 9) (n := 7) rfl rfl (fun h2 => ?_) (fun h2 => ?_)
  · simp only [i_eq, i0] at h2
    refine g_loadA act (gx gp_244 (w := 0xa03) rfl (by decide) rfl) (a := 0) (n := 10) rfl rfl rfl ?_
    refine n_call tb_pres act hEnd (gx (P := G_call) gp_244 (w := 0xa000000000000c04110000d8000d0f) rfl (by decide) rfl) (d' := D_216) rfl (as := [.ref 124]) (rest := []) (br_here (show PSt hs tx L A b from ⟨rw_68, hT_68, ⟨_, e10_68, hL_68⟩, ⟨_, e11_68, hA_68⟩, ⟨_, e14_68, hb_68⟩, ⟨_, e12_68⟩, ⟨_, e13_68⟩, ⟨_, e15_68⟩, by omega, by omega, by omega, by omega, by omega, by omega⟩)) (show (1 : Nat) = fb 0xa000000000000c04110000d8000d0f % 16 by decide) (by show (1 : Nat) ≤ 1; decide) (fun _ => ⟨_, _, rfl, _, shp_at rw_68.1, Or.inr (show fb 0xa000000000000c04110000d8000d0f >>> 68 = 10 by decide)⟩) (by omega) (by show 8 + (1 + 11) + 0 ≤ R.locals; omega) (by show (0 : Nat) ≤ 8; decide) (by show kc + 0 ≤ _; omega) (by show ks + 0 ≤ _; omega) (fun r9 hs_c69 hpo hr9 => ?_) (fun x9 hs9 hx9 hpo => ?_)
    · obtain ⟨-, A_c69, rv_c69, rfl, hP_c69, fr_c69, q7_c69, q8_c69, q9_c69⟩ := hpo
      try replace q8_c69 := q8_c69 (by omega)
      have rw_70 := rw_68.fr fr_c69 WP_rw
      have f_71 := hT_68.fr (fun j9 _ => fr_c69.2.2 130 j9 (by unfold WP; omega))
      have f_72 := rd_fr fr_c69 e10_68 (by unfold WP; omega)
      have fr_73 := hfr0.tr fr_c69
      obtain ⟨-, -, -, ⟨A9_c69, e11_c69, hA_c69⟩, ⟨b9_c69, e14_c69, hb_c69⟩, ⟨c9_c69, e12_c69⟩, ⟨d9_c69, e13_c69⟩, ⟨f9_c69, e15_c69⟩, -, -, q3_c69, q4_c69, q5_c69, q6_c69⟩ := hP_c69
      clear rw_68 hT_68 e10_68 e11_68 e14_68 e12_68 e13_68 e15_68 hfr0
      show WpN (gp g0 wp) CLS p l e R s m args below meth c Q D_244.2.2.1 kc0 ks0 13 [some (.ref 124), some (.int lo9), some (.int hi9), none, none, none] (hs_c69, kc, ks) [.int rv_c69]
      refine g_constI act (gx gp_244 (w := 0x40000018400000181000000000f01) rfl (by decide) rfl) (n := 15) (x := (48 : Int32)) (by decide) rfl ?_
      refine g_constI act (gx gp_244 (w := 0x4000001cc000001c9000000001101) rfl (by decide) rfl) (n := 17) (x := (57 : Int32)) (by decide) rfl ?_
      refine n_call tb_pres act hEnd (gx (P := G_call) gp_244 (w := 0x40c330000d900140f) rfl (by decide) rfl) (d' := D_217) rfl (as := [.int rv_c69, .int (48 : Int32), .int (57 : Int32)]) (rest := []) (b_in (rfl : Int32.toInt rv_c69 = _) (show (48 : Int32).toInt = ((48 : Nat) : Int) from by decide) (show (57 : Int32).toInt = ((57 : Nat) : Int) from by decide)) (show (3 : Nat) = fb 0x40c330000d900140f % 16 by decide) (by show (3 : Nat) ≤ 3; decide) (fun q => absurd q (by decide)) (by omega) (by show 8 + (3 + 11) + 0 ≤ R.locals; omega) (by show (0 : Nat) ≤ 8; decide) (by show kc + 0 ≤ _; omega) (by show ks + 0 ≤ _; omega) (fun r9 h3 hpo hr9 => ?_) (fun x9 hs9 hx9 hpo => ?_)
      · obtain ⟨-, rfl, hin9⟩ := hpo
        obtain ⟨rv_74, rfl, hr_75⟩ := in1_x hin9
        show WpN (gp g0 wp) CLS p l e R s m args below meth c Q D_244.2.2.1 kc0 ks0 20 [some (.ref 124), some (.int lo9), some (.int hi9), none, none, none] (hs_c69, kc, ks) [.int rv_74]
        refine g_storeI act (gx gp_244 (w := 0x3001510) rfl (by decide) rfl) (a := 3) (n := 21) rfl rfl (L2 := [some (.ref 124), some (.int lo9), some (.int hi9), some (.int rv_74), none, none]) rfl ?_
        refine g_loadA act (gx gp_244 (w := 0x1603) rfl (by decide) rfl) (a := 0) (n := 22) rfl rfl rfl ?_
        refine r_getf act (gx gp_244 (w := 0x2c9001904) rfl (by decide) rfl) (n := 25) (ci := 9) (j := 11) (N := 39) rfl rfl rfl rw_70.1 (by decide) (v := .int A9_c69) e11_c69 ?_
        refine g_storeI act (gx gp_244 (w := 0x4001b10) rfl (by decide) rfl) (a := 4) (n := 27) rfl rfl (L2 := [some (.ref 124), some (.int lo9), some (.int hi9), some (.int rv_74), some (.int A9_c69), none]) rfl ?_
        refine g_constI act (gx gp_244 (w := 0x40000000400000001000000001c01) rfl (by decide) rfl) (n := 28) (x := (0 : Int32)) (by decide) rfl ?_
        refine g_storeI act (gx gp_244 (w := 0x5001e10) rfl (by decide) rfl) (a := 5) (n := 30) rfl rfl (L2 := [some (.ref 124), some (.int lo9), some (.int hi9), some (.int rv_74), some (.int A9_c69), some (.int (0 : Int32))]) rfl ?_
        exact loop _ _ _ _ _ _ _ (show PSt hs_c69 tx L A_c69 b from ⟨rw_70, f_71, ⟨_, f_72, hL_68⟩, ⟨_, e11_c69, hA_c69⟩, ⟨_, e14_c69, hb_c69⟩, ⟨_, e12_c69⟩, ⟨_, e13_c69⟩, ⟨_, e15_c69⟩, by omega, by omega, by omega, by omega, by omega, by omega⟩) fr_73 hA_c69 (by omega) (by omega) (by omega) (by omega) (by omega) (by omega)
      · exact absurd hpo.1 (by omega)
    · exact absurd hpo.1 (by omega)
  · simp only [i_eq, i0] at h2
    refine g_loadI act (gx gp_244 (w := 0x1000802) rfl (by decide) rfl) (a := 1) (n := 8) rfl rfl rfl ?_
    exact g_retI hEnd (gx gp_244 (w := 0x2f) rfl (by decide) rfl) ⟨rfl, A, b, _, rfl, (show PSt hs tx L A b from ⟨rw_68, hT_68, ⟨_, e10_68, hL_68⟩, ⟨_, e11_68, hA_68⟩, ⟨_, e14_68, hb_68⟩, ⟨_, e12_68⟩, ⟨_, e13_68⟩, ⟨_, e15_68⟩, by omega, by omega, by omega, by omega, by omega, by omega⟩), hfr0, by omega, by omega, by omega, by omega, by omega⟩ hk1 hk2

theorem br_node {fv : Nat → Int} (hP : PSt hs tx L A b) (hF : IArr hs 126 46 fv) (h2 : 1 ≤ fv 0) (h4 : fv 0 ≤ 6) : BodyN SSX TBL g0 CLS bl xs l D_243 2 47 0 0 [.ref 124] hs (fun kd r h2 => kd = 0 ∧ ∃ (A2 b2 : Int) (x : Int32), r = some (.int x) ∧ PSt h2 tx L A2 b2 ∧ FrS WP hs h2 ∧ A ≤ A2 ∧ (A ≤ L → A2 ≤ L) ∧ b ≤ b2 ∧ 0 ≤ x.toInt ∧ x.toInt ≤ fv 0 - 1) := by
  intro wp p e R s m args below meth c Q kc0 ks0 kc ks act hf hl hc hsl hEnd
  have hf : 2 ≤ R.frames := hf
  have hl : 47 ≤ R.locals := hl
  have hk1 : kc ≤ kc + 0 := by omega
  have hk2 : ks ≤ ks + 0 := by omega
  obtain ⟨rw_1, hT_1, ⟨L9_1, e10_1, hL_1⟩, ⟨A9_1, e11_1, hA_1⟩, ⟨b9_1, e14_1, hb_1⟩, ⟨c9_1, e12_1⟩, ⟨d9_1, e13_1⟩, ⟨f9_1, e15_1⟩, q1_1, q2_1, q3_1, q4_1, q5_1, q6_1⟩ := hP
  have hfr0 := FrS.rf WP hs
  show WpN (gp g0 wp) CLS p l e R s m args below meth c Q D_243.2.2.1 kc0 ks0 0 [some (.ref 124)] (hs, kc, ks) []
  refine g_loadA act (gx gp_243 (w := 0x103) rfl (by decide) rfl) (a := 0) (n := 1) rfl rfl rfl ?_
  refine g_constI act (gx gp_243 (w := 0x40000000400000001000000000201) rfl (by decide) rfl) (n := 2) (x := (0 : Int32)) (by decide) rfl ?_
  refine g_loadA act (gx gp_243 (w := 0x303) rfl (by decide) rfl) (a := 0) (n := 3) rfl rfl rfl ?_
  refine r_getf act (gx gp_243 (w := 0x3000089000604) rfl (by decide) rfl) (n := 6) (ci := 9) (j := 2) (N := 39) rfl rfl rfl rw_1.1 (by decide) (rw_1.2 (2, 126, 32, 46) (by decide)).1 ?_
  refine g_constI act (gx gp_243 (w := 0x40000000400000001000000000701) rfl (by decide) rfl) (n := 7) (x := (0 : Int32)) (by decide) rfl ?_
  obtain ⟨x_2, e_3, hx_4⟩ := hF 0 (by omega)
  refine r_iald act (gx gp_243 (w := 0x81a) rfl (by decide) rfl) (n := 8) (j := 0) rfl (rw_1.2 (2, 126, 32, 46) (by decide)).2 (show (0 : Int32).toInt = ((0 : Nat) : Int) from by decide) (show 0 < 46 by omega) (v := .int x_2) e_3 ?_
  refine g_constI act (gx gp_243 (w := 0x40000000c00000009000000000901) rfl (by decide) rfl) (n := 9) (x := (1 : Int32)) (by decide) rfl ?_
  refine g_isub act (gx gp_243 (w := 0xa26) rfl (by decide) rfl) (n := 10) rfl ?_
  have v_5 := iv_sub hx_4 (show (1 : Int32).toInt = ((1 : Nat) : Int) from by decide) (show -2147483648 ≤ ((fv 0) - ((1 : Nat) : Int)) by omega) (show ((fv 0) - ((1 : Nat) : Int)) < 2147483648 by omega)
  refine n_call tb_pres act hEnd (gx (P := G_call) gp_243 (w := 0xa000000000000c18330000f4000d0f) rfl (by decide) rfl) (d' := D_244) rfl (as := [.ref 124, .int (0 : Int32), .int (x_2 - (1 : Int32))]) (rest := []) (br_number (show PSt hs tx L A b from ⟨rw_1, hT_1, ⟨_, e10_1, hL_1⟩, ⟨_, e11_1, hA_1⟩, ⟨_, e14_1, hb_1⟩, ⟨_, e12_1⟩, ⟨_, e13_1⟩, ⟨_, e15_1⟩, by omega, by omega, by omega, by omega, by omega, by omega⟩) (show (0 : Int32).toInt = ((0 : Nat) : Int) from by decide) v_5 (by omega)) (show (3 : Nat) = fb 0xa000000000000c18330000f4000d0f % 16 by decide) (by show (3 : Nat) ≤ 6; decide) (fun _ => ⟨_, _, rfl, _, shp_at rw_1.1, Or.inr (show fb 0xa000000000000c18330000f4000d0f >>> 68 = 10 by decide)⟩) (by omega) (by show 8 + (6 + 11) + 22 ≤ R.locals; omega) (by show (0 : Nat) ≤ 8; decide) (by show kc + 0 ≤ _; omega) (by show ks + 0 ≤ _; omega) (fun r9 hs_c6 hpo hr9 => ?_) (fun x9 hs9 hx9 hpo => ?_)
  · obtain ⟨-, A_c6, b_c6, rv_c6, rfl, hP_c6, fr_c6, q7_c6, q8_c6, q9_c6, q10_c6, q11_c6⟩ := hpo
    try replace q8_c6 := q8_c6 (by omega)
    have rw_7 := rw_1.fr fr_c6 WP_rw
    have f_8 := hT_1.fr (fun j9 _ => fr_c6.2.2 130 j9 (by unfold WP; omega))
    have f_9 := rd_fr fr_c6 e10_1 (by unfold WP; omega)
    have f_10 := hF.fr (fun j9 _ => fr_c6.2.2 126 j9 (by unfold WP; omega))
    have fr_11 := hfr0.tr fr_c6
    obtain ⟨-, -, -, ⟨A9_c6, e11_c6, hA_c6⟩, ⟨b9_c6, e14_c6, hb_c6⟩, ⟨c9_c6, e12_c6⟩, ⟨d9_c6, e13_c6⟩, ⟨f9_c6, e15_c6⟩, -, -, q3_c6, q4_c6, q5_c6, q6_c6⟩ := hP_c6
    clear rw_1 hT_1 e10_1 e11_1 e14_1 e12_1 e13_1 e15_1 hF hfr0
    show WpN (gp g0 wp) CLS p l e R s m args below meth c Q D_243.2.2.1 kc0 ks0 13 [some (.ref 124)] (hs_c6, kc, ks) [.int rv_c6]
    exact g_retI hEnd (gx gp_243 (w := 0x2f) rfl (by decide) rfl) ⟨rfl, A_c6, b_c6, _, rfl, (show PSt hs_c6 tx L A_c6 b_c6 from ⟨rw_7, f_8, ⟨_, f_9, hL_1⟩, ⟨_, e11_c6, hA_c6⟩, ⟨_, e14_c6, hb_c6⟩, ⟨_, e12_c6⟩, ⟨_, e13_c6⟩, ⟨_, e15_c6⟩, by omega, by omega, by omega, by omega, by omega, by omega⟩), fr_11, by omega, by omega, by omega, by omega, by omega⟩ hk1 hk2
  · exact absurd hpo.1 (by omega)

theorem br_other {zi : Int32} {z9 : Int} {fv : Nat → Int} (hP : PSt hs tx L A b) (hF : IArr hs 126 46 fv) (hzi : zi.toInt = z9) (h2 : 1 ≤ fv 0) (h4 : fv 0 ≤ 6) : BodyN SSX TBL g0 CLS bl xs l D_245 3 67 0 0 [.ref 124, .int zi] hs (fun kd r h2 => kd = 0 ∧ ∃ (A2 b2 : Int) (x : Int32), r = some (.int x) ∧ PSt h2 tx L A2 b2 ∧ FrS WP hs h2 ∧ A ≤ A2 ∧ (A ≤ L → A2 ≤ L) ∧ b ≤ b2 ∧ 0 ≤ x.toInt ∧ x.toInt ≤ fv 0 - 1 ∧ NE9 b2 x.toInt z9) := by
  intro wp p e R s m args below meth c Q kc0 ks0 kc ks act hf hl hc hsl hEnd
  have hf : 3 ≤ R.frames := hf
  have hl : 67 ≤ R.locals := hl
  have hk1 : kc ≤ kc + 0 := by omega
  have hk2 : ks ≤ ks + 0 := by omega
  obtain ⟨rw_1, hT_1, ⟨L9_1, e10_1, hL_1⟩, ⟨A9_1, e11_1, hA_1⟩, ⟨b9_1, e14_1, hb_1⟩, ⟨c9_1, e12_1⟩, ⟨d9_1, e13_1⟩, ⟨f9_1, e15_1⟩, q1_1, q2_1, q3_1, q4_1, q5_1, q6_1⟩ := hP
  have hfr0 := FrS.rf WP hs
  show WpN (gp g0 wp) CLS p l e R s m args below meth c Q D_245.2.2.1 kc0 ks0 0 [some (.ref 124), some (.int zi), none] (hs, kc, ks) []
  refine g_loadA act (gx gp_245 (w := 0x103) rfl (by decide) rfl) (a := 0) (n := 1) rfl rfl rfl ?_
  refine n_call tb_pres act hEnd (gx (P := G_call) gp_245 (w := 0xa000000000000c04110000f300040f) rfl (by decide) rfl) (d' := D_243) rfl (as := [.ref 124]) (rest := []) (br_node (show PSt hs tx L A b from ⟨rw_1, hT_1, ⟨_, e10_1, hL_1⟩, ⟨_, e11_1, hA_1⟩, ⟨_, e14_1, hb_1⟩, ⟨_, e12_1⟩, ⟨_, e13_1⟩, ⟨_, e15_1⟩, by omega, by omega, by omega, by omega, by omega, by omega⟩) hF (by omega) (by omega)) (show (1 : Nat) = fb 0xa000000000000c04110000f300040f % 16 by decide) (by show (1 : Nat) ≤ 1; decide) (fun _ => ⟨_, _, rfl, _, shp_at rw_1.1, Or.inr (show fb 0xa000000000000c04110000f300040f >>> 68 = 10 by decide)⟩) (by omega) (by show 8 + (1 + 11) + 47 ≤ R.locals; omega) (by show (0 : Nat) ≤ 8; decide) (by show kc + 0 ≤ _; omega) (by show ks + 0 ≤ _; omega) (fun r9 hs_c2 hpo hr9 => ?_) (fun x9 hs9 hx9 hpo => ?_)
  · obtain ⟨-, A_c2, b_c2, rv_c2, rfl, hP_c2, fr_c2, q7_c2, q8_c2, q9_c2, q10_c2, q11_c2⟩ := hpo
    try replace q8_c2 := q8_c2 (by omega)
    have rw_3 := rw_1.fr fr_c2 WP_rw
    have f_4 := hT_1.fr (fun j9 _ => fr_c2.2.2 130 j9 (by unfold WP; omega))
    have f_5 := rd_fr fr_c2 e10_1 (by unfold WP; omega)
    have f_6 := hF.fr (fun j9 _ => fr_c2.2.2 126 j9 (by unfold WP; omega))
    have fr_7 := hfr0.tr fr_c2
    obtain ⟨-, -, -, ⟨A9_c2, e11_c2, hA_c2⟩, ⟨b9_c2, e14_c2, hb_c2⟩, ⟨c9_c2, e12_c2⟩, ⟨d9_c2, e13_c2⟩, ⟨f9_c2, e15_c2⟩, -, -, q3_c2, q4_c2, q5_c2, q6_c2⟩ := hP_c2
    clear rw_1 hT_1 e10_1 e11_1 e14_1 e12_1 e13_1 e15_1 hF hfr0
    show WpN (gp g0 wp) CLS p l e R s m args below meth c Q D_245.2.2.1 kc0 ks0 4 [some (.ref 124), some (.int zi), none] (hs_c2, kc, ks) [.int rv_c2]
    refine g_storeI act (gx gp_245 (w := 0x2000510) rfl (by decide) rfl) (a := 2) (n := 5) rfl rfl (L2 := [some (.ref 124), some (.int zi), some (.int rv_c2)]) rfl ?_
    refine g_loadA act (gx gp_245 (w := 0x603) rfl (by decide) rfl) (a := 0) (n := 6) rfl rfl rfl ?_
    refine r_getf act (gx gp_245 (w := 0x1000389000904) rfl (by decide) rfl) (n := 9) (ci := 9) (j := 14) (N := 39) rfl rfl rfl rw_3.1 (by decide) (v := .int b9_c2) e14_c2 ?_
    refine g_ifNe act (gx gp_245 (w := 0x1a000c1d) rfl (by decide) rfl) (tgt := 26) (n := 12) rfl rfl (fun h4 => ?_) (fun h4 => ?_)
    · simp only [i_eq, i0] at h4
      refine g_loadI act (gx gp_245 (w := 0x2001b02) rfl (by decide) rfl) (a := 2) (n := 27) rfl rfl rfl ?_
      exact g_retI hEnd (gx gp_245 (w := 0x2f) rfl (by decide) rfl) ⟨rfl, A_c2, b_c2, _, rfl, (show PSt hs_c2 tx L A_c2 b_c2 from ⟨rw_3, f_4, ⟨_, f_5, hL_1⟩, ⟨_, e11_c2, hA_c2⟩, ⟨_, e14_c2, hb_c2⟩, ⟨_, e12_c2⟩, ⟨_, e13_c2⟩, ⟨_, e15_c2⟩, by omega, by omega, by omega, by omega, by omega, by omega⟩), fr_7, by omega, by omega, by omega, by omega, by omega, fun q => by omega⟩ hk1 hk2
    · simp only [i_eq, i0] at h4
      refine g_loadI act (gx gp_245 (w := 0x2000d02) rfl (by decide) rfl) (a := 2) (n := 13) rfl rfl rfl ?_
      refine g_loadI act (gx gp_245 (w := 0x1000e02) rfl (by decide) rfl) (a := 1) (n := 14) rfl rfl rfl ?_
      refine g_icmpNe act (gx gp_245 (w := 0x1a001121) rfl (by decide) rfl) (tgt := 26) (n := 17) rfl rfl (fun h8 => ?_) (fun h8 => ?_)
      · simp only [i_eq] at h8
        refine g_loadI act (gx gp_245 (w := 0x2001b02) rfl (by decide) rfl) (a := 2) (n := 27) rfl rfl rfl ?_
        exact g_retI hEnd (gx gp_245 (w := 0x2f) rfl (by decide) rfl) ⟨rfl, A_c2, b_c2, _, rfl, (show PSt hs_c2 tx L A_c2 b_c2 from ⟨rw_3, f_4, ⟨_, f_5, hL_1⟩, ⟨_, e11_c2, hA_c2⟩, ⟨_, e14_c2, hb_c2⟩, ⟨_, e12_c2⟩, ⟨_, e13_c2⟩, ⟨_, e15_c2⟩, by omega, by omega, by omega, by omega, by omega, by omega⟩), fr_7, by omega, by omega, by omega, by omega, by omega, fun q => by omega⟩ hk1 hk2
      · simp only [i_eq] at h8
        refine g_loadA act (gx gp_245 (w := 0x1203) rfl (by decide) rfl) (a := 0) (n := 18) rfl rfl rfl ?_
        refine g_constI act (gx gp_245 (w := 0x40000001400000011000000001301) rfl (by decide) rfl) (n := 19) (x := (2 : Int32)) (by decide) rfl ?_
        refine g_loadA act (gx gp_245 (w := 0x1403) rfl (by decide) rfl) (a := 0) (n := 20) rfl rfl rfl ?_
        refine r_getf act (gx gp_245 (w := 0x3c9001704) rfl (by decide) rfl) (n := 23) (ci := 9) (j := 15) (N := 39) rfl rfl rfl rw_3.1 (by decide) (v := .int f9_c2) e15_c2 ?_
        refine n_call tb_pres act hEnd (gx (P := G_call) gp_245 (w := 0xa00000000000080c33000121001a0f) rfl (by decide) rfl) (d' := D_289) rfl (as := [.ref 124, .int (2 : Int32), .int f9_c2]) (rest := []) (br_wrong (show PSt hs_c2 tx L A_c2 b_c2 from ⟨rw_3, f_4, ⟨_, f_5, hL_1⟩, ⟨_, e11_c2, hA_c2⟩, ⟨_, e14_c2, hb_c2⟩, ⟨_, e12_c2⟩, ⟨_, e13_c2⟩, ⟨_, e15_c2⟩, by omega, by omega, by omega, by omega, by omega, by omega⟩)) (show (3 : Nat) = fb 0xa00000000000080c33000121001a0f % 16 by decide) (by show (3 : Nat) ≤ 3; decide) (fun _ => ⟨_, _, rfl, _, shp_at rw_3.1, Or.inr (show fb 0xa00000000000080c33000121001a0f >>> 68 = 10 by decide)⟩) (by omega) (by show 8 + (3 + 11) + 0 ≤ R.locals; omega) (by show (0 : Nat) ≤ 8; decide) (by show kc + 0 ≤ _; omega) (by show ks + 0 ≤ _; omega) (fun r9 hs_c8 hpo hr9 => ?_) (fun x9 hs9 hx9 hpo => ?_)
        · obtain rfl : r9 = none := hr9.elim (fun q => q.2) (fun q => absurd rfl q.1)
          obtain ⟨-, b_c8, hP_c8, fr_c8, qb_c8⟩ := hpo
          obtain ⟨A_c8, qA_c8⟩ : ∃ z : Int, z = A_c2 := ⟨_, rfl⟩
          rw [← qA_c8] at hP_c8
          have rw_9 := rw_3.fr fr_c8 WP_rw
          have f_10 := f_4.fr (fun j9 _ => fr_c8.2.2 130 j9 (by unfold WP; omega))
          have f_11 := rd_fr fr_c8 f_5 (by unfold WP; omega)
          have f_12 := f_6.fr (fun j9 _ => fr_c8.2.2 126 j9 (by unfold WP; omega))
          have fr_13 := fr_7.tr fr_c8
          obtain ⟨-, -, -, ⟨A9_c8, e11_c8, hA_c8⟩, ⟨b9_c8, e14_c8, hb_c8⟩, ⟨c9_c8, e12_c8⟩, ⟨d9_c8, e13_c8⟩, ⟨f9_c8, e15_c8⟩, -, -, q3_c8, q4_c8, q5_c8, q6_c8⟩ := hP_c8
          clear rw_3 f_4 f_5 f_6 e11_c2 e14_c2 e12_c2 e13_c2 e15_c2 fr_7
          show WpN (gp g0 wp) CLS p l e R s m args below meth c Q D_245.2.2.1 kc0 ks0 26 [some (.ref 124), some (.int zi), some (.int rv_c2)] (hs_c8, kc, ks) []
          refine g_loadI act (gx gp_245 (w := 0x2001b02) rfl (by decide) rfl) (a := 2) (n := 27) rfl rfl rfl ?_
          exact g_retI hEnd (gx gp_245 (w := 0x2f) rfl (by decide) rfl) ⟨rfl, A_c8, b_c8, _, rfl, (show PSt hs_c8 tx L A_c8 b_c8 from ⟨rw_9, f_10, ⟨_, f_11, hL_1⟩, ⟨_, e11_c8, hA_c8⟩, ⟨_, e14_c8, hb_c8⟩, ⟨_, e12_c8⟩, ⟨_, e13_c8⟩, ⟨_, e15_c8⟩, by omega, by omega, by omega, by omega, by omega, by omega⟩), fr_13, by omega, by omega, by omega, by omega, by omega, fun q => by omega⟩ hk1 hk2
        · exact absurd hpo.1 (by omega)
  · exact absurd hpo.1 (by omega)

theorem br_end (hP : PSt hs tx L A b) (hAL : A ≤ L) : BodyN SSX TBL g0 CLS bl xs l D_201 1 22 0 0 [.ref 124] hs (fun kd r h2 => kd = 0 ∧ r = none ∧ ∃ A2 b2 : Int, PSt h2 tx L A2 b2 ∧ FrS WP hs h2 ∧ A ≤ A2 ∧ b ≤ b2) := by
  intro wp p e R s m args below meth c Q kc0 ks0 kc ks act hf hl hc hsl hEnd
  have hf : 1 ≤ R.frames := hf
  have hl : 22 ≤ R.locals := hl
  have hk1 : kc ≤ kc + 0 := by omega
  have hk2 : ks ≤ ks + 0 := by omega
  obtain ⟨rw_1, hT_1, ⟨L9_1, e10_1, hL_1⟩, ⟨A9_1, e11_1, hA_1⟩, ⟨b9_1, e14_1, hb_1⟩, ⟨c9_1, e12_1⟩, ⟨d9_1, e13_1⟩, ⟨f9_1, e15_1⟩, q1_1, q2_1, q3_1, q4_1, q5_1, q6_1⟩ := hP
  have hfr0 := FrS.rf WP hs
  show WpN (gp g0 wp) CLS p l e R s m args below meth c Q D_201.2.2.1 kc0 ks0 0 [some (.ref 124)] (hs, kc, ks) []
  refine g_loadA act (gx gp_201 (w := 0x103) rfl (by decide) rfl) (a := 0) (n := 1) rfl rfl rfl ?_
  refine r_getf act (gx gp_201 (w := 0x1000389000404) rfl (by decide) rfl) (n := 4) (ci := 9) (j := 14) (N := 39) rfl rfl rfl rw_1.1 (by decide) (v := .int b9_1) e14_1 ?_
  refine g_ifNe act (gx gp_201 (w := 0x1900071d) rfl (by decide) rfl) (tgt := 25) (n := 7) rfl rfl (fun h2 => ?_) (fun h2 => ?_)
  · simp only [i_eq, i0] at h2
    refine g_loadA act (gx gp_201 (w := 0x1a03) rfl (by decide) rfl) (a := 0) (n := 26) rfl rfl rfl ?_
    refine g_dup act (gx gp_201 (w := 0x1b22) rfl (by decide) rfl) (n := 27) rfl rfl ?_
    refine r_getf act (gx gp_201 (w := 0x2c9001e04) rfl (by decide) rfl) (n := 30) (ci := 9) (j := 11) (N := 39) rfl rfl rfl rw_1.1 (by decide) (v := .int A9_1) e11_1 ?_
    refine g_constI act (gx gp_201 (w := 0x40000000c00000009000000001f01) rfl (by decide) rfl) (n := 31) (x := (1 : Int32)) (by decide) rfl ?_
    refine g_iadd act (gx gp_201 (w := 0x200a) rfl (by decide) rfl) (n := 32) rfl ?_
    have v_2 := iv_add hA_1 (show (1 : Int32).toInt = ((1 : Nat) : Int) from by decide) (show -2147483648 ≤ (A + ((1 : Nat) : Int)) by omega) (show (A + ((1 : Nat) : Int)) < 2147483648 by omega)
    refine r_putf act (gx gp_201 (w := 0x2c9002313) rfl (by decide) rfl) (n := 35) (ci := 9) (j := 11) (N := 39) rfl rfl rfl rw_1.1 (by decide) (Or.inl ⟨rfl, _, rfl⟩) ?_
    have rw_3 := RW.wr (k := 124) (j := 11) (v := .int (A9_1 + (1 : Int32))) rw_1 (Or.inr (by decide))
    have f_4 := hT_1.ne (k := 124) (j := 11) (v := .int (A9_1 + (1 : Int32))) (by decide)
    have f_5 := (rd_ne hs (k := 124) (j := 11) (.int (A9_1 + (1 : Int32))) (Or.inr (by decide))).trans e10_1
    have f_7 := (rd_ne hs (k := 124) (j := 11) (.int (A9_1 + (1 : Int32))) (Or.inr (by decide))).trans e14_1
    have f_8 := (rd_ne hs (k := 124) (j := 11) (.int (A9_1 + (1 : Int32))) (Or.inr (by decide))).trans e12_1
    have f_9 := (rd_ne hs (k := 124) (j := 11) (.int (A9_1 + (1 : Int32))) (Or.inr (by decide))).trans e13_1
    have f_10 := (rd_ne hs (k := 124) (j := 11) (.int (A9_1 + (1 : Int32))) (Or.inr (by decide))).trans e15_1
    have f_11 := rd_same (j := 11) (v := .int (A9_1 + (1 : Int32))) rw_1.1
    have fr_12 := hfr0.wr (k := 124) (j := 11) (.int (A9_1 + (1 : Int32))) (by unfold WP; omega)
    clear rw_1 hfr0 hT_1 e10_1 e11_1 e14_1 e12_1 e13_1 e15_1
    generalize (wr hs 124 11 (.int (A9_1 + (1 : Int32)))) = hs_13 at *
    exact g_retV hEnd (gx gp_201 (w := 0x18) rfl (by decide) rfl) ⟨rfl, rfl, (A + ((1 : Nat) : Int)), b, (show PSt hs_13 tx L (A + ((1 : Nat) : Int)) b from ⟨rw_3, f_4, ⟨_, f_5, hL_1⟩, ⟨_, f_11, v_2⟩, ⟨_, f_7, hb_1⟩, ⟨_, f_8⟩, ⟨_, f_9⟩, ⟨_, f_10⟩, by omega, by omega, by omega, by omega, by omega, by omega⟩), fr_12, by omega, by omega⟩ hk1 hk2
  · simp only [i_eq, i0] at h2
    refine g_loadA act (gx gp_201 (w := 0x803) rfl (by decide) rfl) (a := 0) (n := 8) rfl rfl rfl ?_
    refine n_call tb_pres act hEnd (gx (P := G_call) gp_201 (w := 0xa000000000000c04110000d8000b0f) rfl (by decide) rfl) (d' := D_216) rfl (as := [.ref 124]) (rest := []) (br_here (show PSt hs tx L A b from ⟨rw_1, hT_1, ⟨_, e10_1, hL_1⟩, ⟨_, e11_1, hA_1⟩, ⟨_, e14_1, hb_1⟩, ⟨_, e12_1⟩, ⟨_, e13_1⟩, ⟨_, e15_1⟩, by omega, by omega, by omega, by omega, by omega, by omega⟩)) (show (1 : Nat) = fb 0xa000000000000c04110000d8000b0f % 16 by decide) (by show (1 : Nat) ≤ 1; decide) (fun _ => ⟨_, _, rfl, _, shp_at rw_1.1, Or.inr (show fb 0xa000000000000c04110000d8000b0f >>> 68 = 10 by decide)⟩) (by omega) (by show 8 + (1 + 11) + 0 ≤ R.locals; omega) (by show (0 : Nat) ≤ 8; decide) (by show kc + 0 ≤ _; omega) (by show ks + 0 ≤ _; omega) (fun r9 hs_c14 hpo hr9 => ?_) (fun x9 hs9 hx9 hpo => ?_)
    · obtain ⟨-, A_c14, rv_c14, rfl, hP_c14, fr_c14, q7_c14, q8_c14, q9_c14⟩ := hpo
      try replace q8_c14 := q8_c14 (by omega)
      have rw_15 := rw_1.fr fr_c14 WP_rw
      have f_16 := hT_1.fr (fun j9 _ => fr_c14.2.2 130 j9 (by unfold WP; omega))
      have f_17 := rd_fr fr_c14 e10_1 (by unfold WP; omega)
      have fr_18 := hfr0.tr fr_c14
      obtain ⟨-, -, -, ⟨A9_c14, e11_c14, hA_c14⟩, ⟨b9_c14, e14_c14, hb_c14⟩, ⟨c9_c14, e12_c14⟩, ⟨d9_c14, e13_c14⟩, ⟨f9_c14, e15_c14⟩, -, -, q3_c14, q4_c14, q5_c14, q6_c14⟩ := hP_c14
      clear rw_1 hT_1 e10_1 e11_1 e14_1 e12_1 e13_1 e15_1 hfr0
      show WpN (gp g0 wp) CLS p l e R s m args below meth c Q D_201.2.2.1 kc0 ks0 11 [some (.ref 124)] (hs_c14, kc, ks) [.int rv_c14]
      refine g_constI act (gx gp_201 (w := 0x4000001dc000001d9000000000d01) rfl (by decide) rfl) (n := 13) (x := (59 : Int32)) (by decide) rfl ?_
      refine g_icmpEq act (gx gp_201 (w := 0x1900102e) rfl (by decide) rfl) (tgt := 25) (n := 16) rfl rfl (fun h8 => ?_) (fun h8 => ?_)
      · simp only [i_eq, show (59 : Int32).toInt = 59 from by decide] at h8
        refine g_loadA act (gx gp_201 (w := 0x1a03) rfl (by decide) rfl) (a := 0) (n := 26) rfl rfl rfl ?_
        refine g_dup act (gx gp_201 (w := 0x1b22) rfl (by decide) rfl) (n := 27) rfl rfl ?_
        refine r_getf act (gx gp_201 (w := 0x2c9001e04) rfl (by decide) rfl) (n := 30) (ci := 9) (j := 11) (N := 39) rfl rfl rfl rw_15.1 (by decide) (v := .int A9_c14) e11_c14 ?_
        refine g_constI act (gx gp_201 (w := 0x40000000c00000009000000001f01) rfl (by decide) rfl) (n := 31) (x := (1 : Int32)) (by decide) rfl ?_
        refine g_iadd act (gx gp_201 (w := 0x200a) rfl (by decide) rfl) (n := 32) rfl ?_
        have v_19 := iv_add hA_c14 (show (1 : Int32).toInt = ((1 : Nat) : Int) from by decide) (show -2147483648 ≤ (A_c14 + ((1 : Nat) : Int)) by omega) (show (A_c14 + ((1 : Nat) : Int)) < 2147483648 by omega)
        refine r_putf act (gx gp_201 (w := 0x2c9002313) rfl (by decide) rfl) (n := 35) (ci := 9) (j := 11) (N := 39) rfl rfl rfl rw_15.1 (by decide) (Or.inl ⟨rfl, _, rfl⟩) ?_
        have rw_20 := RW.wr (k := 124) (j := 11) (v := .int (A9_c14 + (1 : Int32))) rw_15 (Or.inr (by decide))
        have f_21 := f_16.ne (k := 124) (j := 11) (v := .int (A9_c14 + (1 : Int32))) (by decide)
        have f_22 := (rd_ne hs_c14 (k := 124) (j := 11) (.int (A9_c14 + (1 : Int32))) (Or.inr (by decide))).trans f_17
        have f_24 := (rd_ne hs_c14 (k := 124) (j := 11) (.int (A9_c14 + (1 : Int32))) (Or.inr (by decide))).trans e14_c14
        have f_25 := (rd_ne hs_c14 (k := 124) (j := 11) (.int (A9_c14 + (1 : Int32))) (Or.inr (by decide))).trans e12_c14
        have f_26 := (rd_ne hs_c14 (k := 124) (j := 11) (.int (A9_c14 + (1 : Int32))) (Or.inr (by decide))).trans e13_c14
        have f_27 := (rd_ne hs_c14 (k := 124) (j := 11) (.int (A9_c14 + (1 : Int32))) (Or.inr (by decide))).trans e15_c14
        have f_28 := rd_same (j := 11) (v := .int (A9_c14 + (1 : Int32))) rw_15.1
        have fr_29 := fr_18.wr (k := 124) (j := 11) (.int (A9_c14 + (1 : Int32))) (by unfold WP; omega)
        clear rw_15 fr_18 f_16 f_17 e11_c14 e14_c14 e12_c14 e13_c14 e15_c14
        generalize (wr hs_c14 124 11 (.int (A9_c14 + (1 : Int32)))) = hs_30 at *
        exact g_retV hEnd (gx gp_201 (w := 0x18) rfl (by decide) rfl) ⟨rfl, rfl, (A_c14 + ((1 : Nat) : Int)), b, (show PSt hs_30 tx L (A_c14 + ((1 : Nat) : Int)) b from ⟨rw_20, f_21, ⟨_, f_22, hL_1⟩, ⟨_, f_28, v_19⟩, ⟨_, f_24, hb_c14⟩, ⟨_, f_25⟩, ⟨_, f_26⟩, ⟨_, f_27⟩, by omega, by omega, by omega, by omega, by omega, by omega⟩), fr_29, by omega, by omega⟩ hk1 hk2
      · simp only [i_eq, show (59 : Int32).toInt = 59 from by decide] at h8
        refine g_loadA act (gx gp_201 (w := 0x1103) rfl (by decide) rfl) (a := 0) (n := 17) rfl rfl rfl ?_
        refine g_constI act (gx gp_201 (w := 0x40000000c00000009000000001201) rfl (by decide) rfl) (n := 18) (x := (1 : Int32)) (by decide) rfl ?_
        refine g_loadA act (gx gp_201 (w := 0x1303) rfl (by decide) rfl) (a := 0) (n := 19) rfl rfl rfl ?_
        refine r_getf act (gx gp_201 (w := 0x2c9001604) rfl (by decide) rfl) (n := 22) (ci := 9) (j := 11) (N := 39) rfl rfl rfl rw_15.1 (by decide) (v := .int A9_c14) e11_c14 ?_
        refine n_call tb_pres act hEnd (gx (P := G_call) gp_201 (w := 0xa00000000000080c3300012100190f) rfl (by decide) rfl) (d' := D_289) rfl (as := [.ref 124, .int (1 : Int32), .int A9_c14]) (rest := []) (br_wrong (show PSt hs_c14 tx L A_c14 b from ⟨rw_15, f_16, ⟨_, f_17, hL_1⟩, ⟨_, e11_c14, hA_c14⟩, ⟨_, e14_c14, hb_c14⟩, ⟨_, e12_c14⟩, ⟨_, e13_c14⟩, ⟨_, e15_c14⟩, by omega, by omega, by omega, by omega, by omega, by omega⟩)) (show (3 : Nat) = fb 0xa00000000000080c3300012100190f % 16 by decide) (by show (3 : Nat) ≤ 3; decide) (fun _ => ⟨_, _, rfl, _, shp_at rw_15.1, Or.inr (show fb 0xa00000000000080c3300012100190f >>> 68 = 10 by decide)⟩) (by omega) (by show 8 + (3 + 11) + 0 ≤ R.locals; omega) (by show (0 : Nat) ≤ 8; decide) (by show kc + 0 ≤ _; omega) (by show ks + 0 ≤ _; omega) (fun r9 hs_c31 hpo hr9 => ?_) (fun x9 hs9 hx9 hpo => ?_)
        · obtain rfl : r9 = none := hr9.elim (fun q => q.2) (fun q => absurd rfl q.1)
          obtain ⟨-, b_c31, hP_c31, fr_c31, qb_c31⟩ := hpo
          obtain ⟨A_c31, qA_c31⟩ : ∃ z : Int, z = A_c14 := ⟨_, rfl⟩
          rw [← qA_c31] at hP_c31
          have rw_32 := rw_15.fr fr_c31 WP_rw
          have f_33 := f_16.fr (fun j9 _ => fr_c31.2.2 130 j9 (by unfold WP; omega))
          have f_34 := rd_fr fr_c31 f_17 (by unfold WP; omega)
          have fr_35 := fr_18.tr fr_c31
          obtain ⟨-, -, -, ⟨A9_c31, e11_c31, hA_c31⟩, ⟨b9_c31, e14_c31, hb_c31⟩, ⟨c9_c31, e12_c31⟩, ⟨d9_c31, e13_c31⟩, ⟨f9_c31, e15_c31⟩, -, -, q3_c31, q4_c31, q5_c31, q6_c31⟩ := hP_c31
          clear rw_15 f_16 f_17 e11_c14 e14_c14 e12_c14 e13_c14 e15_c14 fr_18
          show WpN (gp g0 wp) CLS p l e R s m args below meth c Q D_201.2.2.1 kc0 ks0 25 [some (.ref 124)] (hs_c31, kc, ks) []
          refine g_loadA act (gx gp_201 (w := 0x1a03) rfl (by decide) rfl) (a := 0) (n := 26) rfl rfl rfl ?_
          refine g_dup act (gx gp_201 (w := 0x1b22) rfl (by decide) rfl) (n := 27) rfl rfl ?_
          refine r_getf act (gx gp_201 (w := 0x2c9001e04) rfl (by decide) rfl) (n := 30) (ci := 9) (j := 11) (N := 39) rfl rfl rfl rw_32.1 (by decide) (v := .int A9_c31) e11_c31 ?_
          refine g_constI act (gx gp_201 (w := 0x40000000c00000009000000001f01) rfl (by decide) rfl) (n := 31) (x := (1 : Int32)) (by decide) rfl ?_
          refine g_iadd act (gx gp_201 (w := 0x200a) rfl (by decide) rfl) (n := 32) rfl ?_
          have v_36 := iv_add hA_c31 (show (1 : Int32).toInt = ((1 : Nat) : Int) from by decide) (show -2147483648 ≤ (A_c31 + ((1 : Nat) : Int)) by omega) (show (A_c31 + ((1 : Nat) : Int)) < 2147483648 by omega)
          refine r_putf act (gx gp_201 (w := 0x2c9002313) rfl (by decide) rfl) (n := 35) (ci := 9) (j := 11) (N := 39) rfl rfl rfl rw_32.1 (by decide) (Or.inl ⟨rfl, _, rfl⟩) ?_
          have rw_37 := RW.wr (k := 124) (j := 11) (v := .int (A9_c31 + (1 : Int32))) rw_32 (Or.inr (by decide))
          have f_38 := f_33.ne (k := 124) (j := 11) (v := .int (A9_c31 + (1 : Int32))) (by decide)
          have f_39 := (rd_ne hs_c31 (k := 124) (j := 11) (.int (A9_c31 + (1 : Int32))) (Or.inr (by decide))).trans f_34
          have f_41 := (rd_ne hs_c31 (k := 124) (j := 11) (.int (A9_c31 + (1 : Int32))) (Or.inr (by decide))).trans e14_c31
          have f_42 := (rd_ne hs_c31 (k := 124) (j := 11) (.int (A9_c31 + (1 : Int32))) (Or.inr (by decide))).trans e12_c31
          have f_43 := (rd_ne hs_c31 (k := 124) (j := 11) (.int (A9_c31 + (1 : Int32))) (Or.inr (by decide))).trans e13_c31
          have f_44 := (rd_ne hs_c31 (k := 124) (j := 11) (.int (A9_c31 + (1 : Int32))) (Or.inr (by decide))).trans e15_c31
          have f_45 := rd_same (j := 11) (v := .int (A9_c31 + (1 : Int32))) rw_32.1
          have fr_46 := fr_35.wr (k := 124) (j := 11) (.int (A9_c31 + (1 : Int32))) (by unfold WP; omega)
          clear rw_32 fr_35 f_33 f_34 e11_c31 e14_c31 e12_c31 e13_c31 e15_c31
          generalize (wr hs_c31 124 11 (.int (A9_c31 + (1 : Int32)))) = hs_47 at *
          exact g_retV hEnd (gx gp_201 (w := 0x18) rfl (by decide) rfl) ⟨rfl, rfl, (A_c31 + ((1 : Nat) : Int)), b_c31, (show PSt hs_47 tx L (A_c31 + ((1 : Nat) : Int)) b_c31 from ⟨rw_37, f_38, ⟨_, f_39, hL_1⟩, ⟨_, f_45, v_36⟩, ⟨_, f_41, hb_c31⟩, ⟨_, f_42⟩, ⟨_, f_43⟩, ⟨_, f_44⟩, by omega, by omega, by omega, by omega, by omega, by omega⟩), fr_46, by omega, by omega⟩ hk1 hk2
        · exact absurd hpo.1 (by omega)
    · exact absurd hpo.1 (by omega)

theorem br_adds {n9 : Int64} {ci mi : Int32} {c9 : Nat} {m9 : Int} {fv : Nat → Int} (hP : PSt hs tx L A b) (hF : IArr hs 126 46 fv) (hci : ci.toInt = (c9 : Int)) (hc46 : c9 < 46) (hmi : mi.toInt = m9) : BodyN SSX TBL g0 CLS bl xs l D_176 3 67 0 0 [.ref 124, .long n9, .int ci, .int mi] hs (fun kd r h2 => kd = 0 ∧ ∃ (A2 b2 : Int) (x : Int32), r = some (.int x) ∧ PSt h2 tx L A2 b2 ∧ FrS WP hs h2 ∧ A ≤ A2 ∧ (A ≤ L → A2 ≤ L) ∧ b ≤ b2 ∧ (x.toInt = 0 ∨ (x.toInt = 1 ∧ b2 = 0 ∧ fv c9 ≠ m9 ∧ A2 ≤ L))) := by
  intro wp p e R s m args below meth c Q kc0 ks0 kc ks act hf hl hc hsl hEnd
  have hf : 3 ≤ R.frames := hf
  have hl : 67 ≤ R.locals := hl
  have hk1 : kc ≤ kc + 0 := by omega
  have hk2 : ks ≤ ks + 0 := by omega
  obtain ⟨rw_1, hT_1, ⟨L9_1, e10_1, hL_1⟩, ⟨A9_1, e11_1, hA_1⟩, ⟨b9_1, e14_1, hb_1⟩, ⟨c9_1, e12_1⟩, ⟨d9_1, e13_1⟩, ⟨f9_1, e15_1⟩, q1_1, q2_1, q3_1, q4_1, q5_1, q6_1⟩ := hP
  have hfr0 := FrS.rf WP hs
  show WpN (gp g0 wp) CLS p l e R s m args below meth c Q D_176.2.2.1 kc0 ks0 0 [some (.ref 124), some (.long n9), none, some (.int ci), some (.int mi)] (hs, kc, ks) []
  refine g_loadA act (gx gp_176 (w := 0x103) rfl (by decide) rfl) (a := 0) (n := 1) rfl rfl rfl ?_
  refine r_getf act (gx gp_176 (w := 0x1000389000404) rfl (by decide) rfl) (n := 4) (ci := 9) (j := 14) (N := 39) rfl rfl rfl rw_1.1 (by decide) (v := .int b9_1) e14_1 ?_
  refine g_ifNe act (gx gp_176 (w := 0x1000071d) rfl (by decide) rfl) (tgt := 16) (n := 7) rfl rfl (fun h2 => ?_) (fun h2 => ?_)
  · simp only [i_eq, i0] at h2
    refine g_constI act (gx gp_176 (w := 0x40000000400000001000000001101) rfl (by decide) rfl) (n := 17) (x := (0 : Int32)) (by decide) rfl ?_
    exact g_retZ hEnd (gx gp_176 (w := 0x23) rfl (by decide) rfl) (Or.inl rfl) ⟨rfl, A, b, _, rfl, (show PSt hs tx L A b from ⟨rw_1, hT_1, ⟨_, e10_1, hL_1⟩, ⟨_, e11_1, hA_1⟩, ⟨_, e14_1, hb_1⟩, ⟨_, e12_1⟩, ⟨_, e13_1⟩, ⟨_, e15_1⟩, by omega, by omega, by omega, by omega, by omega, by omega⟩), hfr0, by omega, by omega, by omega, Or.inl (by decide)⟩ hk1 hk2
  · simp only [i_eq, i0] at h2
    refine g_loadA act (gx gp_176 (w := 0x803) rfl (by decide) rfl) (a := 0) (n := 8) rfl rfl rfl ?_
    refine n_call tb_pres act hEnd (gx (P := G_call) gp_176 (w := 0xa000000000000c141100011f000b0f) rfl (by decide) rfl) (d' := D_287) rfl (as := [.ref 124]) (rest := []) (br_word (show PSt hs tx L A b from ⟨rw_1, hT_1, ⟨_, e10_1, hL_1⟩, ⟨_, e11_1, hA_1⟩, ⟨_, e14_1, hb_1⟩, ⟨_, e12_1⟩, ⟨_, e13_1⟩, ⟨_, e15_1⟩, by omega, by omega, by omega, by omega, by omega, by omega⟩)) (show (1 : Nat) = fb 0xa000000000000c141100011f000b0f % 16 by decide) (by show (1 : Nat) ≤ 5; decide) (fun _ => ⟨_, _, rfl, _, shp_at rw_1.1, Or.inr (show fb 0xa000000000000c141100011f000b0f >>> 68 = 10 by decide)⟩) (by omega) (by show 8 + (5 + 11) + 43 ≤ R.locals; omega) (by show (0 : Nat) ≤ 8; decide) (by show kc + 0 ≤ _; omega) (by show ks + 0 ≤ _; omega) (fun r9 hs_c2 hpo hr9 => ?_) (fun x9 hs9 hx9 hpo => ?_)
    · obtain ⟨-, A_c2, rv_c2, rfl, hP_c2, fr_c2, q7_c2, q8_c2, q9_c2⟩ := hpo
      try replace q8_c2 := q8_c2 (by omega)
      have rw_3 := rw_1.fr fr_c2 WP_rw
      have f_4 := hT_1.fr (fun j9 _ => fr_c2.2.2 130 j9 (by unfold WP; omega))
      have f_5 := rd_fr fr_c2 e10_1 (by unfold WP; omega)
      have f_6 := hF.fr (fun j9 _ => fr_c2.2.2 126 j9 (by unfold WP; omega))
      have fr_7 := hfr0.tr fr_c2
      obtain ⟨-, -, -, ⟨A9_c2, e11_c2, hA_c2⟩, ⟨b9_c2, e14_c2, hb_c2⟩, ⟨c9_c2, e12_c2⟩, ⟨d9_c2, e13_c2⟩, ⟨f9_c2, e15_c2⟩, -, -, q3_c2, q4_c2, q5_c2, q6_c2⟩ := hP_c2
      clear rw_1 hT_1 e10_1 e11_1 e14_1 e12_1 e13_1 e15_1 hF hfr0
      show WpN (gp g0 wp) CLS p l e R s m args below meth c Q D_176.2.2.1 kc0 ks0 11 [some (.ref 124), some (.long n9), none, some (.int ci), some (.int mi)] (hs_c2, kc, ks) [.long rv_c2]
      refine g_loadL act (gx gp_176 (w := 0x1000c06) rfl (by decide) rfl) (a := 1) (n := 12) rfl rfl rfl ?_
      refine g_lcmp act (gx gp_176 (w := 0xd0c) rfl (by decide) rfl) (n := 13) rfl ?_
      refine g_ifEq act (gx gp_176 (w := 0x1200100e) rfl (by decide) rfl) (tgt := 18) (n := 16) rfl rfl (fun h7 => ?_) (fun h7 => ?_)
      · simp only [cmpEq] at h7
        refine g_loadA act (gx gp_176 (w := 0x1303) rfl (by decide) rfl) (a := 0) (n := 19) rfl rfl rfl ?_
        refine r_getf act (gx gp_176 (w := 0x3000089001604) rfl (by decide) rfl) (n := 22) (ci := 9) (j := 2) (N := 39) rfl rfl rfl rw_3.1 (by decide) (rw_3.2 (2, 126, 32, 46) (by decide)).1 ?_
        refine g_loadI act (gx gp_176 (w := 0x3001702) rfl (by decide) rfl) (a := 3) (n := 23) rfl rfl rfl ?_
        obtain ⟨x_8, e_9, hx_10⟩ := f_6 c9 (by omega)
        refine r_iald act (gx gp_176 (w := 0x181a) rfl (by decide) rfl) (n := 24) (j := c9) rfl (rw_3.2 (2, 126, 32, 46) (by decide)).2 hci (show c9 < 46 by omega) (v := .int x_8) e_9 ?_
        refine g_loadI act (gx gp_176 (w := 0x4001a02) rfl (by decide) rfl) (a := 4) (n := 26) rfl rfl rfl ?_
        refine g_icmpNe act (gx gp_176 (w := 0x28001d21) rfl (by decide) rfl) (tgt := 40) (n := 29) rfl rfl (fun h11 => ?_) (fun h11 => ?_)
        · simp only [i_eq] at h11
          refine g_loadA act (gx gp_176 (w := 0x2903) rfl (by decide) rfl) (a := 0) (n := 41) rfl rfl rfl ?_
          refine g_loadA act (gx gp_176 (w := 0x2a03) rfl (by decide) rfl) (a := 0) (n := 42) rfl rfl rfl ?_
          refine n_call tb_pres act hEnd (gx (P := G_call) gp_176 (w := 0xa000000000000c0811000120002d0f) rfl (by decide) rfl) (d' := D_288) rfl (as := [.ref 124]) (rest := [.ref 124]) (br_wordEnd (show PSt hs_c2 tx L A_c2 b from ⟨rw_3, f_4, ⟨_, f_5, hL_1⟩, ⟨_, e11_c2, hA_c2⟩, ⟨_, e14_c2, hb_c2⟩, ⟨_, e12_c2⟩, ⟨_, e13_c2⟩, ⟨_, e15_c2⟩, by omega, by omega, by omega, by omega, by omega, by omega⟩)) (show (1 : Nat) = fb 0xa000000000000c0811000120002d0f % 16 by decide) (by show (1 : Nat) ≤ 2; decide) (fun _ => ⟨_, _, rfl, _, shp_at rw_3.1, Or.inr (show fb 0xa000000000000c0811000120002d0f >>> 68 = 10 by decide)⟩) (by omega) (by show 8 + (2 + 11) + 22 ≤ R.locals; omega) (by show (1 : Nat) ≤ 8; decide) (by show kc + 0 ≤ _; omega) (by show ks + 0 ≤ _; omega) (fun r9 h3 hpo hr9 => ?_) (fun x9 hs9 hx9 hpo => ?_)
          · obtain ⟨-, rfl, rv_11, rfl, w1_11, w2_11, w3_11, w4_11, w5_11⟩ := hpo
            show WpN (gp g0 wp) CLS p l e R s m args below meth c Q D_176.2.2.1 kc0 ks0 45 [some (.ref 124), some (.long n9), none, some (.int ci), some (.int mi)] (hs_c2, kc, ks) [.int rv_11, .ref 124]
            refine r_putf act (gx gp_176 (w := 0x2c9003013) rfl (by decide) rfl) (n := 48) (ci := 9) (j := 11) (N := 39) rfl rfl rfl rw_3.1 (by decide) (Or.inl ⟨rfl, _, rfl⟩) ?_
            have rw_12 := RW.wr (k := 124) (j := 11) (v := .int rv_11) rw_3 (Or.inr (by decide))
            have f_13 := f_4.ne (k := 124) (j := 11) (v := .int rv_11) (by decide)
            have f_14 := (rd_ne hs_c2 (k := 124) (j := 11) (.int rv_11) (Or.inr (by decide))).trans f_5
            have f_15 := f_6.ne (k := 124) (j := 11) (v := .int rv_11) (by decide)
            have f_17 := (rd_ne hs_c2 (k := 124) (j := 11) (.int rv_11) (Or.inr (by decide))).trans e14_c2
            have f_18 := (rd_ne hs_c2 (k := 124) (j := 11) (.int rv_11) (Or.inr (by decide))).trans e12_c2
            have f_19 := (rd_ne hs_c2 (k := 124) (j := 11) (.int rv_11) (Or.inr (by decide))).trans e13_c2
            have f_20 := (rd_ne hs_c2 (k := 124) (j := 11) (.int rv_11) (Or.inr (by decide))).trans e15_c2
            have f_21 := rd_same (j := 11) (v := .int rv_11) rw_3.1
            have fr_22 := fr_7.wr (k := 124) (j := 11) (.int rv_11) (by unfold WP; omega)
            clear rw_3 fr_7 f_4 f_5 f_6 e11_c2 e14_c2 e12_c2 e13_c2 e15_c2
            generalize (wr hs_c2 124 11 (.int rv_11)) = hs_23 at *
            refine g_constI act (gx gp_176 (w := 0x40000000c00000009000000003101) rfl (by decide) rfl) (n := 49) (x := (1 : Int32)) (by decide) rfl ?_
            exact g_retZ hEnd (gx gp_176 (w := 0x23) rfl (by decide) rfl) (Or.inr rfl) ⟨rfl, (Int32.toInt rv_11), b, _, rfl, (show PSt hs_23 tx L (Int32.toInt rv_11) b from ⟨rw_12, f_13, ⟨_, f_14, hL_1⟩, ⟨_, f_21, (rfl : Int32.toInt rv_11 = _)⟩, ⟨_, f_17, hb_c2⟩, ⟨_, f_18⟩, ⟨_, f_19⟩, ⟨_, f_20⟩, by omega, by omega, by omega, by omega, by omega, by omega⟩), fr_22, by omega, by omega, by omega, Or.inr ⟨by decide, by omega, by omega, by omega⟩⟩ hk1 hk2
          · exact absurd hpo.1 (by omega)
        · simp only [i_eq] at h11
          refine g_loadA act (gx gp_176 (w := 0x1e03) rfl (by decide) rfl) (a := 0) (n := 30) rfl rfl rfl ?_
          refine g_constI act (gx gp_176 (w := 0x40000001c00000019000000001f01) rfl (by decide) rfl) (n := 31) (x := (3 : Int32)) (by decide) rfl ?_
          refine g_loadA act (gx gp_176 (w := 0x2003) rfl (by decide) rfl) (a := 0) (n := 32) rfl rfl rfl ?_
          refine r_getf act (gx gp_176 (w := 0x2c9002304) rfl (by decide) rfl) (n := 35) (ci := 9) (j := 11) (N := 39) rfl rfl rfl rw_3.1 (by decide) (v := .int A9_c2) e11_c2 ?_
          refine n_call tb_pres act hEnd (gx (P := G_call) gp_176 (w := 0xa00000000000080c3300012100260f) rfl (by decide) rfl) (d' := D_289) rfl (as := [.ref 124, .int (3 : Int32), .int A9_c2]) (rest := []) (br_wrong (show PSt hs_c2 tx L A_c2 b from ⟨rw_3, f_4, ⟨_, f_5, hL_1⟩, ⟨_, e11_c2, hA_c2⟩, ⟨_, e14_c2, hb_c2⟩, ⟨_, e12_c2⟩, ⟨_, e13_c2⟩, ⟨_, e15_c2⟩, by omega, by omega, by omega, by omega, by omega, by omega⟩)) (show (3 : Nat) = fb 0xa00000000000080c3300012100260f % 16 by decide) (by show (3 : Nat) ≤ 3; decide) (fun _ => ⟨_, _, rfl, _, shp_at rw_3.1, Or.inr (show fb 0xa00000000000080c3300012100260f >>> 68 = 10 by decide)⟩) (by omega) (by show 8 + (3 + 11) + 0 ≤ R.locals; omega) (by show (0 : Nat) ≤ 8; decide) (by show kc + 0 ≤ _; omega) (by show ks + 0 ≤ _; omega) (fun r9 hs_c24 hpo hr9 => ?_) (fun x9 hs9 hx9 hpo => ?_)
          · obtain rfl : r9 = none := hr9.elim (fun q => q.2) (fun q => absurd rfl q.1)
            obtain ⟨-, b_c24, hP_c24, fr_c24, qb_c24⟩ := hpo
            obtain ⟨A_c24, qA_c24⟩ : ∃ z : Int, z = A_c2 := ⟨_, rfl⟩
            rw [← qA_c24] at hP_c24
            have rw_25 := rw_3.fr fr_c24 WP_rw
            have f_26 := f_4.fr (fun j9 _ => fr_c24.2.2 130 j9 (by unfold WP; omega))
            have f_27 := rd_fr fr_c24 f_5 (by unfold WP; omega)
            have f_28 := f_6.fr (fun j9 _ => fr_c24.2.2 126 j9 (by unfold WP; omega))
            have fr_29 := fr_7.tr fr_c24
            obtain ⟨-, -, -, ⟨A9_c24, e11_c24, hA_c24⟩, ⟨b9_c24, e14_c24, hb_c24⟩, ⟨c9_c24, e12_c24⟩, ⟨d9_c24, e13_c24⟩, ⟨f9_c24, e15_c24⟩, -, -, q3_c24, q4_c24, q5_c24, q6_c24⟩ := hP_c24
            clear rw_3 f_4 f_5 f_6 e11_c2 e14_c2 e12_c2 e13_c2 e15_c2 fr_7
            show WpN (gp g0 wp) CLS p l e R s m args below meth c Q D_176.2.2.1 kc0 ks0 38 [some (.ref 124), some (.long n9), none, some (.int ci), some (.int mi)] (hs_c24, kc, ks) []
            refine g_constI act (gx gp_176 (w := 0x40000000400000001000000002701) rfl (by decide) rfl) (n := 39) (x := (0 : Int32)) (by decide) rfl ?_
            exact g_retZ hEnd (gx gp_176 (w := 0x23) rfl (by decide) rfl) (Or.inl rfl) ⟨rfl, A_c24, b_c24, _, rfl, (show PSt hs_c24 tx L A_c24 b_c24 from ⟨rw_25, f_26, ⟨_, f_27, hL_1⟩, ⟨_, e11_c24, hA_c24⟩, ⟨_, e14_c24, hb_c24⟩, ⟨_, e12_c24⟩, ⟨_, e13_c24⟩, ⟨_, e15_c24⟩, by omega, by omega, by omega, by omega, by omega, by omega⟩), fr_29, by omega, by omega, by omega, Or.inl (by decide)⟩ hk1 hk2
          · exact absurd hpo.1 (by omega)
      · simp only [cmpEq] at h7
        refine g_constI act (gx gp_176 (w := 0x40000000400000001000000001101) rfl (by decide) rfl) (n := 17) (x := (0 : Int32)) (by decide) rfl ?_
        exact g_retZ hEnd (gx gp_176 (w := 0x23) rfl (by decide) rfl) (Or.inl rfl) ⟨rfl, A_c2, b, _, rfl, (show PSt hs_c2 tx L A_c2 b from ⟨rw_3, f_4, ⟨_, f_5, hL_1⟩, ⟨_, e11_c2, hA_c2⟩, ⟨_, e14_c2, hb_c2⟩, ⟨_, e12_c2⟩, ⟨_, e13_c2⟩, ⟨_, e15_c2⟩, by omega, by omega, by omega, by omega, by omega, by omega⟩), fr_7, by omega, by omega, by omega, Or.inl (by decide)⟩ hk1 hk2
    · exact absurd hpo.1 (by omega)

end PAR2
