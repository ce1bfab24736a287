/-! The reference: lines at their limits, reserves. -/
theorem bind_1 {g0 : GG} {bl : Nat} {xs : Nat → Int32} {l : Launch} {wp : va_W} {p : Program} {e : Env} {R : Room} {s : State} {m : MethodId} {args : Array Value} {below : List Frame} {meth : Method} {c : Code} {Q : State → Prop} {kc0 ks0 kc ks f lam KC KS : Nat} {hs : List CE} {tl wl : Nat → Int} {nl n ng nr : Nat} (hNW : NW tl wl nl n ng nr) {a b oi : Int32} {dm lm em : Nat → Int} (hoi : oi.toInt = wl 38) (hdm : ∀ j, 0 ≤ dm j ∧ dm j ≤ 200) (hlm : ∀ j, 0 ≤ lm j ∧ lm j ≤ 400) (hem : ∀ j, 0 ≤ em j ∧ em j ≤ 400) (hf : 10 ≤ R.frames) (hl : 251 ≤ R.locals) (hc : kc ≤ R.cells + kc0) (hsl : ks ≤ R.slots + ks0) (act : Act SSX TBL (gp g0 wp) CLS bl xs D_184 p l s m args meth c) (hEnd : EndN SSX TBL (gp g0 wp) CLS D_184 p l e R s m args below meth c Q kc0 ks0 f lam KC KS (POI hs)) (hk1 : kc ≤ KC) (hk2 : ks ≤ KS) : ∀ j9 : Nat, j9 ≤ nl → ∀ (xi si : Int32) (hj : List CE), xi.toInt = (j9 : Int) → RW hj → IArr hj 125 46 tl → IArr hj 127 39 wl → IArr hj 135 4 dm → IArr hj 136 6 lm → IArr hj 137 6 em → rd hj 124 24 = .int oi → KR hj 142 143 0 5 9 → KR hj 131 132 0 24 5 → (wl 38 ≠ -1 → KR hj 131 132 24 48 5) → ModF hj → FrS WM hs hj → WpN (gp g0 wp) CLS p l e R s m args below meth c Q D_184.2.2.1 kc0 ks0 37 [some (.ref 124), some (.int a), some (.int b), some (.int si), some (.int xi), none] (hj, kc, ks) [] := by
  have hN9 := hNW
  obtain ⟨n0, n1, n2, n3, n4, n5, n6, n7, n8, hG0, nL, nC, nP, nD⟩ := hN9
  have hGn := hG0.1
  have hGn3 := hG0.2.1
  have hGl := hG0.2.2.1
  refine dn (fun j9 hj9 ih => ?_)
  intro xi si hj hxi rwj fTo fW fD fL fE f24 hO hK hX hM hfr
  refine g_loadI act (gx gp_184 (w := 0x4002702) rfl (by decide) rfl) (a := 4) (n := 39) rfl rfl rfl ?_
  refine g_loadA act (gx gp_184 (w := 0x2803) rfl (by decide) rfl) (a := 0) (n := 40) rfl rfl rfl ?_
  refine r_getf act (gx gp_184 (w := 0x3000049002b04) rfl (by decide) rfl) (n := 43) (ci := 9) (j := 1) (N := 39) rfl rfl rfl rwj.1 (by decide) (rwj.2 (1, 125, 32, 46) (by decide)).1 ?_
  refine g_constI act (gx gp_184 (w := 0x40000001400000011000000002c01) rfl (by decide) rfl) (n := 44) (x := (2 : Int32)) (by decide) rfl ?_
  obtain ⟨x_1, e_2, hx_3⟩ := fTo 2 (by omega)
  refine r_iald act (gx gp_184 (w := 0x2d1a) rfl (by decide) rfl) (n := 45) (j := 2) rfl (rwj.2 (1, 125, 32, 46) (by decide)).2 (show (2 : Int32).toInt = ((2 : Nat) : Int) from by decide) (show 2 < 46 by omega) (v := .int x_1) e_2 ?_
  refine g_icmpGe act (gx gp_184 (w := 0x93003008) rfl (by decide) rfl) (tgt := 147) (n := 48) rfl rfl (fun h4 => ?_) (fun h4 => ?_)
  · simp only [i_le] at h4
    refine g_loadI act (gx gp_184 (w := 0x3009402) rfl (by decide) rfl) (a := 3) (n := 148) rfl rfl rfl ?_
    exact g_retI hEnd (gx gp_184 (w := 0x2f) rfl (by decide) rfl) ⟨rfl, ⟨_, rfl⟩, hM, hfr⟩ hk1 hk2
  · simp only [i_le] at h4
    refine g_loadI act (gx gp_184 (w := 0x2003102) rfl (by decide) rfl) (a := 2) (n := 49) rfl rfl rfl ?_
    refine g_ifEq act (gx gp_184 (w := 0x3c00340e) rfl (by decide) rfl) (tgt := 60) (n := 52) rfl rfl (fun h7 => ?_) (fun h7 => ?_)
    · simp only [i_eq, i0] at h7
      refine g_loadA act (gx gp_184 (w := 0x3d03) rfl (by decide) rfl) (a := 0) (n := 61) rfl rfl rfl ?_
      refine g_loadI act (gx gp_184 (w := 0x4003f02) rfl (by decide) rfl) (a := 4) (n := 63) rfl rfl rfl ?_
      refine g_loadI act (gx gp_184 (w := 0x2004002) rfl (by decide) rfl) (a := 2) (n := 64) rfl rfl rfl ?_
      refine g_ifEq act (gx gp_184 (w := 0x4700430e) rfl (by decide) rfl) (tgt := 71) (n := 67) rfl rfl (fun h11 => ?_) (fun h11 => ?_)
      · simp only [i_eq, i0] at h11
        refine g_constI act (gx gp_184 (w := 0x40000000400000001000000004801) rfl (by decide) rfl) (n := 72) (x := (0 : Int32)) (by decide) rfl ?_
        refine n_call tb_pres act hEnd (gx (P := G_call) gp_184 (w := 0xa000000000000824330000d1004b0f) rfl (by decide) rfl) (d' := D_209) rfl (as := [.ref 124, .int xi, .int (0 : Int32)]) (rest := []) (b_flows hNW (ln9 := j9) (gr := 0) hxi (by omega) (show (0 : Int32).toInt = ((0 : Nat) : Int) from by decide) (by decide) ⟨rwj, fTo, fW⟩ fD (fun j9 => by have q9 := hdm j9; omega) hO hK hM) (show (3 : Nat) = fb 0xa000000000000824330000d1004b0f % 16 by decide) (by show (3 : Nat) ≤ 9; decide) (fun _ => ⟨_, _, rfl, _, shp_at rwj.1, Or.inr (show fb 0xa000000000000824330000d1004b0f >>> 68 = 10 by decide)⟩) (by omega) (by show 8 + (9 + 11) + 87 ≤ R.locals; omega) (by show (0 : Nat) ≤ 8; decide) (by show kc + 0 ≤ _; omega) (by show ks + 0 ≤ _; omega) (fun r9 hs_4 hpo hr9 => ?_) (fun x9 hs9 hx9 hpo => ?_)
        · obtain rfl : r9 = none := hr9.elim (fun q => q.2) (fun q => absurd rfl q.1)
          obtain ⟨-, t_5, w_6, e_7, e_8, hK_9, fr_10⟩ := hpo
          have hM_11 := ModF.w0 hM fr_10
          have rw_12 := rwj.fr fr_10 W0_rw
          have f_13 := fTo.fr (fun j9 _ => fr_10.2.2 125 j9 (by unfold W0; omega))
          have f_14 := fW.fr (fun j9 _ => fr_10.2.2 127 j9 (by unfold W0; omega))
          have f_15 := fD.fr (fun j9 _ => fr_10.2.2 135 j9 (by unfold W0; omega))
          have f_16 := fL.fr (fun j9 _ => fr_10.2.2 136 j9 (by unfold W0; omega))
          have f_17 := fE.fr (fun j9 _ => fr_10.2.2 137 j9 (by unfold W0; omega))
          have f_18 := rd_fr fr_10 f24 (by unfold W0; omega)
          have f_19 := hO.fr (fun j9 _ _ => ⟨fr_10.2.2 142 j9 (by unfold W0; omega), fr_10.2.2 143 j9 (by unfold W0; omega)⟩)
          have f_20 := hK.fr (fun j9 _ _ => ⟨fr_10.2.2 131 j9 (by unfold W0; omega), fr_10.2.2 132 j9 (by unfold W0; omega)⟩)
          have f_21 := fun q9 => (hX q9).fr (fun j9 _ _ => ⟨fr_10.2.2 131 j9 (by unfold W0; omega), fr_10.2.2 132 j9 (by unfold W0; omega)⟩)
          have fr_23 := hfr.tr (fr_10.mono (fun k9 j9 h9 => by unfold W0 at h9; unfold WM; omega))
          clear rwj fTo fW fD fL fE f24 hO hK hX hM hfr
          show WpN (gp g0 wp) CLS p l e R s m args below meth c Q D_184.2.2.1 kc0 ks0 75 [some (.ref 124), some (.int a), some (.int b), some (.int si), some (.int xi), none] (hs_4, kc, ks) []
          refine g_loadI act (gx gp_184 (w := 0x2004c02) rfl (by decide) rfl) (a := 2) (n := 76) rfl rfl rfl ?_
          refine g_ifEq act (gx gp_184 (w := 0x59004f0e) rfl (by decide) rfl) (tgt := 89) (n := 79) rfl rfl (fun h14 => ?_) (fun h14 => ?_)
          · simp only [i_eq, i0] at h14
            refine g_loadA act (gx gp_184 (w := 0x5a03) rfl (by decide) rfl) (a := 0) (n := 90) rfl rfl rfl ?_
            refine r_getf act (gx gp_184 (w := 0x3000549005d04) rfl (by decide) rfl) (n := 93) (ci := 9) (j := 21) (N := 39) rfl rfl rfl rw_12.1 (by decide) (rw_12.2 (21, 136, 32, 6) (by decide)).1 ?_
            refine g_loadI act (gx gp_184 (w := 0x4005f02) rfl (by decide) rfl) (a := 4) (n := 95) rfl rfl rfl ?_
            obtain ⟨x_24, e_25, hx_26⟩ := f_16 j9 (by omega)
            have b_27 := hlm j9
            refine r_iald act (gx gp_184 (w := 0x601a) rfl (by decide) rfl) (n := 96) (j := j9) rfl (rw_12.2 (21, 136, 32, 6) (by decide)).2 hxi (show j9 < 6 by omega) (v := .int x_24) e_25 ?_
            refine g_storeI act (gx gp_184 (w := 0x5006210) rfl (by decide) rfl) (a := 5) (n := 98) rfl rfl (L2 := [some (.ref 124), some (.int a), some (.int b), some (.int si), some (.int xi), some (.int x_24)]) rfl ?_
            refine g_loadI act (gx gp_184 (w := 0x3006302) rfl (by decide) rfl) (a := 3) (n := 99) rfl rfl rfl ?_
            refine g_loadA act (gx gp_184 (w := 0x6403) rfl (by decide) rfl) (a := 0) (n := 100) rfl rfl rfl ?_
            refine r_getf act (gx gp_184 (w := 0x2000209006704) rfl (by decide) rfl) (n := 103) (ci := 9) (j := 8) (N := 39) rfl rfl rfl rw_12.1 (by decide) (v := .long w_6) e_8 ?_
            refine g_constL act (gx gp_184 (w := 0x4000000000000000a000000006801) rfl (by decide) rfl) (n := 104) (x := 1) (by decide) rfl ?_
            refine g_lcmp act (gx gp_184 (w := 0x690c) rfl (by decide) rfl) (n := 105) rfl ?_
            refine g_ifNe act (gx gp_184 (w := 0x8a006c1d) rfl (by decide) rfl) (tgt := 138) (n := 108) rfl rfl (fun h22 => ?_) (fun h22 => ?_)
            · simp only [cmpEq, show (1 : Int64).toInt = 1 from by decide] at h22
              refine g_constI act (gx gp_184 (w := 0x40000000400000001000000008b01) rfl (by decide) rfl) (n := 139) (x := (0 : Int32)) (by decide) rfl ?_
              refine g_ior act (gx gp_184 (w := 0x8c4b) rfl (by decide) rfl) (n := 140) rfl ?_
              refine g_storeI act (gx gp_184 (w := 0x3008d10) rfl (by decide) rfl) (a := 3) (n := 141) rfl rfl (L2 := [some (.ref 124), some (.int a), some (.int b), some (.int (si ||| (0 : Int32))), some (.int xi), some (.int x_24)]) rfl ?_
              refine g_iinc act (gx gp_184 (w := 0x80000001000004009009) rfl (by decide) rfl) (a := 4) (i := (1 : Int32)) (n := 144) rfl (by decide) rfl rfl (L2 := [some (.ref 124), some (.int a), some (.int b), some (.int (si ||| (0 : Int32))), some (.int (xi + (1 : Int32))), some (.int x_24)]) rfl ?_
              have v_28 := iv_addN hxi (show (1 : Int32).toInt = ((1 : Nat) : Int) from by decide) (show (j9 + 1) < 2147483648 by omega)
              refine g_goto act (gx gp_184 (w := 0x2507) rfl (by decide) rfl) (n := 37) rfl ?_
              exact n_forget (d := D_184) (L2 := [some (.ref 124), some (.int a), some (.int b), some (.int (si ||| (0 : Int32))), some (.int (xi + (1 : Int32))), none]) (fun i v hi => by
                match i, hi with
                | 0, hi => exact hi
                | 1, hi => exact hi
                | 2, hi => exact hi
                | 3, hi => exact hi
                | 4, hi => exact hi
                | 5, hi => cases hi
                | i + 6, hi => cases hi) (ih (j9 + 1) (by omega) (by omega) _ _ _ v_28 rw_12 f_13 f_14 f_15 f_16 f_17 f_18 f_19 f_20 f_21 hM_11 fr_23)
            · simp only [cmpEq, show (1 : Int64).toInt = 1 from by decide] at h22
              refine g_loadA act (gx gp_184 (w := 0x6d03) rfl (by decide) rfl) (a := 0) (n := 109) rfl rfl rfl ?_
              refine r_getf act (gx gp_184 (w := 0x20001c9007004) rfl (by decide) rfl) (n := 112) (ci := 9) (j := 7) (N := 39) rfl rfl rfl rw_12.1 (by decide) (v := .long t_5) e_7 ?_
              refine g_loadI act (gx gp_184 (w := 0x5007202) rfl (by decide) rfl) (a := 5) (n := 114) rfl rfl rfl ?_
              refine g_i2l act (gx gp_184 (w := 0x732c) rfl (by decide) rfl) (n := 115) rfl ?_
              have v_29 := lw_i2l hx_26
              refine g_lcmp act (gx gp_184 (w := 0x740c) rfl (by decide) rfl) (n := 116) rfl ?_
              refine g_ifEq act (gx gp_184 (w := 0x8300770e) rfl (by decide) rfl) (tgt := 131) (n := 119) rfl rfl (fun h30 => ?_) (fun h30 => ?_)
              · simp only [cmpEq] at h30
                refine g_constI act (gx gp_184 (w := 0x40000000c00000009000000008401) rfl (by decide) rfl) (n := 132) (x := (1 : Int32)) (by decide) rfl ?_
                refine g_loadI act (gx gp_184 (w := 0x4008602) rfl (by decide) rfl) (a := 4) (n := 134) rfl rfl rfl ?_
                refine g_ishl act (gx gp_184 (w := 0x873b) rfl (by decide) rfl) (n := 135) rfl ?_
                refine g_goto act (gx gp_184 (w := 0x8b07) rfl (by decide) rfl) (n := 139) rfl ?_
                refine g_ior act (gx gp_184 (w := 0x8c4b) rfl (by decide) rfl) (n := 140) rfl ?_
                refine g_storeI act (gx gp_184 (w := 0x3008d10) rfl (by decide) rfl) (a := 3) (n := 141) rfl rfl (L2 := [some (.ref 124), some (.int a), some (.int b), some (.int (si ||| ((1 : Int32) <<< (xi &&& 31)))), some (.int xi), some (.int x_24)]) rfl ?_
                refine g_iinc act (gx gp_184 (w := 0x80000001000004009009) rfl (by decide) rfl) (a := 4) (i := (1 : Int32)) (n := 144) rfl (by decide) rfl rfl (L2 := [some (.ref 124), some (.int a), some (.int b), some (.int (si ||| ((1 : Int32) <<< (xi &&& 31)))), some (.int (xi + (1 : Int32))), some (.int x_24)]) rfl ?_
                have v_30 := iv_addN hxi (show (1 : Int32).toInt = ((1 : Nat) : Int) from by decide) (show (j9 + 1) < 2147483648 by omega)
                refine g_goto act (gx gp_184 (w := 0x2507) rfl (by decide) rfl) (n := 37) rfl ?_
                exact n_forget (d := D_184) (L2 := [some (.ref 124), some (.int a), some (.int b), some (.int (si ||| ((1 : Int32) <<< (xi &&& 31)))), some (.int (xi + (1 : Int32))), none]) (fun i v hi => by
                  match i, hi with
                  | 0, hi => exact hi
                  | 1, hi => exact hi
                  | 2, hi => exact hi
                  | 3, hi => exact hi
                  | 4, hi => exact hi
                  | 5, hi => cases hi
                  | i + 6, hi => cases hi) (ih (j9 + 1) (by omega) (by omega) _ _ _ v_30 rw_12 f_13 f_14 f_15 f_16 f_17 f_18 f_19 f_20 f_21 hM_11 fr_23)
              · simp only [cmpEq] at h30
                refine g_loadA act (gx gp_184 (w := 0x7803) rfl (by decide) rfl) (a := 0) (n := 120) rfl rfl rfl ?_
                refine r_getf act (gx gp_184 (w := 0x20001c9007b04) rfl (by decide) rfl) (n := 123) (ci := 9) (j := 7) (N := 39) rfl rfl rfl rw_12.1 (by decide) (v := .long t_5) e_7 ?_
                refine g_loadI act (gx gp_184 (w := 0x5007d02) rfl (by decide) rfl) (a := 5) (n := 125) rfl rfl rfl ?_
                refine g_ineg act (gx gp_184 (w := 0x7e4c) rfl (by decide) rfl) (n := 126) rfl ?_
                refine g_i2l act (gx gp_184 (w := 0x7f2c) rfl (by decide) rfl) (n := 127) rfl ?_
                have v_31 := lw_i2l (rfl : Int32.toInt (-x_24) = _)
                refine g_lcmp act (gx gp_184 (w := 0x800c) rfl (by decide) rfl) (n := 128) rfl ?_
                refine g_ifNe act (gx gp_184 (w := 0x8a00831d) rfl (by decide) rfl) (tgt := 138) (n := 131) rfl rfl (fun h41 => ?_) (fun h41 => ?_)
                · simp only [cmpEq] at h41
                  refine g_constI act (gx gp_184 (w := 0x40000000400000001000000008b01) rfl (by decide) rfl) (n := 139) (x := (0 : Int32)) (by decide) rfl ?_
                  refine g_ior act (gx gp_184 (w := 0x8c4b) rfl (by decide) rfl) (n := 140) rfl ?_
                  refine g_storeI act (gx gp_184 (w := 0x3008d10) rfl (by decide) rfl) (a := 3) (n := 141) rfl rfl (L2 := [some (.ref 124), some (.int a), some (.int b), some (.int (si ||| (0 : Int32))), some (.int xi), some (.int x_24)]) rfl ?_
                  refine g_iinc act (gx gp_184 (w := 0x80000001000004009009) rfl (by decide) rfl) (a := 4) (i := (1 : Int32)) (n := 144) rfl (by decide) rfl rfl (L2 := [some (.ref 124), some (.int a), some (.int b), some (.int (si ||| (0 : Int32))), some (.int (xi + (1 : Int32))), some (.int x_24)]) rfl ?_
                  have v_32 := iv_addN hxi (show (1 : Int32).toInt = ((1 : Nat) : Int) from by decide) (show (j9 + 1) < 2147483648 by omega)
                  refine g_goto act (gx gp_184 (w := 0x2507) rfl (by decide) rfl) (n := 37) rfl ?_
                  exact n_forget (d := D_184) (L2 := [some (.ref 124), some (.int a), some (.int b), some (.int (si ||| (0 : Int32))), some (.int (xi + (1 : Int32))), none]) (fun i v hi => by
                    match i, hi with
                    | 0, hi => exact hi
                    | 1, hi => exact hi
                    | 2, hi => exact hi
                    | 3, hi => exact hi
                    | 4, hi => exact hi
                    | 5, hi => cases hi
                    | i + 6, hi => cases hi) (ih (j9 + 1) (by omega) (by omega) _ _ _ v_32 rw_12 f_13 f_14 f_15 f_16 f_17 f_18 f_19 f_20 f_21 hM_11 fr_23)
                · simp only [cmpEq] at h41
                  refine g_constI act (gx gp_184 (w := 0x40000000c00000009000000008401) rfl (by decide) rfl) (n := 132) (x := (1 : Int32)) (by decide) rfl ?_
                  refine g_loadI act (gx gp_184 (w := 0x4008602) rfl (by decide) rfl) (a := 4) (n := 134) rfl rfl rfl ?_
                  refine g_ishl act (gx gp_184 (w := 0x873b) rfl (by decide) rfl) (n := 135) rfl ?_
                  refine g_goto act (gx gp_184 (w := 0x8b07) rfl (by decide) rfl) (n := 139) rfl ?_
                  refine g_ior act (gx gp_184 (w := 0x8c4b) rfl (by decide) rfl) (n := 140) rfl ?_
                  refine g_storeI act (gx gp_184 (w := 0x3008d10) rfl (by decide) rfl) (a := 3) (n := 141) rfl rfl (L2 := [some (.ref 124), some (.int a), some (.int b), some (.int (si ||| ((1 : Int32) <<< (xi &&& 31)))), some (.int xi), some (.int x_24)]) rfl ?_
                  refine g_iinc act (gx gp_184 (w := 0x80000001000004009009) rfl (by decide) rfl) (a := 4) (i := (1 : Int32)) (n := 144) rfl (by decide) rfl rfl (L2 := [some (.ref 124), some (.int a), some (.int b), some (.int (si ||| ((1 : Int32) <<< (xi &&& 31)))), some (.int (xi + (1 : Int32))), some (.int x_24)]) rfl ?_
                  have v_33 := iv_addN hxi (show (1 : Int32).toInt = ((1 : Nat) : Int) from by decide) (show (j9 + 1) < 2147483648 by omega)
                  refine g_goto act (gx gp_184 (w := 0x2507) rfl (by decide) rfl) (n := 37) rfl ?_
                  exact n_forget (d := D_184) (L2 := [some (.ref 124), some (.int a), some (.int b), some (.int (si ||| ((1 : Int32) <<< (xi &&& 31)))), some (.int (xi + (1 : Int32))), none]) (fun i v hi => by
                    match i, hi with
                    | 0, hi => exact hi
                    | 1, hi => exact hi
                    | 2, hi => exact hi
                    | 3, hi => exact hi
                    | 4, hi => exact hi
                    | 5, hi => cases hi
                    | i + 6, hi => cases hi) (ih (j9 + 1) (by omega) (by omega) _ _ _ v_33 rw_12 f_13 f_14 f_15 f_16 f_17 f_18 f_19 f_20 f_21 hM_11 fr_23)
          · simp only [i_eq, i0] at h14
            refine g_loadA act (gx gp_184 (w := 0x5003) rfl (by decide) rfl) (a := 0) (n := 80) rfl rfl rfl ?_
            refine r_getf act (gx gp_184 (w := 0x3000589005304) rfl (by decide) rfl) (n := 83) (ci := 9) (j := 22) (N := 39) rfl rfl rfl rw_12.1 (by decide) (rw_12.2 (22, 137, 32, 6) (by decide)).1 ?_
            refine g_loadI act (gx gp_184 (w := 0x4005502) rfl (by decide) rfl) (a := 4) (n := 85) rfl rfl rfl ?_
            obtain ⟨x_34, e_35, hx_36⟩ := f_17 j9 (by omega)
            have b_37 := hem j9
            refine r_iald act (gx gp_184 (w := 0x561a) rfl (by decide) rfl) (n := 86) (j := j9) rfl (rw_12.2 (22, 137, 32, 6) (by decide)).2 hxi (show j9 < 6 by omega) (v := .int x_34) e_35 ?_
            refine g_goto act (gx gp_184 (w := 0x6007) rfl (by decide) rfl) (n := 96) rfl ?_
            refine g_storeI act (gx gp_184 (w := 0x5006210) rfl (by decide) rfl) (a := 5) (n := 98) rfl rfl (L2 := [some (.ref 124), some (.int a), some (.int b), some (.int si), some (.int xi), some (.int x_34)]) rfl ?_
            refine g_loadI act (gx gp_184 (w := 0x3006302) rfl (by decide) rfl) (a := 3) (n := 99) rfl rfl rfl ?_
            refine g_loadA act (gx gp_184 (w := 0x6403) rfl (by decide) rfl) (a := 0) (n := 100) rfl rfl rfl ?_
            refine r_getf act (gx gp_184 (w := 0x2000209006704) rfl (by decide) rfl) (n := 103) (ci := 9) (j := 8) (N := 39) rfl rfl rfl rw_12.1 (by decide) (v := .long w_6) e_8 ?_
            refine g_constL act (gx gp_184 (w := 0x4000000000000000a000000006801) rfl (by decide) rfl) (n := 104) (x := 1) (by decide) rfl ?_
            refine g_lcmp act (gx gp_184 (w := 0x690c) rfl (by decide) rfl) (n := 105) rfl ?_
            refine g_ifNe act (gx gp_184 (w := 0x8a006c1d) rfl (by decide) rfl) (tgt := 138) (n := 108) rfl rfl (fun h60 => ?_) (fun h60 => ?_)
            · simp only [cmpEq, show (1 : Int64).toInt = 1 from by decide] at h60
              refine g_constI act (gx gp_184 (w := 0x40000000400000001000000008b01) rfl (by decide) rfl) (n := 139) (x := (0 : Int32)) (by decide) rfl ?_
              refine g_ior act (gx gp_184 (w := 0x8c4b) rfl (by decide) rfl) (n := 140) rfl ?_
              refine g_storeI act (gx gp_184 (w := 0x3008d10) rfl (by decide) rfl) (a := 3) (n := 141) rfl rfl (L2 := [some (.ref 124), some (.int a), some (.int b), some (.int (si ||| (0 : Int32))), some (.int xi), some (.int x_34)]) rfl ?_
              refine g_iinc act (gx gp_184 (w := 0x80000001000004009009) rfl (by decide) rfl) (a := 4) (i := (1 : Int32)) (n := 144) rfl (by decide) rfl rfl (L2 := [some (.ref 124), some (.int a), some (.int b), some (.int (si ||| (0 : Int32))), some (.int (xi + (1 : Int32))), some (.int x_34)]) rfl ?_
              have v_38 := iv_addN hxi (show (1 : Int32).toInt = ((1 : Nat) : Int) from by decide) (show (j9 + 1) < 2147483648 by omega)
              refine g_goto act (gx gp_184 (w := 0x2507) rfl (by decide) rfl) (n := 37) rfl ?_
              exact n_forget (d := D_184) (L2 := [some (.ref 124), some (.int a), some (.int b), some (.int (si ||| (0 : Int32))), some (.int (xi + (1 : Int32))), none]) (fun i v hi => by
                match i, hi with
                | 0, hi => exact hi
                | 1, hi => exact hi
                | 2, hi => exact hi
                | 3, hi => exact hi
                | 4, hi => exact hi
                | 5, hi => cases hi
                | i + 6, hi => cases hi) (ih (j9 + 1) (by omega) (by omega) _ _ _ v_38 rw_12 f_13 f_14 f_15 f_16 f_17 f_18 f_19 f_20 f_21 hM_11 fr_23)
            · simp only [cmpEq, show (1 : Int64).toInt = 1 from by decide] at h60
              refine g_loadA act (gx gp_184 (w := 0x6d03) rfl (by decide) rfl) (a := 0) (n := 109) rfl rfl rfl ?_
              refine r_getf act (gx gp_184 (w := 0x20001c9007004) rfl (by decide) rfl) (n := 112) (ci := 9) (j := 7) (N := 39) rfl rfl rfl rw_12.1 (by decide) (v := .long t_5) e_7 ?_
              refine g_loadI act (gx gp_184 (w := 0x5007202) rfl (by decide) rfl) (a := 5) (n := 114) rfl rfl rfl ?_
              refine g_i2l act (gx gp_184 (w := 0x732c) rfl (by decide) rfl) (n := 115) rfl ?_
              have v_39 := lw_i2l hx_36
              refine g_lcmp act (gx gp_184 (w := 0x740c) rfl (by decide) rfl) (n := 116) rfl ?_
              refine g_ifEq act (gx gp_184 (w := 0x8300770e) rfl (by decide) rfl) (tgt := 131) (n := 119) rfl rfl (fun h68 => ?_) (fun h68 => ?_)
              · simp only [cmpEq] at h68
                refine g_constI act (gx gp_184 (w := 0x40000000c00000009000000008401) rfl (by decide) rfl) (n := 132) (x := (1 : Int32)) (by decide) rfl ?_
                refine g_loadI act (gx gp_184 (w := 0x4008602) rfl (by decide) rfl) (a := 4) (n := 134) rfl rfl rfl ?_
                refine g_ishl act (gx gp_184 (w := 0x873b) rfl (by decide) rfl) (n := 135) rfl ?_
                refine g_goto act (gx gp_184 (w := 0x8b07) rfl (by decide) rfl) (n := 139) rfl ?_
                refine g_ior act (gx gp_184 (w := 0x8c4b) rfl (by decide) rfl) (n := 140) rfl ?_
                refine g_storeI act (gx gp_184 (w := 0x3008d10) rfl (by decide) rfl) (a := 3) (n := 141) rfl rfl (L2 := [some (.ref 124), some (.int a), some (.int b), some (.int (si ||| ((1 : Int32) <<< (xi &&& 31)))), some (.int xi), some (.int x_34)]) rfl ?_
                refine g_iinc act (gx gp_184 (w := 0x80000001000004009009) rfl (by decide) rfl) (a := 4) (i := (1 : Int32)) (n := 144) rfl (by decide) rfl rfl (L2 := [some (.ref 124), some (.int a), some (.int b), some (.int (si ||| ((1 : Int32) <<< (xi &&& 31)))), some (.int (xi + (1 : Int32))), some (.int x_34)]) rfl ?_
                have v_40 := iv_addN hxi (show (1 : Int32).toInt = ((1 : Nat) : Int) from by decide) (show (j9 + 1) < 2147483648 by omega)
                refine g_goto act (gx gp_184 (w := 0x2507) rfl (by decide) rfl) (n := 37) rfl ?_
                exact n_forget (d := D_184) (L2 := [some (.ref 124), some (.int a), some (.int b), some (.int (si ||| ((1 : Int32) <<< (xi &&& 31)))), some (.int (xi + (1 : Int32))), none]) (fun i v hi => by
                  match i, hi with
                  | 0, hi => exact hi
                  | 1, hi => exact hi
                  | 2, hi => exact hi
                  | 3, hi => exact hi
                  | 4, hi => exact hi
                  | 5, hi => cases hi
                  | i + 6, hi => cases hi) (ih (j9 + 1) (by omega) (by omega) _ _ _ v_40 rw_12 f_13 f_14 f_15 f_16 f_17 f_18 f_19 f_20 f_21 hM_11 fr_23)
              · simp only [cmpEq] at h68
                refine g_loadA act (gx gp_184 (w := 0x7803) rfl (by decide) rfl) (a := 0) (n := 120) rfl rfl rfl ?_
                refine r_getf act (gx gp_184 (w := 0x20001c9007b04) rfl (by decide) rfl) (n := 123) (ci := 9) (j := 7) (N := 39) rfl rfl rfl rw_12.1 (by decide) (v := .long t_5) e_7 ?_
                refine g_loadI act (gx gp_184 (w := 0x5007d02) rfl (by decide) rfl) (a := 5) (n := 125) rfl rfl rfl ?_
                refine g_ineg act (gx gp_184 (w := 0x7e4c) rfl (by decide) rfl) (n := 126) rfl ?_
                refine g_i2l act (gx gp_184 (w := 0x7f2c) rfl (by decide) rfl) (n := 127) rfl ?_
                have v_41 := lw_i2l (rfl : Int32.toInt (-x_34) = _)
                refine g_lcmp act (gx gp_184 (w := 0x800c) rfl (by decide) rfl) (n := 128) rfl ?_
                refine g_ifNe act (gx gp_184 (w := 0x8a00831d) rfl (by decide) rfl) (tgt := 138) (n := 131) rfl rfl (fun h79 => ?_) (fun h79 => ?_)
                · simp only [cmpEq] at h79
                  refine g_constI act (gx gp_184 (w := 0x40000000400000001000000008b01) rfl (by decide) rfl) (n := 139) (x := (0 : Int32)) (by decide) rfl ?_
                  refine g_ior act (gx gp_184 (w := 0x8c4b) rfl (by decide) rfl) (n := 140) rfl ?_
                  refine g_storeI act (gx gp_184 (w := 0x3008d10) rfl (by decide) rfl) (a := 3) (n := 141) rfl rfl (L2 := [some (.ref 124), some (.int a), some (.int b), some (.int (si ||| (0 : Int32))), some (.int xi), some (.int x_34)]) rfl ?_
                  refine g_iinc act (gx gp_184 (w := 0x80000001000004009009) rfl (by decide) rfl) (a := 4) (i := (1 : Int32)) (n := 144) rfl (by decide) rfl rfl (L2 := [some (.ref 124), some (.int a), some (.int b), some (.int (si ||| (0 : Int32))), some (.int (xi + (1 : Int32))), some (.int x_34)]) rfl ?_
                  have v_42 := iv_addN hxi (show (1 : Int32).toInt = ((1 : Nat) : Int) from by decide) (show (j9 + 1) < 2147483648 by omega)
                  refine g_goto act (gx gp_184 (w := 0x2507) rfl (by decide) rfl) (n := 37) rfl ?_
                  exact n_forget (d := D_184) (L2 := [some (.ref 124), some (.int a), some (.int b), some (.int (si ||| (0 : Int32))), some (.int (xi + (1 : Int32))), none]) (fun i v hi => by
                    match i, hi with
                    | 0, hi => exact hi
                    | 1, hi => exact hi
                    | 2, hi => exact hi
                    | 3, hi => exact hi
                    | 4, hi => exact hi
                    | 5, hi => cases hi
                    | i + 6, hi => cases hi) (ih (j9 + 1) (by omega) (by omega) _ _ _ v_42 rw_12 f_13 f_14 f_15 f_16 f_17 f_18 f_19 f_20 f_21 hM_11 fr_23)
                · simp only [cmpEq] at h79
                  refine g_constI act (gx gp_184 (w := 0x40000000c00000009000000008401) rfl (by decide) rfl) (n := 132) (x := (1 : Int32)) (by decide) rfl ?_
                  refine g_loadI act (gx gp_184 (w := 0x4008602) rfl (by decide) rfl) (a := 4) (n := 134) rfl rfl rfl ?_
                  refine g_ishl act (gx gp_184 (w := 0x873b) rfl (by decide) rfl) (n := 135) rfl ?_
                  refine g_goto act (gx gp_184 (w := 0x8b07) rfl (by decide) rfl) (n := 139) rfl ?_
                  refine g_ior act (gx gp_184 (w := 0x8c4b) rfl (by decide) rfl) (n := 140) rfl ?_
                  refine g_storeI act (gx gp_184 (w := 0x3008d10) rfl (by decide) rfl) (a := 3) (n := 141) rfl rfl (L2 := [some (.ref 124), some (.int a), some (.int b), some (.int (si ||| ((1 : Int32) <<< (xi &&& 31)))), some (.int xi), some (.int x_34)]) rfl ?_
                  refine g_iinc act (gx gp_184 (w := 0x80000001000004009009) rfl (by decide) rfl) (a := 4) (i := (1 : Int32)) (n := 144) rfl (by decide) rfl rfl (L2 := [some (.ref 124), some (.int a), some (.int b), some (.int (si ||| ((1 : Int32) <<< (xi &&& 31)))), some (.int (xi + (1 : Int32))), some (.int x_34)]) rfl ?_
                  have v_43 := iv_addN hxi (show (1 : Int32).toInt = ((1 : Nat) : Int) from by decide) (show (j9 + 1) < 2147483648 by omega)
                  refine g_goto act (gx gp_184 (w := 0x2507) rfl (by decide) rfl) (n := 37) rfl ?_
                  exact n_forget (d := D_184) (L2 := [some (.ref 124), some (.int a), some (.int b), some (.int (si ||| ((1 : Int32) <<< (xi &&& 31)))), some (.int (xi + (1 : Int32))), none]) (fun i v hi => by
                    match i, hi with
                    | 0, hi => exact hi
                    | 1, hi => exact hi
                    | 2, hi => exact hi
                    | 3, hi => exact hi
                    | 4, hi => exact hi
                    | 5, hi => cases hi
                    | i + 6, hi => cases hi) (ih (j9 + 1) (by omega) (by omega) _ _ _ v_43 rw_12 f_13 f_14 f_15 f_16 f_17 f_18 f_19 f_20 f_21 hM_11 fr_23)
        · exact absurd hpo.1 (by omega)
      · simp only [i_eq, i0] at h11
        refine g_constI act (gx gp_184 (w := 0x40000000c00000009000000004401) rfl (by decide) rfl) (n := 68) (x := (1 : Int32)) (by decide) rfl ?_
        refine g_goto act (gx gp_184 (w := 0x4807) rfl (by decide) rfl) (n := 72) rfl ?_
        refine n_call tb_pres act hEnd (gx (P := G_call) gp_184 (w := 0xa000000000000824330000d1004b0f) rfl (by decide) rfl) (d' := D_209) rfl (as := [.ref 124, .int xi, .int (1 : Int32)]) (rest := []) (b_flows hNW (ln9 := j9) (gr := 1) hxi (by omega) (show (1 : Int32).toInt = ((1 : Nat) : Int) from by decide) (by decide) ⟨rwj, fTo, fW⟩ fD (fun j9 => by have q9 := hdm j9; omega) hO (hX (by omega)) hM) (show (3 : Nat) = fb 0xa000000000000824330000d1004b0f % 16 by decide) (by show (3 : Nat) ≤ 9; decide) (fun _ => ⟨_, _, rfl, _, shp_at rwj.1, Or.inr (show fb 0xa000000000000824330000d1004b0f >>> 68 = 10 by decide)⟩) (by omega) (by show 8 + (9 + 11) + 87 ≤ R.locals; omega) (by show (0 : Nat) ≤ 8; decide) (by show kc + 0 ≤ _; omega) (by show ks + 0 ≤ _; omega) (fun r9 hs_44 hpo hr9 => ?_) (fun x9 hs9 hx9 hpo => ?_)
        · obtain rfl : r9 = none := hr9.elim (fun q => q.2) (fun q => absurd rfl q.1)
          obtain ⟨-, t_45, w_46, e_47, e_48, hK_49, fr_50⟩ := hpo
          have hM_51 := ModF.w0 hM fr_50
          have rw_52 := rwj.fr fr_50 W0_rw
          have f_53 := fTo.fr (fun j9 _ => fr_50.2.2 125 j9 (by unfold W0; omega))
          have f_54 := fW.fr (fun j9 _ => fr_50.2.2 127 j9 (by unfold W0; omega))
          have f_55 := fD.fr (fun j9 _ => fr_50.2.2 135 j9 (by unfold W0; omega))
          have f_56 := fL.fr (fun j9 _ => fr_50.2.2 136 j9 (by unfold W0; omega))
          have f_57 := fE.fr (fun j9 _ => fr_50.2.2 137 j9 (by unfold W0; omega))
          have f_58 := rd_fr fr_50 f24 (by unfold W0; omega)
          have f_59 := hO.fr (fun j9 _ _ => ⟨fr_50.2.2 142 j9 (by unfold W0; omega), fr_50.2.2 143 j9 (by unfold W0; omega)⟩)
          have f_60 := hK.fr (fun j9 _ _ => ⟨fr_50.2.2 131 j9 (by unfold W0; omega), fr_50.2.2 132 j9 (by unfold W0; omega)⟩)
          have f_61 := fun q9 => (hX q9).fr (fun j9 _ _ => ⟨fr_50.2.2 131 j9 (by unfold W0; omega), fr_50.2.2 132 j9 (by unfold W0; omega)⟩)
          have fr_63 := hfr.tr (fr_50.mono (fun k9 j9 h9 => by unfold W0 at h9; unfold WM; omega))
          clear rwj fTo fW fD fL fE f24 hO hK hX hM hfr
          show WpN (gp g0 wp) CLS p l e R s m args below meth c Q D_184.2.2.1 kc0 ks0 75 [some (.ref 124), some (.int a), some (.int b), some (.int si), some (.int xi), none] (hs_44, kc, ks) []
          refine g_loadI act (gx gp_184 (w := 0x2004c02) rfl (by decide) rfl) (a := 2) (n := 76) rfl rfl rfl ?_
          refine g_ifEq act (gx gp_184 (w := 0x59004f0e) rfl (by decide) rfl) (tgt := 89) (n := 79) rfl rfl (fun h93 => ?_) (fun h93 => ?_)
          · simp only [i_eq, i0] at h93
            refine g_loadA act (gx gp_184 (w := 0x5a03) rfl (by decide) rfl) (a := 0) (n := 90) rfl rfl rfl ?_
            refine r_getf act (gx gp_184 (w := 0x3000549005d04) rfl (by decide) rfl) (n := 93) (ci := 9) (j := 21) (N := 39) rfl rfl rfl rw_52.1 (by decide) (rw_52.2 (21, 136, 32, 6) (by decide)).1 ?_
            refine g_loadI act (gx gp_184 (w := 0x4005f02) rfl (by decide) rfl) (a := 4) (n := 95) rfl rfl rfl ?_
            obtain ⟨x_64, e_65, hx_66⟩ := f_56 j9 (by omega)
            have b_67 := hlm j9
            refine r_iald act (gx gp_184 (w := 0x601a) rfl (by decide) rfl) (n := 96) (j := j9) rfl (rw_52.2 (21, 136, 32, 6) (by decide)).2 hxi (show j9 < 6 by omega) (v := .int x_64) e_65 ?_
            refine g_storeI act (gx gp_184 (w := 0x5006210) rfl (by decide) rfl) (a := 5) (n := 98) rfl rfl (L2 := [some (.ref 124), some (.int a), some (.int b), some (.int si), some (.int xi), some (.int x_64)]) rfl ?_
            refine g_loadI act (gx gp_184 (w := 0x3006302) rfl (by decide) rfl) (a := 3) (n := 99) rfl rfl rfl ?_
            refine g_loadA act (gx gp_184 (w := 0x6403) rfl (by decide) rfl) (a := 0) (n := 100) rfl rfl rfl ?_
            refine r_getf act (gx gp_184 (w := 0x2000209006704) rfl (by decide) rfl) (n := 103) (ci := 9) (j := 8) (N := 39) rfl rfl rfl rw_52.1 (by decide) (v := .long w_46) e_48 ?_
            refine g_constL act (gx gp_184 (w := 0x4000000000000000a000000006801) rfl (by decide) rfl) (n := 104) (x := 1) (by decide) rfl ?_
            refine g_lcmp act (gx gp_184 (w := 0x690c) rfl (by decide) rfl) (n := 105) rfl ?_
            refine g_ifNe act (gx gp_184 (w := 0x8a006c1d) rfl (by decide) rfl) (tgt := 138) (n := 108) rfl rfl (fun h101 => ?_) (fun h101 => ?_)
            · simp only [cmpEq, show (1 : Int64).toInt = 1 from by decide] at h101
              refine g_constI act (gx gp_184 (w := 0x40000000400000001000000008b01) rfl (by decide) rfl) (n := 139) (x := (0 : Int32)) (by decide) rfl ?_
              refine g_ior act (gx gp_184 (w := 0x8c4b) rfl (by decide) rfl) (n := 140) rfl ?_
              refine g_storeI act (gx gp_184 (w := 0x3008d10) rfl (by decide) rfl) (a := 3) (n := 141) rfl rfl (L2 := [some (.ref 124), some (.int a), some (.int b), some (.int (si ||| (0 : Int32))), some (.int xi), some (.int x_64)]) rfl ?_
              refine g_iinc act (gx gp_184 (w := 0x80000001000004009009) rfl (by decide) rfl) (a := 4) (i := (1 : Int32)) (n := 144) rfl (by decide) rfl rfl (L2 := [some (.ref 124), some (.int a), some (.int b), some (.int (si ||| (0 : Int32))), some (.int (xi + (1 : Int32))), some (.int x_64)]) rfl ?_
              have v_68 := iv_addN hxi (show (1 : Int32).toInt = ((1 : Nat) : Int) from by decide) (show (j9 + 1) < 2147483648 by omega)
              refine g_goto act (gx gp_184 (w := 0x2507) rfl (by decide) rfl) (n := 37) rfl ?_
              exact n_forget (d := D_184) (L2 := [some (.ref 124), some (.int a), some (.int b), some (.int (si ||| (0 : Int32))), some (.int (xi + (1 : Int32))), none]) (fun i v hi => by
                match i, hi with
                | 0, hi => exact hi
                | 1, hi => exact hi
                | 2, hi => exact hi
                | 3, hi => exact hi
                | 4, hi => exact hi
                | 5, hi => cases hi
                | i + 6, hi => cases hi) (ih (j9 + 1) (by omega) (by omega) _ _ _ v_68 rw_52 f_53 f_54 f_55 f_56 f_57 f_58 f_59 f_60 f_61 hM_51 fr_63)
            · simp only [cmpEq, show (1 : Int64).toInt = 1 from by decide] at h101
              refine g_loadA act (gx gp_184 (w := 0x6d03) rfl (by decide) rfl) (a := 0) (n := 109) rfl rfl rfl ?_
              refine r_getf act (gx gp_184 (w := 0x20001c9007004) rfl (by decide) rfl) (n := 112) (ci := 9) (j := 7) (N := 39) rfl rfl rfl rw_52.1 (by decide) (v := .long t_45) e_47 ?_
              refine g_loadI act (gx gp_184 (w := 0x5007202) rfl (by decide) rfl) (a := 5) (n := 114) rfl rfl rfl ?_
              refine g_i2l act (gx gp_184 (w := 0x732c) rfl (by decide) rfl) (n := 115) rfl ?_
              have v_69 := lw_i2l hx_66
              refine g_lcmp act (gx gp_184 (w := 0x740c) rfl (by decide) rfl) (n := 116) rfl ?_
              refine g_ifEq act (gx gp_184 (w := 0x8300770e) rfl (by decide) rfl) (tgt := 131) (n := 119) rfl rfl (fun h109 => ?_) (fun h109 => ?_)
              · simp only [cmpEq] at h109
                refine g_constI act (gx gp_184 (w := 0x40000000c00000009000000008401) rfl (by decide) rfl) (n := 132) (x := (1 : Int32)) (by decide) rfl ?_
                refine g_loadI act (gx gp_184 (w := 0x4008602) rfl (by decide) rfl) (a := 4) (n := 134) rfl rfl rfl ?_
                refine g_ishl act (gx gp_184 (w := 0x873b) rfl (by decide) rfl) (n := 135) rfl ?_
                refine g_goto act (gx gp_184 (w := 0x8b07) rfl (by decide) rfl) (n := 139) rfl ?_
                refine g_ior act (gx gp_184 (w := 0x8c4b) rfl (by decide) rfl) (n := 140) rfl ?_
                refine g_storeI act (gx gp_184 (w := 0x3008d10) rfl (by decide) rfl) (a := 3) (n := 141) rfl rfl (L2 := [some (.ref 124), some (.int a), some (.int b), some (.int (si ||| ((1 : Int32) <<< (xi &&& 31)))), some (.int xi), some (.int x_64)]) rfl ?_
                refine g_iinc act (gx gp_184 (w := 0x80000001000004009009) rfl (by decide) rfl) (a := 4) (i := (1 : Int32)) (n := 144) rfl (by decide) rfl rfl (L2 := [some (.ref 124), some (.int a), some (.int b), some (.int (si ||| ((1 : Int32) <<< (xi &&& 31)))), some (.int (xi + (1 : Int32))), some (.int x_64)]) rfl ?_
                have v_70 := iv_addN hxi (show (1 : Int32).toInt = ((1 : Nat) : Int) from by decide) (show (j9 + 1) < 2147483648 by omega)
                refine g_goto act (gx gp_184 (w := 0x2507) rfl (by decide) rfl) (n := 37) rfl ?_
                exact n_forget (d := D_184) (L2 := [some (.ref 124), some (.int a), some (.int b), some (.int (si ||| ((1 : Int32) <<< (xi &&& 31)))), some (.int (xi + (1 : Int32))), none]) (fun i v hi => by
                  match i, hi with
                  | 0, hi => exact hi
                  | 1, hi => exact hi
                  | 2, hi => exact hi
                  | 3, hi => exact hi
                  | 4, hi => exact hi
                  | 5, hi => cases hi
                  | i + 6, hi => cases hi) (ih (j9 + 1) (by omega) (by omega) _ _ _ v_70 rw_52 f_53 f_54 f_55 f_56 f_57 f_58 f_59 f_60 f_61 hM_51 fr_63)
              · simp only [cmpEq] at h109
                refine g_loadA act (gx gp_184 (w := 0x7803) rfl (by decide) rfl) (a := 0) (n := 120) rfl rfl rfl ?_
                refine r_getf act (gx gp_184 (w := 0x20001c9007b04) rfl (by decide) rfl) (n := 123) (ci := 9) (j := 7) (N := 39) rfl rfl rfl rw_52.1 (by decide) (v := .long t_45) e_47 ?_
                refine g_loadI act (gx gp_184 (w := 0x5007d02) rfl (by decide) rfl) (a := 5) (n := 125) rfl rfl rfl ?_
                refine g_ineg act (gx gp_184 (w := 0x7e4c) rfl (by decide) rfl) (n := 126) rfl ?_
                refine g_i2l act (gx gp_184 (w := 0x7f2c) rfl (by decide) rfl) (n := 127) rfl ?_
                have v_71 := lw_i2l (rfl : Int32.toInt (-x_64) = _)
                refine g_lcmp act (gx gp_184 (w := 0x800c) rfl (by decide) rfl) (n := 128) rfl ?_
                refine g_ifNe act (gx gp_184 (w := 0x8a00831d) rfl (by decide) rfl) (tgt := 138) (n := 131) rfl rfl (fun h120 => ?_) (fun h120 => ?_)
                · simp only [cmpEq] at h120
                  refine g_constI act (gx gp_184 (w := 0x40000000400000001000000008b01) rfl (by decide) rfl) (n := 139) (x := (0 : Int32)) (by decide) rfl ?_
                  refine g_ior act (gx gp_184 (w := 0x8c4b) rfl (by decide) rfl) (n := 140) rfl ?_
                  refine g_storeI act (gx gp_184 (w := 0x3008d10) rfl (by decide) rfl) (a := 3) (n := 141) rfl rfl (L2 := [some (.ref 124), some (.int a), some (.int b), some (.int (si ||| (0 : Int32))), some (.int xi), some (.int x_64)]) rfl ?_
                  refine g_iinc act (gx gp_184 (w := 0x80000001000004009009) rfl (by decide) rfl) (a := 4) (i := (1 : Int32)) (n := 144) rfl (by decide) rfl rfl (L2 := [some (.ref 124), some (.int a), some (.int b), some (.int (si ||| (0 : Int32))), some (.int (xi + (1 : Int32))), some (.int x_64)]) rfl ?_
                  have v_72 := iv_addN hxi (show (1 : Int32).toInt = ((1 : Nat) : Int) from by decide) (show (j9 + 1) < 2147483648 by omega)
                  refine g_goto act (gx gp_184 (w := 0x2507) rfl (by decide) rfl) (n := 37) rfl ?_
                  exact n_forget (d := D_184) (L2 := [some (.ref 124), some (.int a), some (.int b), some (.int (si ||| (0 : Int32))), some (.int (xi + (1 : Int32))), none]) (fun i v hi => by
                    match i, hi with
                    | 0, hi => exact hi
                    | 1, hi => exact hi
                    | 2, hi => exact hi
                    | 3, hi => exact hi
                    | 4, hi => exact hi
                    | 5, hi => cases hi
                    | i + 6, hi => cases hi) (ih (j9 + 1) (by omega) (by omega) _ _ _ v_72 rw_52 f_53 f_54 f_55 f_56 f_57 f_58 f_59 f_60 f_61 hM_51 fr_63)
                · simp only [cmpEq] at h120
                  refine g_constI act (gx gp_184 (w := 0x40000000c00000009000000008401) rfl (by decide) rfl) (n := 132) (x := (1 : Int32)) (by decide) rfl ?_
                  refine g_loadI act (gx gp_184 (w := 0x4008602) rfl (by decide) rfl) (a := 4) (n := 134) rfl rfl rfl ?_
                  refine g_ishl act (gx gp_184 (w := 0x873b) rfl (by decide) rfl) (n := 135) rfl ?_
                  refine g_goto act (gx gp_184 (w := 0x8b07) rfl (by decide) rfl) (n := 139) rfl ?_
                  refine g_ior act (gx gp_184 (w := 0x8c4b) rfl (by decide) rfl) (n := 140) rfl ?_
                  refine g_storeI act (gx gp_184 (w := 0x3008d10) rfl (by decide) rfl) (a := 3) (n := 141) rfl rfl (L2 := [some (.ref 124), some (.int a), some (.int b), some (.int (si ||| ((1 : Int32) <<< (xi &&& 31)))), some (.int xi), some (.int x_64)]) rfl ?_
                  refine g_iinc act (gx gp_184 (w := 0x80000001000004009009) rfl (by decide) rfl) (a := 4) (i := (1 : Int32)) (n := 144) rfl (by decide) rfl rfl (L2 := [some (.ref 124), some (.int a), some (.int b), some (.int (si ||| ((1 : Int32) <<< (xi &&& 31)))), some (.int (xi + (1 : Int32))), some (.int x_64)]) rfl ?_
                  have v_73 := iv_addN hxi (show (1 : Int32).toInt = ((1 : Nat) : Int) from by decide) (show (j9 + 1) < 2147483648 by omega)
                  refine g_goto act (gx gp_184 (w := 0x2507) rfl (by decide) rfl) (n := 37) rfl ?_
                  exact n_forget (d := D_184) (L2 := [some (.ref 124), some (.int a), some (.int b), some (.int (si ||| ((1 : Int32) <<< (xi &&& 31)))), some (.int (xi + (1 : Int32))), none]) (fun i v hi => by
                    match i, hi with
                    | 0, hi => exact hi
                    | 1, hi => exact hi
                    | 2, hi => exact hi
                    | 3, hi => exact hi
                    | 4, hi => exact hi
                    | 5, hi => cases hi
                    | i + 6, hi => cases hi) (ih (j9 + 1) (by omega) (by omega) _ _ _ v_73 rw_52 f_53 f_54 f_55 f_56 f_57 f_58 f_59 f_60 f_61 hM_51 fr_63)
          · simp only [i_eq, i0] at h93
            refine g_loadA act (gx gp_184 (w := 0x5003) rfl (by decide) rfl) (a := 0) (n := 80) rfl rfl rfl ?_
            refine r_getf act (gx gp_184 (w := 0x3000589005304) rfl (by decide) rfl) (n := 83) (ci := 9) (j := 22) (N := 39) rfl rfl rfl rw_52.1 (by decide) (rw_52.2 (22, 137, 32, 6) (by decide)).1 ?_
            refine g_loadI act (gx gp_184 (w := 0x4005502) rfl (by decide) rfl) (a := 4) (n := 85) rfl rfl rfl ?_
            obtain ⟨x_74, e_75, hx_76⟩ := f_57 j9 (by omega)
            have b_77 := hem j9
            refine r_iald act (gx gp_184 (w := 0x561a) rfl (by decide) rfl) (n := 86) (j := j9) rfl (rw_52.2 (22, 137, 32, 6) (by decide)).2 hxi (show j9 < 6 by omega) (v := .int x_74) e_75 ?_
            refine g_goto act (gx gp_184 (w := 0x6007) rfl (by decide) rfl) (n := 96) rfl ?_
            refine g_storeI act (gx gp_184 (w := 0x5006210) rfl (by decide) rfl) (a := 5) (n := 98) rfl rfl (L2 := [some (.ref 124), some (.int a), some (.int b), some (.int si), some (.int xi), some (.int x_74)]) rfl ?_
            refine g_loadI act (gx gp_184 (w := 0x3006302) rfl (by decide) rfl) (a := 3) (n := 99) rfl rfl rfl ?_
            refine g_loadA act (gx gp_184 (w := 0x6403) rfl (by decide) rfl) (a := 0) (n := 100) rfl rfl rfl ?_
            refine r_getf act (gx gp_184 (w := 0x2000209006704) rfl (by decide) rfl) (n := 103) (ci := 9) (j := 8) (N := 39) rfl rfl rfl rw_52.1 (by decide) (v := .long w_46) e_48 ?_
            refine g_constL act (gx gp_184 (w := 0x4000000000000000a000000006801) rfl (by decide) rfl) (n := 104) (x := 1) (by decide) rfl ?_
            refine g_lcmp act (gx gp_184 (w := 0x690c) rfl (by decide) rfl) (n := 105) rfl ?_
            refine g_ifNe act (gx gp_184 (w := 0x8a006c1d) rfl (by decide) rfl) (tgt := 138) (n := 108) rfl rfl (fun h139 => ?_) (fun h139 => ?_)
            · simp only [cmpEq, show (1 : Int64).toInt = 1 from by decide] at h139
              refine g_constI act (gx gp_184 (w := 0x40000000400000001000000008b01) rfl (by decide) rfl) (n := 139) (x := (0 : Int32)) (by decide) rfl ?_
              refine g_ior act (gx gp_184 (w := 0x8c4b) rfl (by decide) rfl) (n := 140) rfl ?_
              refine g_storeI act (gx gp_184 (w := 0x3008d10) rfl (by decide) rfl) (a := 3) (n := 141) rfl rfl (L2 := [some (.ref 124), some (.int a), some (.int b), some (.int (si ||| (0 : Int32))), some (.int xi), some (.int x_74)]) rfl ?_
              refine g_iinc act (gx gp_184 (w := 0x80000001000004009009) rfl (by decide) rfl) (a := 4) (i := (1 : Int32)) (n := 144) rfl (by decide) rfl rfl (L2 := [some (.ref 124), some (.int a), some (.int b), some (.int (si ||| (0 : Int32))), some (.int (xi + (1 : Int32))), some (.int x_74)]) rfl ?_
              have v_78 := iv_addN hxi (show (1 : Int32).toInt = ((1 : Nat) : Int) from by decide) (show (j9 + 1) < 2147483648 by omega)
              refine g_goto act (gx gp_184 (w := 0x2507) rfl (by decide) rfl) (n := 37) rfl ?_
              exact n_forget (d := D_184) (L2 := [some (.ref 124), some (.int a), some (.int b), some (.int (si ||| (0 : Int32))), some (.int (xi + (1 : Int32))), none]) (fun i v hi => by
                match i, hi with
                | 0, hi => exact hi
                | 1, hi => exact hi
                | 2, hi => exact hi
                | 3, hi => exact hi
                | 4, hi => exact hi
                | 5, hi => cases hi
                | i + 6, hi => cases hi) (ih (j9 + 1) (by omega) (by omega) _ _ _ v_78 rw_52 f_53 f_54 f_55 f_56 f_57 f_58 f_59 f_60 f_61 hM_51 fr_63)
            · simp only [cmpEq, show (1 : Int64).toInt = 1 from by decide] at h139
              refine g_loadA act (gx gp_184 (w := 0x6d03) rfl (by decide) rfl) (a := 0) (n := 109) rfl rfl rfl ?_
              refine r_getf act (gx gp_184 (w := 0x20001c9007004) rfl (by decide) rfl) (n := 112) (ci := 9) (j := 7) (N := 39) rfl rfl rfl rw_52.1 (by decide) (v := .long t_45) e_47 ?_
              refine g_loadI act (gx gp_184 (w := 0x5007202) rfl (by decide) rfl) (a := 5) (n := 114) rfl rfl rfl ?_
              refine g_i2l act (gx gp_184 (w := 0x732c) rfl (by decide) rfl) (n := 115) rfl ?_
              have v_79 := lw_i2l hx_76
              refine g_lcmp act (gx gp_184 (w := 0x740c) rfl (by decide) rfl) (n := 116) rfl ?_
              refine g_ifEq act (gx gp_184 (w := 0x8300770e) rfl (by decide) rfl) (tgt := 131) (n := 119) rfl rfl (fun h147 => ?_) (fun h147 => ?_)
              · simp only [cmpEq] at h147
                refine g_constI act (gx gp_184 (w := 0x40000000c00000009000000008401) rfl (by decide) rfl) (n := 132) (x := (1 : Int32)) (by decide) rfl ?_
                refine g_loadI act (gx gp_184 (w := 0x4008602) rfl (by decide) rfl) (a := 4) (n := 134) rfl rfl rfl ?_
                refine g_ishl act (gx gp_184 (w := 0x873b) rfl (by decide) rfl) (n := 135) rfl ?_
                refine g_goto act (gx gp_184 (w := 0x8b07) rfl (by decide) rfl) (n := 139) rfl ?_
                refine g_ior act (gx gp_184 (w := 0x8c4b) rfl (by decide) rfl) (n := 140) rfl ?_
                refine g_storeI act (gx gp_184 (w := 0x3008d10) rfl (by decide) rfl) (a := 3) (n := 141) rfl rfl (L2 := [some (.ref 124), some (.int a), some (.int b), some (.int (si ||| ((1 : Int32) <<< (xi &&& 31)))), some (.int xi), some (.int x_74)]) rfl ?_
                refine g_iinc act (gx gp_184 (w := 0x80000001000004009009) rfl (by decide) rfl) (a := 4) (i := (1 : Int32)) (n := 144) rfl (by decide) rfl rfl (L2 := [some (.ref 124), some (.int a), some (.int b), some (.int (si ||| ((1 : Int32) <<< (xi &&& 31)))), some (.int (xi + (1 : Int32))), some (.int x_74)]) rfl ?_
                have v_80 := iv_addN hxi (show (1 : Int32).toInt = ((1 : Nat) : Int) from by decide) (show (j9 + 1) < 2147483648 by omega)
                refine g_goto act (gx gp_184 (w := 0x2507) rfl (by decide) rfl) (n := 37) rfl ?_
                exact n_forget (d := D_184) (L2 := [some (.ref 124), some (.int a), some (.int b), some (.int (si ||| ((1 : Int32) <<< (xi &&& 31)))), some (.int (xi + (1 : Int32))), none]) (fun i v hi => by
                  match i, hi with
                  | 0, hi => exact hi
                  | 1, hi => exact hi
                  | 2, hi => exact hi
                  | 3, hi => exact hi
                  | 4, hi => exact hi
                  | 5, hi => cases hi
                  | i + 6, hi => cases hi) (ih (j9 + 1) (by omega) (by omega) _ _ _ v_80 rw_52 f_53 f_54 f_55 f_56 f_57 f_58 f_59 f_60 f_61 hM_51 fr_63)
              · simp only [cmpEq] at h147
                refine g_loadA act (gx gp_184 (w := 0x7803) rfl (by decide) rfl) (a := 0) (n := 120) rfl rfl rfl ?_
                refine r_getf act (gx gp_184 (w := 0x20001c9007b04) rfl (by decide) rfl) (n := 123) (ci := 9) (j := 7) (N := 39) rfl rfl rfl rw_52.1 (by decide) (v := .long t_45) e_47 ?_
                refine g_loadI act (gx gp_184 (w := 0x5007d02) rfl (by decide) rfl) (a := 5) (n := 125) rfl rfl rfl ?_
                refine g_ineg act (gx gp_184 (w := 0x7e4c) rfl (by decide) rfl) (n := 126) rfl ?_
                refine g_i2l act (gx gp_184 (w := 0x7f2c) rfl (by decide) rfl) (n := 127) rfl ?_
                have v_81 := lw_i2l (rfl : Int32.toInt (-x_74) = _)
                refine g_lcmp act (gx gp_184 (w := 0x800c) rfl (by decide) rfl) (n := 128) rfl ?_
                refine g_ifNe act (gx gp_184 (w := 0x8a00831d) rfl (by decide) rfl) (tgt := 138) (n := 131) rfl rfl (fun h158 => ?_) (fun h158 => ?_)
                · simp only [cmpEq] at h158
                  refine g_constI act (gx gp_184 (w := 0x40000000400000001000000008b01) rfl (by decide) rfl) (n := 139) (x := (0 : Int32)) (by decide) rfl ?_
                  refine g_ior act (gx gp_184 (w := 0x8c4b) rfl (by decide) rfl) (n := 140) rfl ?_
                  refine g_storeI act (gx gp_184 (w := 0x3008d10) rfl (by decide) rfl) (a := 3) (n := 141) rfl rfl (L2 := [some (.ref 124), some (.int a), some (.int b), some (.int (si ||| (0 : Int32))), some (.int xi), some (.int x_74)]) rfl ?_
                  refine g_iinc act (gx gp_184 (w := 0x80000001000004009009) rfl (by decide) rfl) (a := 4) (i := (1 : Int32)) (n := 144) rfl (by decide) rfl rfl (L2 := [some (.ref 124), some (.int a), some (.int b), some (.int (si ||| (0 : Int32))), some (.int (xi + (1 : Int32))), some (.int x_74)]) rfl ?_
                  have v_82 := iv_addN hxi (show (1 : Int32).toInt = ((1 : Nat) : Int) from by decide) (show (j9 + 1) < 2147483648 by omega)
                  refine g_goto act (gx gp_184 (w := 0x2507) rfl (by decide) rfl) (n := 37) rfl ?_
                  exact n_forget (d := D_184) (L2 := [some (.ref 124), some (.int a), some (.int b), some (.int (si ||| (0 : Int32))), some (.int (xi + (1 : Int32))), none]) (fun i v hi => by
                    match i, hi with
                    | 0, hi => exact hi
                    | 1, hi => exact hi
                    | 2, hi => exact hi
                    | 3, hi => exact hi
                    | 4, hi => exact hi
                    | 5, hi => cases hi
                    | i + 6, hi => cases hi) (ih (j9 + 1) (by omega) (by omega) _ _ _ v_82 rw_52 f_53 f_54 f_55 f_56 f_57 f_58 f_59 f_60 f_61 hM_51 fr_63)
                · simp only [cmpEq] at h158
                  refine g_constI act (gx gp_184 (w := 0x40000000c00000009000000008401) rfl (by decide) rfl) (n := 132) (x := (1 : Int32)) (by decide) rfl ?_
                  refine g_loadI act (gx gp_184 (w := 0x4008602) rfl (by decide) rfl) (a := 4) (n := 134) rfl rfl rfl ?_
                  refine g_ishl act (gx gp_184 (w := 0x873b) rfl (by decide) rfl) (n := 135) rfl ?_
                  refine g_goto act (gx gp_184 (w := 0x8b07) rfl (by decide) rfl) (n := 139) rfl ?_
                  refine g_ior act (gx gp_184 (w := 0x8c4b) rfl (by decide) rfl) (n := 140) rfl ?_
                  refine g_storeI act (gx gp_184 (w := 0x3008d10) rfl (by decide) rfl) (a := 3) (n := 141) rfl rfl (L2 := [some (.ref 124), some (.int a), some (.int b), some (.int (si ||| ((1 : Int32) <<< (xi &&& 31)))), some (.int xi), some (.int x_74)]) rfl ?_
                  refine g_iinc act (gx gp_184 (w := 0x80000001000004009009) rfl (by decide) rfl) (a := 4) (i := (1 : Int32)) (n := 144) rfl (by decide) rfl rfl (L2 := [some (.ref 124), some (.int a), some (.int b), some (.int (si ||| ((1 : Int32) <<< (xi &&& 31)))), some (.int (xi + (1 : Int32))), some (.int x_74)]) rfl ?_
                  have v_83 := iv_addN hxi (show (1 : Int32).toInt = ((1 : Nat) : Int) from by decide) (show (j9 + 1) < 2147483648 by omega)
                  refine g_goto act (gx gp_184 (w := 0x2507) rfl (by decide) rfl) (n := 37) rfl ?_
                  exact n_forget (d := D_184) (L2 := [some (.ref 124), some (.int a), some (.int b), some (.int (si ||| ((1 : Int32) <<< (xi &&& 31)))), some (.int (xi + (1 : Int32))), none]) (fun i v hi => by
                    match i, hi with
                    | 0, hi => exact hi
                    | 1, hi => exact hi
                    | 2, hi => exact hi
                    | 3, hi => exact hi
                    | 4, hi => exact hi
                    | 5, hi => cases hi
                    | i + 6, hi => cases hi) (ih (j9 + 1) (by omega) (by omega) _ _ _ v_83 rw_52 f_53 f_54 f_55 f_56 f_57 f_58 f_59 f_60 f_61 hM_51 fr_63)
        · exact absurd hpo.1 (by omega)
    · simp only [i_eq, i0] at h7
      refine g_loadA act (gx gp_184 (w := 0x3503) rfl (by decide) rfl) (a := 0) (n := 53) rfl rfl rfl ?_
      refine r_getf act (gx gp_184 (w := 0x609003804) rfl (by decide) rfl) (n := 56) (ci := 9) (j := 24) (N := 39) rfl rfl rfl rwj.1 (by decide) (v := .int oi) f24 ?_
      refine g_constI act (gx gp_184 (w := 0x3fffffffbfffffff9000000003901) rfl (by decide) rfl) (n := 57) (x := (-1 : Int32)) (by decide) rfl ?_
      refine g_icmpEq act (gx gp_184 (w := 0x93003c2e) rfl (by decide) rfl) (tgt := 147) (n := 60) rfl rfl (fun h171 => ?_) (fun h171 => ?_)
      · simp only [i_eq, show (-1 : Int32).toInt = -1 from by decide] at h171
        refine g_loadI act (gx gp_184 (w := 0x3009402) rfl (by decide) rfl) (a := 3) (n := 148) rfl rfl rfl ?_
        exact g_retI hEnd (gx gp_184 (w := 0x2f) rfl (by decide) rfl) ⟨rfl, ⟨_, rfl⟩, hM, hfr⟩ hk1 hk2
      · simp only [i_eq, show (-1 : Int32).toInt = -1 from by decide] at h171
        refine g_loadA act (gx gp_184 (w := 0x3d03) rfl (by decide) rfl) (a := 0) (n := 61) rfl rfl rfl ?_
        refine g_loadI act (gx gp_184 (w := 0x4003f02) rfl (by decide) rfl) (a := 4) (n := 63) rfl rfl rfl ?_
        refine g_loadI act (gx gp_184 (w := 0x2004002) rfl (by decide) rfl) (a := 2) (n := 64) rfl rfl rfl ?_
        refine g_ifEq act (gx gp_184 (w := 0x4700430e) rfl (by decide) rfl) (tgt := 71) (n := 67) rfl rfl (fun h176 => ?_) (fun h176 => ?_)
        · simp only [i_eq, i0] at h176
          refine g_constI act (gx gp_184 (w := 0x40000000400000001000000004801) rfl (by decide) rfl) (n := 72) (x := (0 : Int32)) (by decide) rfl ?_
          refine n_call tb_pres act hEnd (gx (P := G_call) gp_184 (w := 0xa000000000000824330000d1004b0f) rfl (by decide) rfl) (d' := D_209) rfl (as := [.ref 124, .int xi, .int (0 : Int32)]) (rest := []) (b_flows hNW (ln9 := j9) (gr := 0) hxi (by omega) (show (0 : Int32).toInt = ((0 : Nat) : Int) from by decide) (by decide) ⟨rwj, fTo, fW⟩ fD (fun j9 => by have q9 := hdm j9; omega) hO hK hM) (show (3 : Nat) = fb 0xa000000000000824330000d1004b0f % 16 by decide) (by show (3 : Nat) ≤ 9; decide) (fun _ => ⟨_, _, rfl, _, shp_at rwj.1, Or.inr (show fb 0xa000000000000824330000d1004b0f >>> 68 = 10 by decide)⟩) (by omega) (by show 8 + (9 + 11) + 87 ≤ R.locals; omega) (by show (0 : Nat) ≤ 8; decide) (by show kc + 0 ≤ _; omega) (by show ks + 0 ≤ _; omega) (fun r9 hs_84 hpo hr9 => ?_) (fun x9 hs9 hx9 hpo => ?_)
          · obtain rfl : r9 = none := hr9.elim (fun q => q.2) (fun q => absurd rfl q.1)
            obtain ⟨-, t_85, w_86, e_87, e_88, hK_89, fr_90⟩ := hpo
            have hM_91 := ModF.w0 hM fr_90
            have rw_92 := rwj.fr fr_90 W0_rw
            have f_93 := fTo.fr (fun j9 _ => fr_90.2.2 125 j9 (by unfold W0; omega))
            have f_94 := fW.fr (fun j9 _ => fr_90.2.2 127 j9 (by unfold W0; omega))
            have f_95 := fD.fr (fun j9 _ => fr_90.2.2 135 j9 (by unfold W0; omega))
            have f_96 := fL.fr (fun j9 _ => fr_90.2.2 136 j9 (by unfold W0; omega))
            have f_97 := fE.fr (fun j9 _ => fr_90.2.2 137 j9 (by unfold W0; omega))
            have f_98 := rd_fr fr_90 f24 (by unfold W0; omega)
            have f_99 := hO.fr (fun j9 _ _ => ⟨fr_90.2.2 142 j9 (by unfold W0; omega), fr_90.2.2 143 j9 (by unfold W0; omega)⟩)
            have f_100 := hK.fr (fun j9 _ _ => ⟨fr_90.2.2 131 j9 (by unfold W0; omega), fr_90.2.2 132 j9 (by unfold W0; omega)⟩)
            have f_101 := fun q9 => (hX q9).fr (fun j9 _ _ => ⟨fr_90.2.2 131 j9 (by unfold W0; omega), fr_90.2.2 132 j9 (by unfold W0; omega)⟩)
            have fr_103 := hfr.tr (fr_90.mono (fun k9 j9 h9 => by unfold W0 at h9; unfold WM; omega))
            clear rwj fTo fW fD fL fE f24 hO hK hX hM hfr
            show WpN (gp g0 wp) CLS p l e R s m args below meth c Q D_184.2.2.1 kc0 ks0 75 [some (.ref 124), some (.int a), some (.int b), some (.int si), some (.int xi), none] (hs_84, kc, ks) []
            refine g_loadI act (gx gp_184 (w := 0x2004c02) rfl (by decide) rfl) (a := 2) (n := 76) rfl rfl rfl ?_
            refine g_ifEq act (gx gp_184 (w := 0x59004f0e) rfl (by decide) rfl) (tgt := 89) (n := 79) rfl rfl (fun h179 => ?_) (fun h179 => ?_)
            · simp only [i_eq, i0] at h179
              refine g_loadA act (gx gp_184 (w := 0x5a03) rfl (by decide) rfl) (a := 0) (n := 90) rfl rfl rfl ?_
              refine r_getf act (gx gp_184 (w := 0x3000549005d04) rfl (by decide) rfl) (n := 93) (ci := 9) (j := 21) (N := 39) rfl rfl rfl rw_92.1 (by decide) (rw_92.2 (21, 136, 32, 6) (by decide)).1 ?_
              refine g_loadI act (gx gp_184 (w := 0x4005f02) rfl (by decide) rfl) (a := 4) (n := 95) rfl rfl rfl ?_
              obtain ⟨x_104, e_105, hx_106⟩ := f_96 j9 (by omega)
              have b_107 := hlm j9
              refine r_iald act (gx gp_184 (w := 0x601a) rfl (by decide) rfl) (n := 96) (j := j9) rfl (rw_92.2 (21, 136, 32, 6) (by decide)).2 hxi (show j9 < 6 by omega) (v := .int x_104) e_105 ?_
              refine g_storeI act (gx gp_184 (w := 0x5006210) rfl (by decide) rfl) (a := 5) (n := 98) rfl rfl (L2 := [some (.ref 124), some (.int a), some (.int b), some (.int si), some (.int xi), some (.int x_104)]) rfl ?_
              refine g_loadI act (gx gp_184 (w := 0x3006302) rfl (by decide) rfl) (a := 3) (n := 99) rfl rfl rfl ?_
              refine g_loadA act (gx gp_184 (w := 0x6403) rfl (by decide) rfl) (a := 0) (n := 100) rfl rfl rfl ?_
              refine r_getf act (gx gp_184 (w := 0x2000209006704) rfl (by decide) rfl) (n := 103) (ci := 9) (j := 8) (N := 39) rfl rfl rfl rw_92.1 (by decide) (v := .long w_86) e_88 ?_
              refine g_constL act (gx gp_184 (w := 0x4000000000000000a000000006801) rfl (by decide) rfl) (n := 104) (x := 1) (by decide) rfl ?_
              refine g_lcmp act (gx gp_184 (w := 0x690c) rfl (by decide) rfl) (n := 105) rfl ?_
              refine g_ifNe act (gx gp_184 (w := 0x8a006c1d) rfl (by decide) rfl) (tgt := 138) (n := 108) rfl rfl (fun h187 => ?_) (fun h187 => ?_)
              · simp only [cmpEq, show (1 : Int64).toInt = 1 from by decide] at h187
                refine g_constI act (gx gp_184 (w := 0x40000000400000001000000008b01) rfl (by decide) rfl) (n := 139) (x := (0 : Int32)) (by decide) rfl ?_
                refine g_ior act (gx gp_184 (w := 0x8c4b) rfl (by decide) rfl) (n := 140) rfl ?_
                refine g_storeI act (gx gp_184 (w := 0x3008d10) rfl (by decide) rfl) (a := 3) (n := 141) rfl rfl (L2 := [some (.ref 124), some (.int a), some (.int b), some (.int (si ||| (0 : Int32))), some (.int xi), some (.int x_104)]) rfl ?_
                refine g_iinc act (gx gp_184 (w := 0x80000001000004009009) rfl (by decide) rfl) (a := 4) (i := (1 : Int32)) (n := 144) rfl (by decide) rfl rfl (L2 := [some (.ref 124), some (.int a), some (.int b), some (.int (si ||| (0 : Int32))), some (.int (xi + (1 : Int32))), some (.int x_104)]) rfl ?_
                have v_108 := iv_addN hxi (show (1 : Int32).toInt = ((1 : Nat) : Int) from by decide) (show (j9 + 1) < 2147483648 by omega)
                refine g_goto act (gx gp_184 (w := 0x2507) rfl (by decide) rfl) (n := 37) rfl ?_
                exact n_forget (d := D_184) (L2 := [some (.ref 124), some (.int a), some (.int b), some (.int (si ||| (0 : Int32))), some (.int (xi + (1 : Int32))), none]) (fun i v hi => by
                  match i, hi with
                  | 0, hi => exact hi
                  | 1, hi => exact hi
                  | 2, hi => exact hi
                  | 3, hi => exact hi
                  | 4, hi => exact hi
                  | 5, hi => cases hi
                  | i + 6, hi => cases hi) (ih (j9 + 1) (by omega) (by omega) _ _ _ v_108 rw_92 f_93 f_94 f_95 f_96 f_97 f_98 f_99 f_100 f_101 hM_91 fr_103)
              · simp only [cmpEq, show (1 : Int64).toInt = 1 from by decide] at h187
                refine g_loadA act (gx gp_184 (w := 0x6d03) rfl (by decide) rfl) (a := 0) (n := 109) rfl rfl rfl ?_
                refine r_getf act (gx gp_184 (w := 0x20001c9007004) rfl (by decide) rfl) (n := 112) (ci := 9) (j := 7) (N := 39) rfl rfl rfl rw_92.1 (by decide) (v := .long t_85) e_87 ?_
                refine g_loadI act (gx gp_184 (w := 0x5007202) rfl (by decide) rfl) (a := 5) (n := 114) rfl rfl rfl ?_
                refine g_i2l act (gx gp_184 (w := 0x732c) rfl (by decide) rfl) (n := 115) rfl ?_
                have v_109 := lw_i2l hx_106
                refine g_lcmp act (gx gp_184 (w := 0x740c) rfl (by decide) rfl) (n := 116) rfl ?_
                refine g_ifEq act (gx gp_184 (w := 0x8300770e) rfl (by decide) rfl) (tgt := 131) (n := 119) rfl rfl (fun h195 => ?_) (fun h195 => ?_)
                · simp only [cmpEq] at h195
                  refine g_constI act (gx gp_184 (w := 0x40000000c00000009000000008401) rfl (by decide) rfl) (n := 132) (x := (1 : Int32)) (by decide) rfl ?_
                  refine g_loadI act (gx gp_184 (w := 0x4008602) rfl (by decide) rfl) (a := 4) (n := 134) rfl rfl rfl ?_
                  refine g_ishl act (gx gp_184 (w := 0x873b) rfl (by decide) rfl) (n := 135) rfl ?_
                  refine g_goto act (gx gp_184 (w := 0x8b07) rfl (by decide) rfl) (n := 139) rfl ?_
                  refine g_ior act (gx gp_184 (w := 0x8c4b) rfl (by decide) rfl) (n := 140) rfl ?_
                  refine g_storeI act (gx gp_184 (w := 0x3008d10) rfl (by decide) rfl) (a := 3) (n := 141) rfl rfl (L2 := [some (.ref 124), some (.int a), some (.int b), some (.int (si ||| ((1 : Int32) <<< (xi &&& 31)))), some (.int xi), some (.int x_104)]) rfl ?_
                  refine g_iinc act (gx gp_184 (w := 0x80000001000004009009) rfl (by decide) rfl) (a := 4) (i := (1 : Int32)) (n := 144) rfl (by decide) rfl rfl (L2 := [some (.ref 124), some (.int a), some (.int b), some (.int (si ||| ((1 : Int32) <<< (xi &&& 31)))), some (.int (xi + (1 : Int32))), some (.int x_104)]) rfl ?_
                  have v_110 := iv_addN hxi (show (1 : Int32).toInt = ((1 : Nat) : Int) from by decide) (show (j9 + 1) < 2147483648 by omega)
                  refine g_goto act (gx gp_184 (w := 0x2507) rfl (by decide) rfl) (n := 37) rfl ?_
                  exact n_forget (d := D_184) (L2 := [some (.ref 124), some (.int a), some (.int b), some (.int (si ||| ((1 : Int32) <<< (xi &&& 31)))), some (.int (xi + (1 : Int32))), none]) (fun i v hi => by
                    match i, hi with
                    | 0, hi => exact hi
                    | 1, hi => exact hi
                    | 2, hi => exact hi
                    | 3, hi => exact hi
                    | 4, hi => exact hi
                    | 5, hi => cases hi
                    | i + 6, hi => cases hi) (ih (j9 + 1) (by omega) (by omega) _ _ _ v_110 rw_92 f_93 f_94 f_95 f_96 f_97 f_98 f_99 f_100 f_101 hM_91 fr_103)
                · simp only [cmpEq] at h195
                  refine g_loadA act (gx gp_184 (w := 0x7803) rfl (by decide) rfl) (a := 0) (n := 120) rfl rfl rfl ?_
                  refine r_getf act (gx gp_184 (w := 0x20001c9007b04) rfl (by decide) rfl) (n := 123) (ci := 9) (j := 7) (N := 39) rfl rfl rfl rw_92.1 (by decide) (v := .long t_85) e_87 ?_
                  refine g_loadI act (gx gp_184 (w := 0x5007d02) rfl (by decide) rfl) (a := 5) (n := 125) rfl rfl rfl ?_
                  refine g_ineg act (gx gp_184 (w := 0x7e4c) rfl (by decide) rfl) (n := 126) rfl ?_
                  refine g_i2l act (gx gp_184 (w := 0x7f2c) rfl (by decide) rfl) (n := 127) rfl ?_
                  have v_111 := lw_i2l (rfl : Int32.toInt (-x_104) = _)
                  refine g_lcmp act (gx gp_184 (w := 0x800c) rfl (by decide) rfl) (n := 128) rfl ?_
                  refine g_ifNe act (gx gp_184 (w := 0x8a00831d) rfl (by decide) rfl) (tgt := 138) (n := 131) rfl rfl (fun h206 => ?_) (fun h206 => ?_)
                  · simp only [cmpEq] at h206
                    refine g_constI act (gx gp_184 (w := 0x40000000400000001000000008b01) rfl (by decide) rfl) (n := 139) (x := (0 : Int32)) (by decide) rfl ?_
                    refine g_ior act (gx gp_184 (w := 0x8c4b) rfl (by decide) rfl) (n := 140) rfl ?_
                    refine g_storeI act (gx gp_184 (w := 0x3008d10) rfl (by decide) rfl) (a := 3) (n := 141) rfl rfl (L2 := [some (.ref 124), some (.int a), some (.int b), some (.int (si ||| (0 : Int32))), some (.int xi), some (.int x_104)]) rfl ?_
                    refine g_iinc act (gx gp_184 (w := 0x80000001000004009009) rfl (by decide) rfl) (a := 4) (i := (1 : Int32)) (n := 144) rfl (by decide) rfl rfl (L2 := [some (.ref 124), some (.int a), some (.int b), some (.int (si ||| (0 : Int32))), some (.int (xi + (1 : Int32))), some (.int x_104)]) rfl ?_
                    have v_112 := iv_addN hxi (show (1 : Int32).toInt = ((1 : Nat) : Int) from by decide) (show (j9 + 1) < 2147483648 by omega)
                    refine g_goto act (gx gp_184 (w := 0x2507) rfl (by decide) rfl) (n := 37) rfl ?_
                    exact n_forget (d := D_184) (L2 := [some (.ref 124), some (.int a), some (.int b), some (.int (si ||| (0 : Int32))), some (.int (xi + (1 : Int32))), none]) (fun i v hi => by
                      match i, hi with
                      | 0, hi => exact hi
                      | 1, hi => exact hi
                      | 2, hi => exact hi
                      | 3, hi => exact hi
                      | 4, hi => exact hi
                      | 5, hi => cases hi
                      | i + 6, hi => cases hi) (ih (j9 + 1) (by omega) (by omega) _ _ _ v_112 rw_92 f_93 f_94 f_95 f_96 f_97 f_98 f_99 f_100 f_101 hM_91 fr_103)
                  · simp only [cmpEq] at h206
                    refine g_constI act (gx gp_184 (w := 0x40000000c00000009000000008401) rfl (by decide) rfl) (n := 132) (x := (1 : Int32)) (by decide) rfl ?_
                    refine g_loadI act (gx gp_184 (w := 0x4008602) rfl (by decide) rfl) (a := 4) (n := 134) rfl rfl rfl ?_
                    refine g_ishl act (gx gp_184 (w := 0x873b) rfl (by decide) rfl) (n := 135) rfl ?_
                    refine g_goto act (gx gp_184 (w := 0x8b07) rfl (by decide) rfl) (n := 139) rfl ?_
                    refine g_ior act (gx gp_184 (w := 0x8c4b) rfl (by decide) rfl) (n := 140) rfl ?_
                    refine g_storeI act (gx gp_184 (w := 0x3008d10) rfl (by decide) rfl) (a := 3) (n := 141) rfl rfl (L2 := [some (.ref 124), some (.int a), some (.int b), some (.int (si ||| ((1 : Int32) <<< (xi &&& 31)))), some (.int xi), some (.int x_104)]) rfl ?_
                    refine g_iinc act (gx gp_184 (w := 0x80000001000004009009) rfl (by decide) rfl) (a := 4) (i := (1 : Int32)) (n := 144) rfl (by decide) rfl rfl (L2 := [some (.ref 124), some (.int a), some (.int b), some (.int (si ||| ((1 : Int32) <<< (xi &&& 31)))), some (.int (xi + (1 : Int32))), some (.int x_104)]) rfl ?_
                    have v_113 := iv_addN hxi (show (1 : Int32).toInt = ((1 : Nat) : Int) from by decide) (show (j9 + 1) < 2147483648 by omega)
                    refine g_goto act (gx gp_184 (w := 0x2507) rfl (by decide) rfl) (n := 37) rfl ?_
                    exact n_forget (d := D_184) (L2 := [some (.ref 124), some (.int a), some (.int b), some (.int (si ||| ((1 : Int32) <<< (xi &&& 31)))), some (.int (xi + (1 : Int32))), none]) (fun i v hi => by
                      match i, hi with
                      | 0, hi => exact hi
                      | 1, hi => exact hi
                      | 2, hi => exact hi
                      | 3, hi => exact hi
                      | 4, hi => exact hi
                      | 5, hi => cases hi
                      | i + 6, hi => cases hi) (ih (j9 + 1) (by omega) (by omega) _ _ _ v_113 rw_92 f_93 f_94 f_95 f_96 f_97 f_98 f_99 f_100 f_101 hM_91 fr_103)
            · simp only [i_eq, i0] at h179
              refine g_loadA act (gx gp_184 (w := 0x5003) rfl (by decide) rfl) (a := 0) (n := 80) rfl rfl rfl ?_
              refine r_getf act (gx gp_184 (w := 0x3000589005304) rfl (by decide) rfl) (n := 83) (ci := 9) (j := 22) (N := 39) rfl rfl rfl rw_92.1 (by decide) (rw_92.2 (22, 137, 32, 6) (by decide)).1 ?_
              refine g_loadI act (gx gp_184 (w := 0x4005502) rfl (by decide) rfl) (a := 4) (n := 85) rfl rfl rfl ?_
              obtain ⟨x_114, e_115, hx_116⟩ := f_97 j9 (by omega)
              have b_117 := hem j9
              refine r_iald act (gx gp_184 (w := 0x561a) rfl (by decide) rfl) (n := 86) (j := j9) rfl (rw_92.2 (22, 137, 32, 6) (by decide)).2 hxi (show j9 < 6 by omega) (v := .int x_114) e_115 ?_
              refine g_goto act (gx gp_184 (w := 0x6007) rfl (by decide) rfl) (n := 96) rfl ?_
              refine g_storeI act (gx gp_184 (w := 0x5006210) rfl (by decide) rfl) (a := 5) (n := 98) rfl rfl (L2 := [some (.ref 124), some (.int a), some (.int b), some (.int si), some (.int xi), some (.int x_114)]) rfl ?_
              refine g_loadI act (gx gp_184 (w := 0x3006302) rfl (by decide) rfl) (a := 3) (n := 99) rfl rfl rfl ?_
              refine g_loadA act (gx gp_184 (w := 0x6403) rfl (by decide) rfl) (a := 0) (n := 100) rfl rfl rfl ?_
              refine r_getf act (gx gp_184 (w := 0x2000209006704) rfl (by decide) rfl) (n := 103) (ci := 9) (j := 8) (N := 39) rfl rfl rfl rw_92.1 (by decide) (v := .long w_86) e_88 ?_
              refine g_constL act (gx gp_184 (w := 0x4000000000000000a000000006801) rfl (by decide) rfl) (n := 104) (x := 1) (by decide) rfl ?_
              refine g_lcmp act (gx gp_184 (w := 0x690c) rfl (by decide) rfl) (n := 105) rfl ?_
              refine g_ifNe act (gx gp_184 (w := 0x8a006c1d) rfl (by decide) rfl) (tgt := 138) (n := 108) rfl rfl (fun h225 => ?_) (fun h225 => ?_)
              · simp only [cmpEq, show (1 : Int64).toInt = 1 from by decide] at h225
                refine g_constI act (gx gp_184 (w := 0x40000000400000001000000008b01) rfl (by decide) rfl) (n := 139) (x := (0 : Int32)) (by decide) rfl ?_
                refine g_ior act (gx gp_184 (w := 0x8c4b) rfl (by decide) rfl) (n := 140) rfl ?_
                refine g_storeI act (gx gp_184 (w := 0x3008d10) rfl (by decide) rfl) (a := 3) (n := 141) rfl rfl (L2 := [some (.ref 124), some (.int a), some (.int b), some (.int (si ||| (0 : Int32))), some (.int xi), some (.int x_114)]) rfl ?_
                refine g_iinc act (gx gp_184 (w := 0x80000001000004009009) rfl (by decide) rfl) (a := 4) (i := (1 : Int32)) (n := 144) rfl (by decide) rfl rfl (L2 := [some (.ref 124), some (.int a), some (.int b), some (.int (si ||| (0 : Int32))), some (.int (xi + (1 : Int32))), some (.int x_114)]) rfl ?_
                have v_118 := iv_addN hxi (show (1 : Int32).toInt = ((1 : Nat) : Int) from by decide) (show (j9 + 1) < 2147483648 by omega)
                refine g_goto act (gx gp_184 (w := 0x2507) rfl (by decide) rfl) (n := 37) rfl ?_
                exact n_forget (d := D_184) (L2 := [some (.ref 124), some (.int a), some (.int b), some (.int (si ||| (0 : Int32))), some (.int (xi + (1 : Int32))), none]) (fun i v hi => by
                  match i, hi with
                  | 0, hi => exact hi
                  | 1, hi => exact hi
                  | 2, hi => exact hi
                  | 3, hi => exact hi
                  | 4, hi => exact hi
                  | 5, hi => cases hi
                  | i + 6, hi => cases hi) (ih (j9 + 1) (by omega) (by omega) _ _ _ v_118 rw_92 f_93 f_94 f_95 f_96 f_97 f_98 f_99 f_100 f_101 hM_91 fr_103)
              · simp only [cmpEq, show (1 : Int64).toInt = 1 from by decide] at h225
                refine g_loadA act (gx gp_184 (w := 0x6d03) rfl (by decide) rfl) (a := 0) (n := 109) rfl rfl rfl ?_
                refine r_getf act (gx gp_184 (w := 0x20001c9007004) rfl (by decide) rfl) (n := 112) (ci := 9) (j := 7) (N := 39) rfl rfl rfl rw_92.1 (by decide) (v := .long t_85) e_87 ?_
                refine g_loadI act (gx gp_184 (w := 0x5007202) rfl (by decide) rfl) (a := 5) (n := 114) rfl rfl rfl ?_
                refine g_i2l act (gx gp_184 (w := 0x732c) rfl (by decide) rfl) (n := 115) rfl ?_
                have v_119 := lw_i2l hx_116
                refine g_lcmp act (gx gp_184 (w := 0x740c) rfl (by decide) rfl) (n := 116) rfl ?_
                refine g_ifEq act (gx gp_184 (w := 0x8300770e) rfl (by decide) rfl) (tgt := 131) (n := 119) rfl rfl (fun h233 => ?_) (fun h233 => ?_)
                · simp only [cmpEq] at h233
                  refine g_constI act (gx gp_184 (w := 0x40000000c00000009000000008401) rfl (by decide) rfl) (n := 132) (x := (1 : Int32)) (by decide) rfl ?_
                  refine g_loadI act (gx gp_184 (w := 0x4008602) rfl (by decide) rfl) (a := 4) (n := 134) rfl rfl rfl ?_
                  refine g_ishl act (gx gp_184 (w := 0x873b) rfl (by decide) rfl) (n := 135) rfl ?_
                  refine g_goto act (gx gp_184 (w := 0x8b07) rfl (by decide) rfl) (n := 139) rfl ?_
                  refine g_ior act (gx gp_184 (w := 0x8c4b) rfl (by decide) rfl) (n := 140) rfl ?_
                  refine g_storeI act (gx gp_184 (w := 0x3008d10) rfl (by decide) rfl) (a := 3) (n := 141) rfl rfl (L2 := [some (.ref 124), some (.int a), some (.int b), some (.int (si ||| ((1 : Int32) <<< (xi &&& 31)))), some (.int xi), some (.int x_114)]) rfl ?_
                  refine g_iinc act (gx gp_184 (w := 0x80000001000004009009) rfl (by decide) rfl) (a := 4) (i := (1 : Int32)) (n := 144) rfl (by decide) rfl rfl (L2 := [some (.ref 124), some (.int a), some (.int b), some (.int (si ||| ((1 : Int32) <<< (xi &&& 31)))), some (.int (xi + (1 : Int32))), some (.int x_114)]) rfl ?_
                  have v_120 := iv_addN hxi (show (1 : Int32).toInt = ((1 : Nat) : Int) from by decide) (show (j9 + 1) < 2147483648 by omega)
                  refine g_goto act (gx gp_184 (w := 0x2507) rfl (by decide) rfl) (n := 37) rfl ?_
                  exact n_forget (d := D_184) (L2 := [some (.ref 124), some (.int a), some (.int b), some (.int (si ||| ((1 : Int32) <<< (xi &&& 31)))), some (.int (xi + (1 : Int32))), none]) (fun i v hi => by
                    match i, hi with
                    | 0, hi => exact hi
                    | 1, hi => exact hi
                    | 2, hi => exact hi
                    | 3, hi => exact hi
                    | 4, hi => exact hi
                    | 5, hi => cases hi
                    | i + 6, hi => cases hi) (ih (j9 + 1) (by omega) (by omega) _ _ _ v_120 rw_92 f_93 f_94 f_95 f_96 f_97 f_98 f_99 f_100 f_101 hM_91 fr_103)
                · simp only [cmpEq] at h233
                  refine g_loadA act (gx gp_184 (w := 0x7803) rfl (by decide) rfl) (a := 0) (n := 120) rfl rfl rfl ?_
                  refine r_getf act (gx gp_184 (w := 0x20001c9007b04) rfl (by decide) rfl) (n := 123) (ci := 9) (j := 7) (N := 39) rfl rfl rfl rw_92.1 (by decide) (v := .long t_85) e_87 ?_
                  refine g_loadI act (gx gp_184 (w := 0x5007d02) rfl (by decide) rfl) (a := 5) (n := 125) rfl rfl rfl ?_
                  refine g_ineg act (gx gp_184 (w := 0x7e4c) rfl (by decide) rfl) (n := 126) rfl ?_
                  refine g_i2l act (gx gp_184 (w := 0x7f2c) rfl (by decide) rfl) (n := 127) rfl ?_
                  have v_121 := lw_i2l (rfl : Int32.toInt (-x_114) = _)
                  refine g_lcmp act (gx gp_184 (w := 0x800c) rfl (by decide) rfl) (n := 128) rfl ?_
                  refine g_ifNe act (gx gp_184 (w := 0x8a00831d) rfl (by decide) rfl) (tgt := 138) (n := 131) rfl rfl (fun h244 => ?_) (fun h244 => ?_)
                  · simp only [cmpEq] at h244
                    refine g_constI act (gx gp_184 (w := 0x40000000400000001000000008b01) rfl (by decide) rfl) (n := 139) (x := (0 : Int32)) (by decide) rfl ?_
                    refine g_ior act (gx gp_184 (w := 0x8c4b) rfl (by decide) rfl) (n := 140) rfl ?_
                    refine g_storeI act (gx gp_184 (w := 0x3008d10) rfl (by decide) rfl) (a := 3) (n := 141) rfl rfl (L2 := [some (.ref 124), some (.int a), some (.int b), some (.int (si ||| (0 : Int32))), some (.int xi), some (.int x_114)]) rfl ?_
                    refine g_iinc act (gx gp_184 (w := 0x80000001000004009009) rfl (by decide) rfl) (a := 4) (i := (1 : Int32)) (n := 144) rfl (by decide) rfl rfl (L2 := [some (.ref 124), some (.int a), some (.int b), some (.int (si ||| (0 : Int32))), some (.int (xi + (1 : Int32))), some (.int x_114)]) rfl ?_
                    have v_122 := iv_addN hxi (show (1 : Int32).toInt = ((1 : Nat) : Int) from by decide) (show (j9 + 1) < 2147483648 by omega)
                    refine g_goto act (gx gp_184 (w := 0x2507) rfl (by decide) rfl) (n := 37) rfl ?_
                    exact n_forget (d := D_184) (L2 := [some (.ref 124), some (.int a), some (.int b), some (.int (si ||| (0 : Int32))), some (.int (xi + (1 : Int32))), none]) (fun i v hi => by
                      match i, hi with
                      | 0, hi => exact hi
                      | 1, hi => exact hi
                      | 2, hi => exact hi
                      | 3, hi => exact hi
                      | 4, hi => exact hi
                      | 5, hi => cases hi
                      | i + 6, hi => cases hi) (ih (j9 + 1) (by omega) (by omega) _ _ _ v_122 rw_92 f_93 f_94 f_95 f_96 f_97 f_98 f_99 f_100 f_101 hM_91 fr_103)
                  · simp only [cmpEq] at h244
                    refine g_constI act (gx gp_184 (w := 0x40000000c00000009000000008401) rfl (by decide) rfl) (n := 132) (x := (1 : Int32)) (by decide) rfl ?_
                    refine g_loadI act (gx gp_184 (w := 0x4008602) rfl (by decide) rfl) (a := 4) (n := 134) rfl rfl rfl ?_
                    refine g_ishl act (gx gp_184 (w := 0x873b) rfl (by decide) rfl) (n := 135) rfl ?_
                    refine g_goto act (gx gp_184 (w := 0x8b07) rfl (by decide) rfl) (n := 139) rfl ?_
                    refine g_ior act (gx gp_184 (w := 0x8c4b) rfl (by decide) rfl) (n := 140) rfl ?_
                    refine g_storeI act (gx gp_184 (w := 0x3008d10) rfl (by decide) rfl) (a := 3) (n := 141) rfl rfl (L2 := [some (.ref 124), some (.int a), some (.int b), some (.int (si ||| ((1 : Int32) <<< (xi &&& 31)))), some (.int xi), some (.int x_114)]) rfl ?_
                    refine g_iinc act (gx gp_184 (w := 0x80000001000004009009) rfl (by decide) rfl) (a := 4) (i := (1 : Int32)) (n := 144) rfl (by decide) rfl rfl (L2 := [some (.ref 124), some (.int a), some (.int b), some (.int (si ||| ((1 : Int32) <<< (xi &&& 31)))), some (.int (xi + (1 : Int32))), some (.int x_114)]) rfl ?_
                    have v_123 := iv_addN hxi (show (1 : Int32).toInt = ((1 : Nat) : Int) from by decide) (show (j9 + 1) < 2147483648 by omega)
                    refine g_goto act (gx gp_184 (w := 0x2507) rfl (by decide) rfl) (n := 37) rfl ?_
                    exact n_forget (d := D_184) (L2 := [some (.ref 124), some (.int a), some (.int b), some (.int (si ||| ((1 : Int32) <<< (xi &&& 31)))), some (.int (xi + (1 : Int32))), none]) (fun i v hi => by
                      match i, hi with
                      | 0, hi => exact hi
                      | 1, hi => exact hi
                      | 2, hi => exact hi
                      | 3, hi => exact hi
                      | 4, hi => exact hi
                      | 5, hi => cases hi
                      | i + 6, hi => cases hi) (ih (j9 + 1) (by omega) (by omega) _ _ _ v_123 rw_92 f_93 f_94 f_95 f_96 f_97 f_98 f_99 f_100 f_101 hM_91 fr_103)
          · exact absurd hpo.1 (by omega)
        · simp only [i_eq, i0] at h176
          refine g_constI act (gx gp_184 (w := 0x40000000c00000009000000004401) rfl (by decide) rfl) (n := 68) (x := (1 : Int32)) (by decide) rfl ?_
          refine g_goto act (gx gp_184 (w := 0x4807) rfl (by decide) rfl) (n := 72) rfl ?_
          refine n_call tb_pres act hEnd (gx (P := G_call) gp_184 (w := 0xa000000000000824330000d1004b0f) rfl (by decide) rfl) (d' := D_209) rfl (as := [.ref 124, .int xi, .int (1 : Int32)]) (rest := []) (b_flows hNW (ln9 := j9) (gr := 1) hxi (by omega) (show (1 : Int32).toInt = ((1 : Nat) : Int) from by decide) (by decide) ⟨rwj, fTo, fW⟩ fD (fun j9 => by have q9 := hdm j9; omega) hO (hX (by omega)) hM) (show (3 : Nat) = fb 0xa000000000000824330000d1004b0f % 16 by decide) (by show (3 : Nat) ≤ 9; decide) (fun _ => ⟨_, _, rfl, _, shp_at rwj.1, Or.inr (show fb 0xa000000000000824330000d1004b0f >>> 68 = 10 by decide)⟩) (by omega) (by show 8 + (9 + 11) + 87 ≤ R.locals; omega) (by show (0 : Nat) ≤ 8; decide) (by show kc + 0 ≤ _; omega) (by show ks + 0 ≤ _; omega) (fun r9 hs_124 hpo hr9 => ?_) (fun x9 hs9 hx9 hpo => ?_)
          · obtain rfl : r9 = none := hr9.elim (fun q => q.2) (fun q => absurd rfl q.1)
            obtain ⟨-, t_125, w_126, e_127, e_128, hK_129, fr_130⟩ := hpo
            have hM_131 := ModF.w0 hM fr_130
            have rw_132 := rwj.fr fr_130 W0_rw
            have f_133 := fTo.fr (fun j9 _ => fr_130.2.2 125 j9 (by unfold W0; omega))
            have f_134 := fW.fr (fun j9 _ => fr_130.2.2 127 j9 (by unfold W0; omega))
            have f_135 := fD.fr (fun j9 _ => fr_130.2.2 135 j9 (by unfold W0; omega))
            have f_136 := fL.fr (fun j9 _ => fr_130.2.2 136 j9 (by unfold W0; omega))
            have f_137 := fE.fr (fun j9 _ => fr_130.2.2 137 j9 (by unfold W0; omega))
            have f_138 := rd_fr fr_130 f24 (by unfold W0; omega)
            have f_139 := hO.fr (fun j9 _ _ => ⟨fr_130.2.2 142 j9 (by unfold W0; omega), fr_130.2.2 143 j9 (by unfold W0; omega)⟩)
            have f_140 := hK.fr (fun j9 _ _ => ⟨fr_130.2.2 131 j9 (by unfold W0; omega), fr_130.2.2 132 j9 (by unfold W0; omega)⟩)
            have f_141 := fun q9 => (hX q9).fr (fun j9 _ _ => ⟨fr_130.2.2 131 j9 (by unfold W0; omega), fr_130.2.2 132 j9 (by unfold W0; omega)⟩)
            have fr_143 := hfr.tr (fr_130.mono (fun k9 j9 h9 => by unfold W0 at h9; unfold WM; omega))
            clear rwj fTo fW fD fL fE f24 hO hK hX hM hfr
            show WpN (gp g0 wp) CLS p l e R s m args below meth c Q D_184.2.2.1 kc0 ks0 75 [some (.ref 124), some (.int a), some (.int b), some (.int si), some (.int xi), none] (hs_124, kc, ks) []
            refine g_loadI act (gx gp_184 (w := 0x2004c02) rfl (by decide) rfl) (a := 2) (n := 76) rfl rfl rfl ?_
            refine g_ifEq act (gx gp_184 (w := 0x59004f0e) rfl (by decide) rfl) (tgt := 89) (n := 79) rfl rfl (fun h258 => ?_) (fun h258 => ?_)
            · simp only [i_eq, i0] at h258
              refine g_loadA act (gx gp_184 (w := 0x5a03) rfl (by decide) rfl) (a := 0) (n := 90) rfl rfl rfl ?_
              refine r_getf act (gx gp_184 (w := 0x3000549005d04) rfl (by decide) rfl) (n := 93) (ci := 9) (j := 21) (N := 39) rfl rfl rfl rw_132.1 (by decide) (rw_132.2 (21, 136, 32, 6) (by decide)).1 ?_
              refine g_loadI act (gx gp_184 (w := 0x4005f02) rfl (by decide) rfl) (a := 4) (n := 95) rfl rfl rfl ?_
              obtain ⟨x_144, e_145, hx_146⟩ := f_136 j9 (by omega)
              have b_147 := hlm j9
              refine r_iald act (gx gp_184 (w := 0x601a) rfl (by decide) rfl) (n := 96) (j := j9) rfl (rw_132.2 (21, 136, 32, 6) (by decide)).2 hxi (show j9 < 6 by omega) (v := .int x_144) e_145 ?_
              refine g_storeI act (gx gp_184 (w := 0x5006210) rfl (by decide) rfl) (a := 5) (n := 98) rfl rfl (L2 := [some (.ref 124), some (.int a), some (.int b), some (.int si), some (.int xi), some (.int x_144)]) rfl ?_
              refine g_loadI act (gx gp_184 (w := 0x3006302) rfl (by decide) rfl) (a := 3) (n := 99) rfl rfl rfl ?_
              refine g_loadA act (gx gp_184 (w := 0x6403) rfl (by decide) rfl) (a := 0) (n := 100) rfl rfl rfl ?_
              refine r_getf act (gx gp_184 (w := 0x2000209006704) rfl (by decide) rfl) (n := 103) (ci := 9) (j := 8) (N := 39) rfl rfl rfl rw_132.1 (by decide) (v := .long w_126) e_128 ?_
              refine g_constL act (gx gp_184 (w := 0x4000000000000000a000000006801) rfl (by decide) rfl) (n := 104) (x := 1) (by decide) rfl ?_
              refine g_lcmp act (gx gp_184 (w := 0x690c) rfl (by decide) rfl) (n := 105) rfl ?_
              refine g_ifNe act (gx gp_184 (w := 0x8a006c1d) rfl (by decide) rfl) (tgt := 138) (n := 108) rfl rfl (fun h266 => ?_) (fun h266 => ?_)
              · simp only [cmpEq, show (1 : Int64).toInt = 1 from by decide] at h266
                refine g_constI act (gx gp_184 (w := 0x40000000400000001000000008b01) rfl (by decide) rfl) (n := 139) (x := (0 : Int32)) (by decide) rfl ?_
                refine g_ior act (gx gp_184 (w := 0x8c4b) rfl (by decide) rfl) (n := 140) rfl ?_
                refine g_storeI act (gx gp_184 (w := 0x3008d10) rfl (by decide) rfl) (a := 3) (n := 141) rfl rfl (L2 := [some (.ref 124), some (.int a), some (.int b), some (.int (si ||| (0 : Int32))), some (.int xi), some (.int x_144)]) rfl ?_
                refine g_iinc act (gx gp_184 (w := 0x80000001000004009009) rfl (by decide) rfl) (a := 4) (i := (1 : Int32)) (n := 144) rfl (by decide) rfl rfl (L2 := [some (.ref 124), some (.int a), some (.int b), some (.int (si ||| (0 : Int32))), some (.int (xi + (1 : Int32))), some (.int x_144)]) rfl ?_
                have v_148 := iv_addN hxi (show (1 : Int32).toInt = ((1 : Nat) : Int) from by decide) (show (j9 + 1) < 2147483648 by omega)
                refine g_goto act (gx gp_184 (w := 0x2507) rfl (by decide) rfl) (n := 37) rfl ?_
                exact n_forget (d := D_184) (L2 := [some (.ref 124), some (.int a), some (.int b), some (.int (si ||| (0 : Int32))), some (.int (xi + (1 : Int32))), none]) (fun i v hi => by
                  match i, hi with
                  | 0, hi => exact hi
                  | 1, hi => exact hi
                  | 2, hi => exact hi
                  | 3, hi => exact hi
                  | 4, hi => exact hi
                  | 5, hi => cases hi
                  | i + 6, hi => cases hi) (ih (j9 + 1) (by omega) (by omega) _ _ _ v_148 rw_132 f_133 f_134 f_135 f_136 f_137 f_138 f_139 f_140 f_141 hM_131 fr_143)
              · simp only [cmpEq, show (1 : Int64).toInt = 1 from by decide] at h266
                refine g_loadA act (gx gp_184 (w := 0x6d03) rfl (by decide) rfl) (a := 0) (n := 109) rfl rfl rfl ?_
                refine r_getf act (gx gp_184 (w := 0x20001c9007004) rfl (by decide) rfl) (n := 112) (ci := 9) (j := 7) (N := 39) rfl rfl rfl rw_132.1 (by decide) (v := .long t_125) e_127 ?_
                refine g_loadI act (gx gp_184 (w := 0x5007202) rfl (by decide) rfl) (a := 5) (n := 114) rfl rfl rfl ?_
                refine g_i2l act (gx gp_184 (w := 0x732c) rfl (by decide) rfl) (n := 115) rfl ?_
                have v_149 := lw_i2l hx_146
                refine g_lcmp act (gx gp_184 (w := 0x740c) rfl (by decide) rfl) (n := 116) rfl ?_
                refine g_ifEq act (gx gp_184 (w := 0x8300770e) rfl (by decide) rfl) (tgt := 131) (n := 119) rfl rfl (fun h274 => ?_) (fun h274 => ?_)
                · simp only [cmpEq] at h274
                  refine g_constI act (gx gp_184 (w := 0x40000000c00000009000000008401) rfl (by decide) rfl) (n := 132) (x := (1 : Int32)) (by decide) rfl ?_
                  refine g_loadI act (gx gp_184 (w := 0x4008602) rfl (by decide) rfl) (a := 4) (n := 134) rfl rfl rfl ?_
                  refine g_ishl act (gx gp_184 (w := 0x873b) rfl (by decide) rfl) (n := 135) rfl ?_
                  refine g_goto act (gx gp_184 (w := 0x8b07) rfl (by decide) rfl) (n := 139) rfl ?_
                  refine g_ior act (gx gp_184 (w := 0x8c4b) rfl (by decide) rfl) (n := 140) rfl ?_
                  refine g_storeI act (gx gp_184 (w := 0x3008d10) rfl (by decide) rfl) (a := 3) (n := 141) rfl rfl (L2 := [some (.ref 124), some (.int a), some (.int b), some (.int (si ||| ((1 : Int32) <<< (xi &&& 31)))), some (.int xi), some (.int x_144)]) rfl ?_
                  refine g_iinc act (gx gp_184 (w := 0x80000001000004009009) rfl (by decide) rfl) (a := 4) (i := (1 : Int32)) (n := 144) rfl (by decide) rfl rfl (L2 := [some (.ref 124), some (.int a), some (.int b), some (.int (si ||| ((1 : Int32) <<< (xi &&& 31)))), some (.int (xi + (1 : Int32))), some (.int x_144)]) rfl ?_
                  have v_150 := iv_addN hxi (show (1 : Int32).toInt = ((1 : Nat) : Int) from by decide) (show (j9 + 1) < 2147483648 by omega)
                  refine g_goto act (gx gp_184 (w := 0x2507) rfl (by decide) rfl) (n := 37) rfl ?_
                  exact n_forget (d := D_184) (L2 := [some (.ref 124), some (.int a), some (.int b), some (.int (si ||| ((1 : Int32) <<< (xi &&& 31)))), some (.int (xi + (1 : Int32))), none]) (fun i v hi => by
                    match i, hi with
                    | 0, hi => exact hi
                    | 1, hi => exact hi
                    | 2, hi => exact hi
                    | 3, hi => exact hi
                    | 4, hi => exact hi
                    | 5, hi => cases hi
                    | i + 6, hi => cases hi) (ih (j9 + 1) (by omega) (by omega) _ _ _ v_150 rw_132 f_133 f_134 f_135 f_136 f_137 f_138 f_139 f_140 f_141 hM_131 fr_143)
                · simp only [cmpEq] at h274
                  refine g_loadA act (gx gp_184 (w := 0x7803) rfl (by decide) rfl) (a := 0) (n := 120) rfl rfl rfl ?_
                  refine r_getf act (gx gp_184 (w := 0x20001c9007b04) rfl (by decide) rfl) (n := 123) (ci := 9) (j := 7) (N := 39) rfl rfl rfl rw_132.1 (by decide) (v := .long t_125) e_127 ?_
                  refine g_loadI act (gx gp_184 (w := 0x5007d02) rfl (by decide) rfl) (a := 5) (n := 125) rfl rfl rfl ?_
                  refine g_ineg act (gx gp_184 (w := 0x7e4c) rfl (by decide) rfl) (n := 126) rfl ?_
                  refine g_i2l act (gx gp_184 (w := 0x7f2c) rfl (by decide) rfl) (n := 127) rfl ?_
                  have v_151 := lw_i2l (rfl : Int32.toInt (-x_144) = _)
                  refine g_lcmp act (gx gp_184 (w := 0x800c) rfl (by decide) rfl) (n := 128) rfl ?_
                  refine g_ifNe act (gx gp_184 (w := 0x8a00831d) rfl (by decide) rfl) (tgt := 138) (n := 131) rfl rfl (fun h285 => ?_) (fun h285 => ?_)
                  · simp only [cmpEq] at h285
                    refine g_constI act (gx gp_184 (w := 0x40000000400000001000000008b01) rfl (by decide) rfl) (n := 139) (x := (0 : Int32)) (by decide) rfl ?_
                    refine g_ior act (gx gp_184 (w := 0x8c4b) rfl (by decide) rfl) (n := 140) rfl ?_
                    refine g_storeI act (gx gp_184 (w := 0x3008d10) rfl (by decide) rfl) (a := 3) (n := 141) rfl rfl (L2 := [some (.ref 124), some (.int a), some (.int b), some (.int (si ||| (0 : Int32))), some (.int xi), some (.int x_144)]) rfl ?_
                    refine g_iinc act (gx gp_184 (w := 0x80000001000004009009) rfl (by decide) rfl) (a := 4) (i := (1 : Int32)) (n := 144) rfl (by decide) rfl rfl (L2 := [some (.ref 124), some (.int a), some (.int b), some (.int (si ||| (0 : Int32))), some (.int (xi + (1 : Int32))), some (.int x_144)]) rfl ?_
                    have v_152 := iv_addN hxi (show (1 : Int32).toInt = ((1 : Nat) : Int) from by decide) (show (j9 + 1) < 2147483648 by omega)
                    refine g_goto act (gx gp_184 (w := 0x2507) rfl (by decide) rfl) (n := 37) rfl ?_
                    exact n_forget (d := D_184) (L2 := [some (.ref 124), some (.int a), some (.int b), some (.int (si ||| (0 : Int32))), some (.int (xi + (1 : Int32))), none]) (fun i v hi => by
                      match i, hi with
                      | 0, hi => exact hi
                      | 1, hi => exact hi
                      | 2, hi => exact hi
                      | 3, hi => exact hi
                      | 4, hi => exact hi
                      | 5, hi => cases hi
                      | i + 6, hi => cases hi) (ih (j9 + 1) (by omega) (by omega) _ _ _ v_152 rw_132 f_133 f_134 f_135 f_136 f_137 f_138 f_139 f_140 f_141 hM_131 fr_143)
                  · simp only [cmpEq] at h285
                    refine g_constI act (gx gp_184 (w := 0x40000000c00000009000000008401) rfl (by decide) rfl) (n := 132) (x := (1 : Int32)) (by decide) rfl ?_
                    refine g_loadI act (gx gp_184 (w := 0x4008602) rfl (by decide) rfl) (a := 4) (n := 134) rfl rfl rfl ?_
                    refine g_ishl act (gx gp_184 (w := 0x873b) rfl (by decide) rfl) (n := 135) rfl ?_
                    refine g_goto act (gx gp_184 (w := 0x8b07) rfl (by decide) rfl) (n := 139) rfl ?_
                    refine g_ior act (gx gp_184 (w := 0x8c4b) rfl (by decide) rfl) (n := 140) rfl ?_
                    refine g_storeI act (gx gp_184 (w := 0x3008d10) rfl (by decide) rfl) (a := 3) (n := 141) rfl rfl (L2 := [some (.ref 124), some (.int a), some (.int b), some (.int (si ||| ((1 : Int32) <<< (xi &&& 31)))), some (.int xi), some (.int x_144)]) rfl ?_
                    refine g_iinc act (gx gp_184 (w := 0x80000001000004009009) rfl (by decide) rfl) (a := 4) (i := (1 : Int32)) (n := 144) rfl (by decide) rfl rfl (L2 := [some (.ref 124), some (.int a), some (.int b), some (.int (si ||| ((1 : Int32) <<< (xi &&& 31)))), some (.int (xi + (1 : Int32))), some (.int x_144)]) rfl ?_
                    have v_153 := iv_addN hxi (show (1 : Int32).toInt = ((1 : Nat) : Int) from by decide) (show (j9 + 1) < 2147483648 by omega)
                    refine g_goto act (gx gp_184 (w := 0x2507) rfl (by decide) rfl) (n := 37) rfl ?_
                    exact n_forget (d := D_184) (L2 := [some (.ref 124), some (.int a), some (.int b), some (.int (si ||| ((1 : Int32) <<< (xi &&& 31)))), some (.int (xi + (1 : Int32))), none]) (fun i v hi => by
                      match i, hi with
                      | 0, hi => exact hi
                      | 1, hi => exact hi
                      | 2, hi => exact hi
                      | 3, hi => exact hi
                      | 4, hi => exact hi
                      | 5, hi => cases hi
                      | i + 6, hi => cases hi) (ih (j9 + 1) (by omega) (by omega) _ _ _ v_153 rw_132 f_133 f_134 f_135 f_136 f_137 f_138 f_139 f_140 f_141 hM_131 fr_143)
            · simp only [i_eq, i0] at h258
              refine g_loadA act (gx gp_184 (w := 0x5003) rfl (by decide) rfl) (a := 0) (n := 80) rfl rfl rfl ?_
              refine r_getf act (gx gp_184 (w := 0x3000589005304) rfl (by decide) rfl) (n := 83) (ci := 9) (j := 22) (N := 39) rfl rfl rfl rw_132.1 (by decide) (rw_132.2 (22, 137, 32, 6) (by decide)).1 ?_
              refine g_loadI act (gx gp_184 (w := 0x4005502) rfl (by decide) rfl) (a := 4) (n := 85) rfl rfl rfl ?_
              obtain ⟨x_154, e_155, hx_156⟩ := f_137 j9 (by omega)
              have b_157 := hem j9
              refine r_iald act (gx gp_184 (w := 0x561a) rfl (by decide) rfl) (n := 86) (j := j9) rfl (rw_132.2 (22, 137, 32, 6) (by decide)).2 hxi (show j9 < 6 by omega) (v := .int x_154) e_155 ?_
              refine g_goto act (gx gp_184 (w := 0x6007) rfl (by decide) rfl) (n := 96) rfl ?_
              refine g_storeI act (gx gp_184 (w := 0x5006210) rfl (by decide) rfl) (a := 5) (n := 98) rfl rfl (L2 := [some (.ref 124), some (.int a), some (.int b), some (.int si), some (.int xi), some (.int x_154)]) rfl ?_
              refine g_loadI act (gx gp_184 (w := 0x3006302) rfl (by decide) rfl) (a := 3) (n := 99) rfl rfl rfl ?_
              refine g_loadA act (gx gp_184 (w := 0x6403) rfl (by decide) rfl) (a := 0) (n := 100) rfl rfl rfl ?_
              refine r_getf act (gx gp_184 (w := 0x2000209006704) rfl (by decide) rfl) (n := 103) (ci := 9) (j := 8) (N := 39) rfl rfl rfl rw_132.1 (by decide) (v := .long w_126) e_128 ?_
              refine g_constL act (gx gp_184 (w := 0x4000000000000000a000000006801) rfl (by decide) rfl) (n := 104) (x := 1) (by decide) rfl ?_
              refine g_lcmp act (gx gp_184 (w := 0x690c) rfl (by decide) rfl) (n := 105) rfl ?_
              refine g_ifNe act (gx gp_184 (w := 0x8a006c1d) rfl (by decide) rfl) (tgt := 138) (n := 108) rfl rfl (fun h304 => ?_) (fun h304 => ?_)
              · simp only [cmpEq, show (1 : Int64).toInt = 1 from by decide] at h304
                refine g_constI act (gx gp_184 (w := 0x40000000400000001000000008b01) rfl (by decide) rfl) (n := 139) (x := (0 : Int32)) (by decide) rfl ?_
                refine g_ior act (gx gp_184 (w := 0x8c4b) rfl (by decide) rfl) (n := 140) rfl ?_
                refine g_storeI act (gx gp_184 (w := 0x3008d10) rfl (by decide) rfl) (a := 3) (n := 141) rfl rfl (L2 := [some (.ref 124), some (.int a), some (.int b), some (.int (si ||| (0 : Int32))), some (.int xi), some (.int x_154)]) rfl ?_
                refine g_iinc act (gx gp_184 (w := 0x80000001000004009009) rfl (by decide) rfl) (a := 4) (i := (1 : Int32)) (n := 144) rfl (by decide) rfl rfl (L2 := [some (.ref 124), some (.int a), some (.int b), some (.int (si ||| (0 : Int32))), some (.int (xi + (1 : Int32))), some (.int x_154)]) rfl ?_
                have v_158 := iv_addN hxi (show (1 : Int32).toInt = ((1 : Nat) : Int) from by decide) (show (j9 + 1) < 2147483648 by omega)
                refine g_goto act (gx gp_184 (w := 0x2507) rfl (by decide) rfl) (n := 37) rfl ?_
                exact n_forget (d := D_184) (L2 := [some (.ref 124), some (.int a), some (.int b), some (.int (si ||| (0 : Int32))), some (.int (xi + (1 : Int32))), none]) (fun i v hi => by
                  match i, hi with
                  | 0, hi => exact hi
                  | 1, hi => exact hi
                  | 2, hi => exact hi
                  | 3, hi => exact hi
                  | 4, hi => exact hi
                  | 5, hi => cases hi
                  | i + 6, hi => cases hi) (ih (j9 + 1) (by omega) (by omega) _ _ _ v_158 rw_132 f_133 f_134 f_135 f_136 f_137 f_138 f_139 f_140 f_141 hM_131 fr_143)
              · simp only [cmpEq, show (1 : Int64).toInt = 1 from by decide] at h304
                refine g_loadA act (gx gp_184 (w := 0x6d03) rfl (by decide) rfl) (a := 0) (n := 109) rfl rfl rfl ?_
                refine r_getf act (gx gp_184 (w := 0x20001c9007004) rfl (by decide) rfl) (n := 112) (ci := 9) (j := 7) (N := 39) rfl rfl rfl rw_132.1 (by decide) (v := .long t_125) e_127 ?_
                refine g_loadI act (gx gp_184 (w := 0x5007202) rfl (by decide) rfl) (a := 5) (n := 114) rfl rfl rfl ?_
                refine g_i2l act (gx gp_184 (w := 0x732c) rfl (by decide) rfl) (n := 115) rfl ?_
                have v_159 := lw_i2l hx_156
                refine g_lcmp act (gx gp_184 (w := 0x740c) rfl (by decide) rfl) (n := 116) rfl ?_
                refine g_ifEq act (gx gp_184 (w := 0x8300770e) rfl (by decide) rfl) (tgt := 131) (n := 119) rfl rfl (fun h312 => ?_) (fun h312 => ?_)
                · simp only [cmpEq] at h312
                  refine g_constI act (gx gp_184 (w := 0x40000000c00000009000000008401) rfl (by decide) rfl) (n := 132) (x := (1 : Int32)) (by decide) rfl ?_
                  refine g_loadI act (gx gp_184 (w := 0x4008602) rfl (by decide) rfl) (a := 4) (n := 134) rfl rfl rfl ?_
                  refine g_ishl act (gx gp_184 (w := 0x873b) rfl (by decide) rfl) (n := 135) rfl ?_
                  refine g_goto act (gx gp_184 (w := 0x8b07) rfl (by decide) rfl) (n := 139) rfl ?_
                  refine g_ior act (gx gp_184 (w := 0x8c4b) rfl (by decide) rfl) (n := 140) rfl ?_
                  refine g_storeI act (gx gp_184 (w := 0x3008d10) rfl (by decide) rfl) (a := 3) (n := 141) rfl rfl (L2 := [some (.ref 124), some (.int a), some (.int b), some (.int (si ||| ((1 : Int32) <<< (xi &&& 31)))), some (.int xi), some (.int x_154)]) rfl ?_
                  refine g_iinc act (gx gp_184 (w := 0x80000001000004009009) rfl (by decide) rfl) (a := 4) (i := (1 : Int32)) (n := 144) rfl (by decide) rfl rfl (L2 := [some (.ref 124), some (.int a), some (.int b), some (.int (si ||| ((1 : Int32) <<< (xi &&& 31)))), some (.int (xi + (1 : Int32))), some (.int x_154)]) rfl ?_
                  have v_160 := iv_addN hxi (show (1 : Int32).toInt = ((1 : Nat) : Int) from by decide) (show (j9 + 1) < 2147483648 by omega)
                  refine g_goto act (gx gp_184 (w := 0x2507) rfl (by decide) rfl) (n := 37) rfl ?_
                  exact n_forget (d := D_184) (L2 := [some (.ref 124), some (.int a), some (.int b), some (.int (si ||| ((1 : Int32) <<< (xi &&& 31)))), some (.int (xi + (1 : Int32))), none]) (fun i v hi => by
                    match i, hi with
                    | 0, hi => exact hi
                    | 1, hi => exact hi
                    | 2, hi => exact hi
                    | 3, hi => exact hi
                    | 4, hi => exact hi
                    | 5, hi => cases hi
                    | i + 6, hi => cases hi) (ih (j9 + 1) (by omega) (by omega) _ _ _ v_160 rw_132 f_133 f_134 f_135 f_136 f_137 f_138 f_139 f_140 f_141 hM_131 fr_143)
                · simp only [cmpEq] at h312
                  refine g_loadA act (gx gp_184 (w := 0x7803) rfl (by decide) rfl) (a := 0) (n := 120) rfl rfl rfl ?_
                  refine r_getf act (gx gp_184 (w := 0x20001c9007b04) rfl (by decide) rfl) (n := 123) (ci := 9) (j := 7) (N := 39) rfl rfl rfl rw_132.1 (by decide) (v := .long t_125) e_127 ?_
                  refine g_loadI act (gx gp_184 (w := 0x5007d02) rfl (by decide) rfl) (a := 5) (n := 125) rfl rfl rfl ?_
                  refine g_ineg act (gx gp_184 (w := 0x7e4c) rfl (by decide) rfl) (n := 126) rfl ?_
                  refine g_i2l act (gx gp_184 (w := 0x7f2c) rfl (by decide) rfl) (n := 127) rfl ?_
                  have v_161 := lw_i2l (rfl : Int32.toInt (-x_154) = _)
                  refine g_lcmp act (gx gp_184 (w := 0x800c) rfl (by decide) rfl) (n := 128) rfl ?_
                  refine g_ifNe act (gx gp_184 (w := 0x8a00831d) rfl (by decide) rfl) (tgt := 138) (n := 131) rfl rfl (fun h323 => ?_) (fun h323 => ?_)
                  · simp only [cmpEq] at h323
                    refine g_constI act (gx gp_184 (w := 0x40000000400000001000000008b01) rfl (by decide) rfl) (n := 139) (x := (0 : Int32)) (by decide) rfl ?_
                    refine g_ior act (gx gp_184 (w := 0x8c4b) rfl (by decide) rfl) (n := 140) rfl ?_
                    refine g_storeI act (gx gp_184 (w := 0x3008d10) rfl (by decide) rfl) (a := 3) (n := 141) rfl rfl (L2 := [some (.ref 124), some (.int a), some (.int b), some (.int (si ||| (0 : Int32))), some (.int xi), some (.int x_154)]) rfl ?_
                    refine g_iinc act (gx gp_184 (w := 0x80000001000004009009) rfl (by decide) rfl) (a := 4) (i := (1 : Int32)) (n := 144) rfl (by decide) rfl rfl (L2 := [some (.ref 124), some (.int a), some (.int b), some (.int (si ||| (0 : Int32))), some (.int (xi + (1 : Int32))), some (.int x_154)]) rfl ?_
                    have v_162 := iv_addN hxi (show (1 : Int32).toInt = ((1 : Nat) : Int) from by decide) (show (j9 + 1) < 2147483648 by omega)
                    refine g_goto act (gx gp_184 (w := 0x2507) rfl (by decide) rfl) (n := 37) rfl ?_
                    exact n_forget (d := D_184) (L2 := [some (.ref 124), some (.int a), some (.int b), some (.int (si ||| (0 : Int32))), some (.int (xi + (1 : Int32))), none]) (fun i v hi => by
                      match i, hi with
                      | 0, hi => exact hi
                      | 1, hi => exact hi
                      | 2, hi => exact hi
                      | 3, hi => exact hi
                      | 4, hi => exact hi
                      | 5, hi => cases hi
                      | i + 6, hi => cases hi) (ih (j9 + 1) (by omega) (by omega) _ _ _ v_162 rw_132 f_133 f_134 f_135 f_136 f_137 f_138 f_139 f_140 f_141 hM_131 fr_143)
                  · simp only [cmpEq] at h323
                    refine g_constI act (gx gp_184 (w := 0x40000000c00000009000000008401) rfl (by decide) rfl) (n := 132) (x := (1 : Int32)) (by decide) rfl ?_
                    refine g_loadI act (gx gp_184 (w := 0x4008602) rfl (by decide) rfl) (a := 4) (n := 134) rfl rfl rfl ?_
                    refine g_ishl act (gx gp_184 (w := 0x873b) rfl (by decide) rfl) (n := 135) rfl ?_
                    refine g_goto act (gx gp_184 (w := 0x8b07) rfl (by decide) rfl) (n := 139) rfl ?_
                    refine g_ior act (gx gp_184 (w := 0x8c4b) rfl (by decide) rfl) (n := 140) rfl ?_
                    refine g_storeI act (gx gp_184 (w := 0x3008d10) rfl (by decide) rfl) (a := 3) (n := 141) rfl rfl (L2 := [some (.ref 124), some (.int a), some (.int b), some (.int (si ||| ((1 : Int32) <<< (xi &&& 31)))), some (.int xi), some (.int x_154)]) rfl ?_
                    refine g_iinc act (gx gp_184 (w := 0x80000001000004009009) rfl (by decide) rfl) (a := 4) (i := (1 : Int32)) (n := 144) rfl (by decide) rfl rfl (L2 := [some (.ref 124), some (.int a), some (.int b), some (.int (si ||| ((1 : Int32) <<< (xi &&& 31)))), some (.int (xi + (1 : Int32))), some (.int x_154)]) rfl ?_
                    have v_163 := iv_addN hxi (show (1 : Int32).toInt = ((1 : Nat) : Int) from by decide) (show (j9 + 1) < 2147483648 by omega)
                    refine g_goto act (gx gp_184 (w := 0x2507) rfl (by decide) rfl) (n := 37) rfl ?_
                    exact n_forget (d := D_184) (L2 := [some (.ref 124), some (.int a), some (.int b), some (.int (si ||| ((1 : Int32) <<< (xi &&& 31)))), some (.int (xi + (1 : Int32))), none]) (fun i v hi => by
                      match i, hi with
                      | 0, hi => exact hi
                      | 1, hi => exact hi
                      | 2, hi => exact hi
                      | 3, hi => exact hi
                      | 4, hi => exact hi
                      | 5, hi => cases hi
                      | i + 6, hi => cases hi) (ih (j9 + 1) (by omega) (by omega) _ _ _ v_163 rw_132 f_133 f_134 f_135 f_136 f_137 f_138 f_139 f_140 f_141 hM_131 fr_143)
          · exact absurd hpo.1 (by omega)

theorem b_binding {g0 : GG} {bl : Nat} {xs : Nat → Int32} {l : Launch} {hs : List CE} {tl wl : Nat → Int} {nl n ng nr : Nat} (hNW : NW tl wl nl n ng nr) {a b : Int32} (hB : BM hs tl wl) (hM : ModF hs) : BodyN SSX TBL g0 CLS bl xs l D_184 10 251 0 0 [.ref 124, .int a, .int b] hs (POI hs) := by
  intro wp p e R s m args below meth c Q kc0 ks0 kc ks act hf hl hc hsl hEnd
  have hN9 := hNW
  obtain ⟨n0, n1, n2, n3, n4, n5, n6, n7, n8, hG0, nL, nC, nP, nD⟩ := hN9
  have hGn := hG0.1
  have hGn3 := hG0.2.1
  have hGl := hG0.2.2.1
  obtain ⟨rw0, hTo, hW⟩ := hB
  show WpN (gp g0 wp) CLS p l e R s m args below meth c Q D_184.2.2.1 kc0 ks0 0 [some (.ref 124), some (.int a), some (.int b), none, none, none] (hs, kc, ks) []
  refine g_loadA act (gx gp_184 (w := 0x103) rfl (by decide) rfl) (a := 0) (n := 1) rfl rfl rfl ?_
  refine g_constI act (gx gp_184 (w := 0x40000000c00000009000000000201) rfl (by decide) rfl) (n := 2) (x := (1 : Int32)) (by decide) rfl ?_
  refine g_loadI act (gx gp_184 (w := 0x1000302) rfl (by decide) rfl) (a := 1) (n := 3) rfl rfl rfl ?_
  refine g_constI act (gx gp_184 (w := 0x40000000400000001000000000401) rfl (by decide) rfl) (n := 4) (x := (0 : Int32)) (by decide) rfl ?_
  refine n_call tb_pres act hEnd (gx (P := G_call) gp_184 (w := 0xa000000000000c10440000df00070f) rfl (by decide) rfl) (d' := D_223) rfl (as := [.ref 124, .int (1 : Int32), .int a, .int (0 : Int32)]) (rest := []) (b_isGood hNW ⟨rw0, hTo, hW⟩ hM (ti := ((1 : Nat) : Int)) (show (1 : Int32).toInt = ((1 : Nat) : Int) from by decide) (by omega) (x := (Int32.toInt a)) (rfl : Int32.toInt a = _) (y := ((0 : Nat) : Int)) (show (0 : Int32).toInt = ((0 : Nat) : Int) from by decide)) (show (4 : Nat) = fb 0xa000000000000c10440000df00070f % 16 by decide) (by show (4 : Nat) ≤ 4; decide) (fun _ => ⟨_, _, rfl, _, shp_at rw0.1, Or.inr (show fb 0xa000000000000c10440000df00070f >>> 68 = 10 by decide)⟩) (by omega) (by show 8 + (4 + 11) + 228 ≤ R.locals; omega) (by show (0 : Nat) ≤ 8; decide) (by show kc + 0 ≤ _; omega) (by show ks + 0 ≤ _; omega) (fun r9 hs_1 hpo hr9 => ?_) (fun x9 hs9 hx9 hpo => ?_)
  · obtain ⟨-, hM_3, fr_2, rg, rfl, hg_4⟩ := hpo
    have rw_6 := rw0.fr fr_2 WM_rw
    have f_7 := hTo.fr (fun j9 _ => fr_2.2.2 125 j9 (by unfold WM; omega))
    have f_8 := hW.fr (fun j9 _ => fr_2.2.2 127 j9 (by unfold WM; omega))
    have fr_9 := (FrS.rf WM hs).tr fr_2
    show WpN (gp g0 wp) CLS p l e R s m args below meth c Q D_184.2.2.1 kc0 ks0 7 [some (.ref 124), some (.int a), some (.int b), none, none, none] (hs_1, kc, ks) [.int rg]
    rcases hg_4 with rfl | ⟨rfl, g1_11, g2_11, g3_11, g4_11, g5_11, hFD_11⟩
    · refine g_ifNe act (gx gp_184 (w := 0x20000a1d) rfl (by decide) rfl) (tgt := 32) (n := 10) rfl rfl (fun q => absurd q (by decide)) (fun _ => ?_)
      refine g_loadA act (gx gp_184 (w := 0xb03) rfl (by decide) rfl) (a := 0) (n := 11) rfl rfl rfl ?_
      refine g_loadA act (gx gp_184 (w := 0xc03) rfl (by decide) rfl) (a := 0) (n := 12) rfl rfl rfl ?_
      obtain ⟨rz_12, e_13, b_14, b_15⟩ := hM_3.1
      refine r_getf act (gx gp_184 (w := 0x9000f04) rfl (by decide) rfl) (n := 15) (ci := 9) (j := 0) (N := 39) rfl rfl rfl rw_6.1 (by decide) (v := .int rz_12) e_13 ?_
      refine g_constI act (gx gp_184 (w := 0x40000001c00000019000000001001) rfl (by decide) rfl) (n := 16) (x := (3 : Int32)) (by decide) rfl ?_
      refine g_icmpNe act (gx gp_184 (w := 0x17001321) rfl (by decide) rfl) (tgt := 23) (n := 19) rfl rfl (fun h9 => ?_) (fun h9 => ?_)
      · simp only [i_eq, show (3 : Int32).toInt = 3 from by decide] at h9
        refine g_loadA act (gx gp_184 (w := 0x1803) rfl (by decide) rfl) (a := 0) (n := 24) rfl rfl rfl ?_
        refine r_getf act (gx gp_184 (w := 0x9001b04) rfl (by decide) rfl) (n := 27) (ci := 9) (j := 0) (N := 39) rfl rfl rfl rw_6.1 (by decide) (v := .int rz_12) e_13 ?_
        refine r_putf act (gx gp_184 (w := 0x9001e13) rfl (by decide) rfl) (n := 30) (ci := 9) (j := 0) (N := 39) rfl rfl rfl rw_6.1 (by decide) (Or.inl ⟨rfl, _, rfl⟩) ?_
        have rw_16 := RW.wr (k := 124) (j := 0) (v := .int rz_12) rw_6 (Or.inr (by decide))
        have f_17 := f_7.ne (k := 124) (j := 0) (v := .int rz_12) (by decide)
        have f_18 := f_8.ne (k := 124) (j := 0) (v := .int rz_12) (by decide)
        have f_19 := hM_3.wr0 (x := rz_12) rw_6.1 (by omega) (by omega)
        have f_21 := rd_same (j := 0) (v := .int rz_12) rw_6.1
        have fr_22 := fr_9.wr (k := 124) (j := 0) (.int rz_12) (by unfold WM; omega)
        clear rw_6 fr_9 f_7 f_8 hM_3 e_13
        generalize (wr hs_1 124 0 (.int rz_12)) = hs_23 at *
        refine g_constI act (gx gp_184 (w := 0x40000000400000001000000001f01) rfl (by decide) rfl) (n := 31) (x := (0 : Int32)) (by decide) rfl ?_
        exact g_retI hEnd (gx gp_184 (w := 0x2f) rfl (by decide) rfl) ⟨rfl, ⟨_, rfl⟩, f_19, fr_22⟩ (by show kc ≤ kc + 0; omega) (by show ks ≤ ks + 0; omega)
      · simp only [i_eq, show (3 : Int32).toInt = 3 from by decide] at h9
        refine g_constI act (gx gp_184 (w := 0x40000001400000011000000001401) rfl (by decide) rfl) (n := 20) (x := (2 : Int32)) (by decide) rfl ?_
        refine g_goto act (gx gp_184 (w := 0x1b07) rfl (by decide) rfl) (n := 27) rfl ?_
        refine r_putf act (gx gp_184 (w := 0x9001e13) rfl (by decide) rfl) (n := 30) (ci := 9) (j := 0) (N := 39) rfl rfl rfl rw_6.1 (by decide) (Or.inl ⟨rfl, _, rfl⟩) ?_
        have rw_24 := RW.wr (k := 124) (j := 0) (v := .int (2 : Int32)) rw_6 (Or.inr (by decide))
        have f_25 := f_7.ne (k := 124) (j := 0) (v := .int (2 : Int32)) (by decide)
        have f_26 := f_8.ne (k := 124) (j := 0) (v := .int (2 : Int32)) (by decide)
        have f_27 := hM_3.wr0 (x := (2 : Int32)) rw_6.1 (by decide) (by decide)
        have f_29 := rd_same (j := 0) (v := .int (2 : Int32)) rw_6.1
        have fr_30 := fr_9.wr (k := 124) (j := 0) (.int (2 : Int32)) (by unfold WM; omega)
        clear rw_6 fr_9 f_7 f_8 hM_3 e_13
        generalize (wr hs_1 124 0 (.int (2 : Int32))) = hs_31 at *
        refine g_constI act (gx gp_184 (w := 0x40000000400000001000000001f01) rfl (by decide) rfl) (n := 31) (x := (0 : Int32)) (by decide) rfl ?_
        exact g_retI hEnd (gx gp_184 (w := 0x2f) rfl (by decide) rfl) ⟨rfl, ⟨_, rfl⟩, f_27, fr_30⟩ (by show kc ≤ kc + 0; omega) (by show ks ≤ ks + 0; omega)
    · obtain ⟨⟨frw_10, fTo_10, fW_10⟩, ⟨hG_10, ⟨oi_10, f24_10, hoi_10⟩, ⟨dm_10, fD_10, hdm_10⟩, ⟨lm_10, fL_10, hlm_10⟩, ⟨em_10, fE_10, hem_10⟩, ⟨cp_10, fC_10, hcp_10⟩⟩, fFo_10, ⟨fK0_10, fK1_10⟩⟩ := hFD_11
      obtain ⟨⟨ct_10, cl_10, f29_10, f30_10, hck_10⟩, fKO_10⟩ := found_k hG_10 fFo_10
      refine g_ifNe act (gx gp_184 (w := 0x20000a1d) rfl (by decide) rfl) (tgt := 32) (n := 10) rfl rfl (fun _ => ?_) (fun q => absurd (by decide) q)
      refine g_constI act (gx gp_184 (w := 0x40000000400000001000000002101) rfl (by decide) rfl) (n := 33) (x := (0 : Int32)) (by decide) rfl ?_
      refine g_storeI act (gx gp_184 (w := 0x3002210) rfl (by decide) rfl) (a := 3) (n := 34) rfl rfl (L2 := [some (.ref 124), some (.int a), some (.int b), some (.int (0 : Int32)), none, none]) rfl ?_
      refine g_constI act (gx gp_184 (w := 0x40000000400000001000000002301) rfl (by decide) rfl) (n := 35) (x := (0 : Int32)) (by decide) rfl ?_
      refine g_storeI act (gx gp_184 (w := 0x4002510) rfl (by decide) rfl) (a := 4) (n := 37) rfl rfl (L2 := [some (.ref 124), some (.int a), some (.int b), some (.int (0 : Int32)), some (.int (0 : Int32)), none]) rfl ?_
      exact bind_1 hNW hoi_10 hdm_10 hlm_10 hem_10 hf hl hc hsl act hEnd (by omega) (by omega) 0 (by omega) _ _ _ rfl frw_10 fTo_10 fW_10 fD_10 fL_10 fE_10 f24_10 fKO_10 fK0_10 fK1_10 hM_3 fr_9
  · exact absurd hpo.1 (by omega)

theorem res_o {g0 : GG} {bl : Nat} {xs : Nat → Int32} {l : Launch} {wp : va_W} {p : Program} {e : Env} {R : Room} {s : State} {m : MethodId} {args : Array Value} {below : List Frame} {meth : Method} {c : Code} {Q : State → Prop} {kc0 ks0 kc ks f lam KC KS : Nat} {hs : List CE} {tl wl : Nat → Int} {nl n ng nr : Nat} (hNW : NW tl wl nl n ng nr) {a b mi ii : Int32} {z9 : Int} (hii : ii.toInt = z9) (hz9 : z9 = 0) (hf : 10 ≤ R.frames) (hl : 251 ≤ R.locals) (hc : kc ≤ R.cells + kc0) (hsl : ks ≤ R.slots + ks0) (act : Act SSX TBL (gp g0 wp) CLS bl xs D_264 p l s m args meth c) (hEnd : EndN SSX TBL (gp g0 wp) CLS D_264 p l e R s m args below meth c Q kc0 ks0 f lam KC KS (POI hs)) (hk1 : kc ≤ KC) (hk2 : ks ≤ KS) (hj : List CE) (hM : ModF hj) (hfr : FrS WM hs hj) : WpN (gp g0 wp) CLS p l e R s m args below meth c Q D_264.2.2.1 kc0 ks0 41 [some (.ref 124), some (.int a), some (.int b), some (.int mi), some (.int ii)] (hj, kc, ks) [] := by
  refine g_loadI act (gx gp_264 (w := 0x4002b02) rfl (by decide) rfl) (a := 4) (n := 43) rfl rfl rfl ?_
  refine g_ifEq act (gx gp_264 (w := 0x54002e0e) rfl (by decide) rfl) (tgt := 84) (n := 46) rfl rfl (fun h2 => ?_) (fun h2 => ?_)
  · simp only [i_eq, i0] at h2
    refine g_loadI act (gx gp_264 (w := 0x3005502) rfl (by decide) rfl) (a := 3) (n := 85) rfl rfl rfl ?_
    exact g_retI hEnd (gx gp_264 (w := 0x2f) rfl (by decide) rfl) ⟨rfl, ⟨_, rfl⟩, hM, hfr⟩ hk1 hk2
  · simp only [i_eq, i0] at h2
    exfalso; omega

theorem res_1 {g0 : GG} {bl : Nat} {xs : Nat → Int32} {l : Launch} {wp : va_W} {p : Program} {e : Env} {R : Room} {s : State} {m : MethodId} {args : Array Value} {below : List Frame} {meth : Method} {c : Code} {Q : State → Prop} {kc0 ks0 kc ks f lam KC KS : Nat} {hs : List CE} {tl wl : Nat → Int} {nl n ng nr : Nat} (hNW : NW tl wl nl n ng nr) {a b oi : Int32} {b9 : Nat} {lm em cp : Nat → Int} (hb9 : b.toInt = (b9 : Int)) (hb4 : b9 < 4) (hoi : oi.toInt = wl 38) (hlm : ∀ j, 0 ≤ lm j ∧ lm j ≤ 400) (hem : ∀ j, 0 ≤ em j ∧ em j ≤ 400) (hcp : ∀ j, 0 ≤ cp j ∧ cp j ≤ 200) (hf : 10 ≤ R.frames) (hl : 251 ≤ R.locals) (hc : kc ≤ R.cells + kc0) (hsl : ks ≤ R.slots + ks0) (act : Act SSX TBL (gp g0 wp) CLS bl xs D_264 p l s m args meth c) (hEnd : EndN SSX TBL (gp g0 wp) CLS D_264 p l e R s m args below meth c Q kc0 ks0 f lam KC KS (POI hs)) (hk1 : kc ≤ KC) (hk2 : ks ≤ KS) : ∀ j9 : Nat, j9 ≤ 20 → ∀ (mi ii : Int32) (hj : List CE) (dm : Nat → Int), mi.toInt = (j9 : Int) → ii.toInt = 1 → RW hj → IArr hj 125 46 tl → IArr hj 127 39 wl → IArr hj 135 4 dm → (∀ j, 0 ≤ dm j ∧ dm j ≤ 200 + (j9 : Int)) → IArr hj 136 6 lm → IArr hj 137 6 em → IArr hj 138 5 cp → rd hj 124 24 = .int oi → ModF hj → FrS WM hs hj → WpN (gp g0 wp) CLS p l e R s m args below meth c Q D_264.2.2.1 kc0 ks0 41 [some (.ref 124), some (.int a), some (.int b), some (.int mi), some (.int ii)] (hj, kc, ks) [] := by
  have hN9 := hNW
  obtain ⟨n0, n1, n2, n3, n4, n5, n6, n7, n8, hG0, nL, nC, nP, nD⟩ := hN9
  have hGn := hG0.1
  have hGn3 := hG0.2.1
  have hGl := hG0.2.2.1
  refine dn (fun j9 hj9 ih => ?_)
  intro mi ii hj dm hmi hii rwj fTo fW fD hdm fL fE fC f24 hM hfr
  refine g_loadI act (gx gp_264 (w := 0x4002b02) rfl (by decide) rfl) (a := 4) (n := 43) rfl rfl rfl ?_
  refine g_ifEq act (gx gp_264 (w := 0x54002e0e) rfl (by decide) rfl) (tgt := 84) (n := 46) rfl rfl (fun h2 => ?_) (fun h2 => ?_)
  · simp only [i_eq, i0] at h2
    exfalso; omega
  · simp only [i_eq, i0] at h2
    refine g_loadI act (gx gp_264 (w := 0x3002f02) rfl (by decide) rfl) (a := 3) (n := 47) rfl rfl rfl ?_
    refine g_constI act (gx gp_264 (w := 0x4000000a4000000a1000000003101) rfl (by decide) rfl) (n := 49) (x := (20 : Int32)) (by decide) rfl ?_
    refine g_icmpGe act (gx gp_264 (w := 0x54003408) rfl (by decide) rfl) (tgt := 84) (n := 52) rfl rfl (fun h5 => ?_) (fun h5 => ?_)
    · simp only [i_le, show (20 : Int32).toInt = 20 from by decide] at h5
      refine g_loadI act (gx gp_264 (w := 0x3005502) rfl (by decide) rfl) (a := 3) (n := 85) rfl rfl rfl ?_
      exact g_retI hEnd (gx gp_264 (w := 0x2f) rfl (by decide) rfl) ⟨rfl, ⟨_, rfl⟩, hM, hfr⟩ hk1 hk2
    · simp only [i_le, show (20 : Int32).toInt = 20 from by decide] at h5
      refine g_loadA act (gx gp_264 (w := 0x3503) rfl (by decide) rfl) (a := 0) (n := 53) rfl rfl rfl ?_
      refine r_getf act (gx gp_264 (w := 0x3000509003804) rfl (by decide) rfl) (n := 56) (ci := 9) (j := 20) (N := 39) rfl rfl rfl rwj.1 (by decide) (rwj.2 (20, 135, 32, 4) (by decide)).1 ?_
      refine g_loadI act (gx gp_264 (w := 0x2003902) rfl (by decide) rfl) (a := 2) (n := 57) rfl rfl rfl ?_
      refine g_dup2 act (gx gp_264 (w := 0x3a30) rfl (by decide) rfl) (n := 58) rfl rfl rfl ?_
      obtain ⟨x_1, e_2, hx_3⟩ := fD b9 (by omega)
      have b_4 := hdm b9
      refine r_iald act (gx gp_264 (w := 0x3b1a) rfl (by decide) rfl) (n := 59) (j := b9) rfl (rwj.2 (20, 135, 32, 4) (by decide)).2 hb9 (show b9 < 4 by omega) (v := .int x_1) e_2 ?_
      refine g_constI act (gx gp_264 (w := 0x40000000c00000009000000003c01) rfl (by decide) rfl) (n := 60) (x := (1 : Int32)) (by decide) rfl ?_
      refine g_iadd act (gx gp_264 (w := 0x3d0a) rfl (by decide) rfl) (n := 61) rfl ?_
      have v_5 := iv_add hx_3 (show (1 : Int32).toInt = ((1 : Nat) : Int) from by decide) (show -2147483648 ≤ ((dm b9) + ((1 : Nat) : Int)) by omega) (show ((dm b9) + ((1 : Nat) : Int)) < 2147483648 by omega)
      refine r_iast act (gx gp_264 (w := 0x3e24) rfl (by decide) rfl) (n := 62) (j := b9) rfl (rwj.2 (20, 135, 32, 4) (by decide)).2 hb9 (show b9 < 4 by omega) ?_
      have rw_6 := RW.wr (k := 135) (j := b9) (v := .int (x_1 + (1 : Int32))) rwj (Or.inl (by decide))
      have f_7 := fTo.ne (k := 135) (j := b9) (v := .int (x_1 + (1 : Int32))) (by decide)
      have f_8 := fW.ne (k := 135) (j := b9) (v := .int (x_1 + (1 : Int32))) (by decide)
      have f_9 := fD.put (j := b9) (rwj.2 (20, 135, 32, 4) (by decide)).2 v_5
      have bd_10 := upI_b (i := b9) (X := ((dm b9) + ((1 : Nat) : Int))) (hi2 := (200 + ((j9 + 1 : Nat) : Int))) hdm (by omega) (by omega) (by omega)
      have f_11 := fL.ne (k := 135) (j := b9) (v := .int (x_1 + (1 : Int32))) (by decide)
      have f_12 := fE.ne (k := 135) (j := b9) (v := .int (x_1 + (1 : Int32))) (by decide)
      have f_13 := fC.ne (k := 135) (j := b9) (v := .int (x_1 + (1 : Int32))) (by decide)
      have f_14 := (rd_ne hj (k := 135) (j := b9) (.int (x_1 + (1 : Int32))) (Or.inl (by decide))).trans f24
      have f_15 := hM.ne (k := 135) (j := b9) (v := .int (x_1 + (1 : Int32))) (by decide)
      have fr_16 := hfr.wr (k := 135) (j := b9) (.int (x_1 + (1 : Int32))) (by unfold WM; omega)
      clear rwj hfr fTo fW fD fL fE fC f24 hM
      generalize (wr hj 135 b9 (.int (x_1 + (1 : Int32)))) = hs_17 at *
      refine g_loadA act (gx gp_264 (w := 0x3f03) rfl (by decide) rfl) (a := 0) (n := 63) rfl rfl rfl ?_
      refine n_call tb_pres act hEnd (gx (P := G_call) gp_264 (w := 0xa000000000000c08110000ce00420f) rfl (by decide) rfl) (d' := D_206) rfl (as := [.ref 124]) (rest := []) (b_findsP (ou := (wl 38)) (bd9 := 220) (bl9 := 400) hNW ⟨rw_6, f_7, f_8⟩ ⟨hG0, ⟨_, f_14, hoi⟩, ⟨_, f_9, (fun j9 => by have q9 := bd_10 j9; omega)⟩, ⟨_, f_11, hlm⟩, ⟨_, f_12, hem⟩, ⟨_, f_13, hcp⟩⟩ (by decide) (by decide)) (show (1 : Nat) = fb 0xa000000000000c08110000ce00420f % 16 by decide) (by show (1 : Nat) ≤ 2; decide) (fun _ => ⟨_, _, rfl, _, shp_at rw_6.1, Or.inr (show fb 0xa000000000000c08110000ce00420f >>> 68 = 10 by decide)⟩) (by omega) (by show 8 + (2 + 11) + 186 ≤ R.locals; omega) (by show (0 : Nat) ≤ 8; decide) (by show kc + 0 ≤ _; omega) (by show ks + 0 ≤ _; omega) (fun r9 hs_18 hpo hr9 => ?_) (fun x9 hs9 hx9 hpo => ?_)
      · obtain ⟨-, hr_21, hFd_22, hMd9, fr_19⟩ := hpo
        obtain ⟨rf_23, rfl, hr_21o⟩ := z01_t hr_21
        have rw_24 := rw_6.fr fr_19 WD_rw
        have f_25 := f_7.fr (fun j9 _ => fr_19.2.2 125 j9 (by unfold WD; omega))
        have f_26 := f_8.fr (fun j9 _ => fr_19.2.2 127 j9 (by unfold WD; omega))
        have f_27 := f_9.fr (fun j9 _ => fr_19.2.2 135 j9 (by unfold WD; omega))
        have f_28 := f_11.fr (fun j9 _ => fr_19.2.2 136 j9 (by unfold WD; omega))
        have f_29 := f_12.fr (fun j9 _ => fr_19.2.2 137 j9 (by unfold WD; omega))
        have f_30 := f_13.fr (fun j9 _ => fr_19.2.2 138 j9 (by unfold WD; omega))
        have f_31 := rd_fr fr_19 f_14 (by unfold WD; omega)
        have fr_33 := fr_16.tr (fr_19.mono (fun k9 j9 h9 => by unfold WD at h9; unfold WM; omega))
        have hM_20 := hMd9 f_15
        obtain ⟨-, -, fFo_34, ⟨fK0_34, fK1_34⟩⟩ := hFd_22
        obtain ⟨⟨ct_34, cl_34, f29_34, f30_34, hck_34⟩, fKO_34⟩ := found_k hG0 fFo_34
        clear rw_6 f_7 f_8 f_9 f_11 f_12 f_13 f_14 f_15 fr_16
        show WpN (gp g0 wp) CLS p l e R s m args below meth c Q D_264.2.2.1 kc0 ks0 66 [some (.ref 124), some (.int a), some (.int b), some (.int mi), some (.int ii)] (hs_18, kc, ks) [.int rf_23]
        refine g_storeI act (gx gp_264 (w := 0x4004410) rfl (by decide) rfl) (a := 4) (n := 68) rfl rfl (L2 := [some (.ref 124), some (.int a), some (.int b), some (.int mi), some (.int rf_23)]) rfl ?_
        refine g_loadI act (gx gp_264 (w := 0x3004502) rfl (by decide) rfl) (a := 3) (n := 69) rfl rfl rfl ?_
        refine g_loadI act (gx gp_264 (w := 0x4004702) rfl (by decide) rfl) (a := 4) (n := 71) rfl rfl rfl ?_
        refine g_ifEq act (gx gp_264 (w := 0x4e004a0e) rfl (by decide) rfl) (tgt := 78) (n := 74) rfl rfl (fun h15 => ?_) (fun h15 => ?_)
        · simp only [i_eq, i0] at h15
          refine g_constI act (gx gp_264 (w := 0x40000000400000001000000004f01) rfl (by decide) rfl) (n := 79) (x := (0 : Int32)) (by decide) rfl ?_
          refine g_iadd act (gx gp_264 (w := 0x500a) rfl (by decide) rfl) (n := 80) rfl ?_
          have v_35 := iv_addN hmi (show (0 : Int32).toInt = ((0 : Nat) : Int) from by decide) (show (j9 + 0) < 2147483648 by omega)
          refine g_storeI act (gx gp_264 (w := 0x3005110) rfl (by decide) rfl) (a := 3) (n := 81) rfl rfl (L2 := [some (.ref 124), some (.int a), some (.int b), some (.int (mi + (0 : Int32))), some (.int rf_23)]) rfl ?_
          refine g_goto act (gx gp_264 (w := 0x2907) rfl (by decide) rfl) (n := 41) rfl ?_
          exact res_o hNW rfl (by omega) hf hl hc hsl act hEnd hk1 hk2 _ hM_20 fr_33
        · simp only [i_eq, i0] at h15
          refine g_constI act (gx gp_264 (w := 0x40000000c00000009000000004b01) rfl (by decide) rfl) (n := 75) (x := (1 : Int32)) (by decide) rfl ?_
          refine g_goto act (gx gp_264 (w := 0x4f07) rfl (by decide) rfl) (n := 79) rfl ?_
          refine g_iadd act (gx gp_264 (w := 0x500a) rfl (by decide) rfl) (n := 80) rfl ?_
          have v_36 := iv_addN hmi (show (1 : Int32).toInt = ((1 : Nat) : Int) from by decide) (show (j9 + 1) < 2147483648 by omega)
          refine g_storeI act (gx gp_264 (w := 0x3005110) rfl (by decide) rfl) (a := 3) (n := 81) rfl rfl (L2 := [some (.ref 124), some (.int a), some (.int b), some (.int (mi + (1 : Int32))), some (.int rf_23)]) rfl ?_
          refine g_goto act (gx gp_264 (w := 0x2907) rfl (by decide) rfl) (n := 41) rfl ?_
          exact ih (j9 + 1) (by omega) (by omega) _ _ _ _ v_36 (show _ = (1 : Int) by omega) rw_24 f_25 f_26 f_27 bd_10 f_28 f_29 f_30 f_31 hM_20 fr_33
      · exact absurd hpo.1 (by omega)

theorem b_reserve {g0 : GG} {bl : Nat} {xs : Nat → Int32} {l : Launch} {hs : List CE} {tl wl : Nat → Int} {nl n ng nr : Nat} (hNW : NW tl wl nl n ng nr) {a b : Int32} (hB : BM hs tl wl) (hM : ModF hs) : BodyN SSX TBL g0 CLS bl xs l D_264 10 251 0 0 [.ref 124, .int a, .int b] hs (POI hs) := by
  intro wp p e R s m args below meth c Q kc0 ks0 kc ks act hf hl hc hsl hEnd
  have hN9 := hNW
  obtain ⟨n0, n1, n2, n3, n4, n5, n6, n7, n8, hG0, nL, nC, nP, nD⟩ := hN9
  have hGn := hG0.1
  have hGn3 := hG0.2.1
  have hGl := hG0.2.2.1
  obtain ⟨rw0, hTo, hW⟩ := hB
  show WpN (gp g0 wp) CLS p l e R s m args below meth c Q D_264.2.2.1 kc0 ks0 0 [some (.ref 124), some (.int a), some (.int b), none, none] (hs, kc, ks) []
  refine g_loadA act (gx gp_264 (w := 0x103) rfl (by decide) rfl) (a := 0) (n := 1) rfl rfl rfl ?_
  refine g_loadA act (gx gp_264 (w := 0x203) rfl (by decide) rfl) (a := 0) (n := 2) rfl rfl rfl ?_
  refine g_loadI act (gx gp_264 (w := 0x2000302) rfl (by decide) rfl) (a := 2) (n := 3) rfl rfl rfl ?_
  refine n_call tb_pres act hEnd (gx (P := G_call) gp_264 (w := 0xa000000000000c08220000e300060f) rfl (by decide) rfl) (d' := D_227) rfl (as := [.ref 124, .int b]) (rest := [.ref 124]) (b_isNode (tl := tl) rw0 hTo (rfl : Int32.toInt b = _) (by omega) (by omega)) (show (2 : Nat) = fb 0xa000000000000c08220000e300060f % 16 by decide) (by show (2 : Nat) ≤ 2; decide) (fun _ => ⟨_, _, rfl, _, shp_at rw0.1, Or.inr (show fb 0xa000000000000c08220000e300060f >>> 68 = 10 by decide)⟩) (by omega) (by show 8 + (2 + 11) + 22 ≤ R.locals; omega) (by show (1 : Nat) ≤ 8; decide) (by show kc + 0 ≤ _; omega) (by show ks + 0 ≤ _; omega) (fun r9 h3 hpo hr9 => ?_) (fun x9 hs9 hx9 hpo => ?_)
  · obtain ⟨-, rfl, hin_2⟩ := hpo
    obtain ⟨rv_1, rfl, hin_2o⟩ := in1_t hin_2
    show WpN (gp g0 wp) CLS p l e R s m args below meth c Q D_264.2.2.1 kc0 ks0 6 [some (.ref 124), some (.int a), some (.int b), none, none] (hs, kc, ks) [.int rv_1, .ref 124]
    refine g_loadI act (gx gp_264 (w := 0x1000702) rfl (by decide) rfl) (a := 1) (n := 7) rfl rfl rfl ?_
    refine g_constI act (gx gp_264 (w := 0x40000000400000001000000000801) rfl (by decide) rfl) (n := 8) (x := (0 : Int32)) (by decide) rfl ?_
    refine n_call tb_pres act hEnd (gx (P := G_call) gp_264 (w := 0xa000000000000c10440000df000b0f) rfl (by decide) rfl) (d' := D_223) rfl (as := [.ref 124, .int rv_1, .int a, .int (0 : Int32)]) (rest := []) (b_isGood hNW ⟨rw0, hTo, hW⟩ hM (ti := (Int32.toInt rv_1)) (rfl : Int32.toInt rv_1 = _) (by omega) (x := (Int32.toInt a)) (rfl : Int32.toInt a = _) (y := ((0 : Nat) : Int)) (show (0 : Int32).toInt = ((0 : Nat) : Int) from by decide)) (show (4 : Nat) = fb 0xa000000000000c10440000df000b0f % 16 by decide) (by show (4 : Nat) ≤ 4; decide) (fun _ => ⟨_, _, rfl, _, shp_at rw0.1, Or.inr (show fb 0xa000000000000c10440000df000b0f >>> 68 = 10 by decide)⟩) (by omega) (by show 8 + (4 + 11) + 228 ≤ R.locals; omega) (by show (0 : Nat) ≤ 8; decide) (by show kc + 0 ≤ _; omega) (by show ks + 0 ≤ _; omega) (fun r9 hs_3 hpo hr9 => ?_) (fun x9 hs9 hx9 hpo => ?_)
    · obtain ⟨-, hM_5, fr_4, rg, rfl, hg_6⟩ := hpo
      have rw_8 := rw0.fr fr_4 WM_rw
      have f_9 := hTo.fr (fun j9 _ => fr_4.2.2 125 j9 (by unfold WM; omega))
      have f_10 := hW.fr (fun j9 _ => fr_4.2.2 127 j9 (by unfold WM; omega))
      have fr_11 := (FrS.rf WM hs).tr fr_4
      show WpN (gp g0 wp) CLS p l e R s m args below meth c Q D_264.2.2.1 kc0 ks0 11 [some (.ref 124), some (.int a), some (.int b), none, none] (hs_3, kc, ks) [.int rg]
      rcases hg_6 with rfl | ⟨rfl, g1_13, g2_13, g3_13, g4_13, g5_13, hFD_13⟩
      · refine g_ifNe act (gx gp_264 (w := 0x24000e1d) rfl (by decide) rfl) (tgt := 36) (n := 14) rfl rfl (fun q => absurd q (by decide)) (fun _ => ?_)
        refine g_loadA act (gx gp_264 (w := 0xf03) rfl (by decide) rfl) (a := 0) (n := 15) rfl rfl rfl ?_
        refine g_loadA act (gx gp_264 (w := 0x1003) rfl (by decide) rfl) (a := 0) (n := 16) rfl rfl rfl ?_
        obtain ⟨rz_14, e_15, b_16, b_17⟩ := hM_5.1
        refine r_getf act (gx gp_264 (w := 0x9001304) rfl (by decide) rfl) (n := 19) (ci := 9) (j := 0) (N := 39) rfl rfl rfl rw_8.1 (by decide) (v := .int rz_14) e_15 ?_
        refine g_constI act (gx gp_264 (w := 0x40000001c00000019000000001401) rfl (by decide) rfl) (n := 20) (x := (3 : Int32)) (by decide) rfl ?_
        refine g_icmpNe act (gx gp_264 (w := 0x1b001721) rfl (by decide) rfl) (tgt := 27) (n := 23) rfl rfl (fun h10 => ?_) (fun h10 => ?_)
        · simp only [i_eq, show (3 : Int32).toInt = 3 from by decide] at h10
          refine g_loadA act (gx gp_264 (w := 0x1c03) rfl (by decide) rfl) (a := 0) (n := 28) rfl rfl rfl ?_
          refine r_getf act (gx gp_264 (w := 0x9001f04) rfl (by decide) rfl) (n := 31) (ci := 9) (j := 0) (N := 39) rfl rfl rfl rw_8.1 (by decide) (v := .int rz_14) e_15 ?_
          refine r_putf act (gx gp_264 (w := 0x9002213) rfl (by decide) rfl) (n := 34) (ci := 9) (j := 0) (N := 39) rfl rfl rfl rw_8.1 (by decide) (Or.inl ⟨rfl, _, rfl⟩) ?_
          have rw_18 := RW.wr (k := 124) (j := 0) (v := .int rz_14) rw_8 (Or.inr (by decide))
          have f_19 := f_9.ne (k := 124) (j := 0) (v := .int rz_14) (by decide)
          have f_20 := f_10.ne (k := 124) (j := 0) (v := .int rz_14) (by decide)
          have f_21 := hM_5.wr0 (x := rz_14) rw_8.1 (by omega) (by omega)
          have f_23 := rd_same (j := 0) (v := .int rz_14) rw_8.1
          have fr_24 := fr_11.wr (k := 124) (j := 0) (.int rz_14) (by unfold WM; omega)
          clear rw_8 fr_11 f_9 f_10 hM_5 e_15
          generalize (wr hs_3 124 0 (.int rz_14)) = hs_25 at *
          refine g_constI act (gx gp_264 (w := 0x40000000400000001000000002301) rfl (by decide) rfl) (n := 35) (x := (0 : Int32)) (by decide) rfl ?_
          exact g_retI hEnd (gx gp_264 (w := 0x2f) rfl (by decide) rfl) ⟨rfl, ⟨_, rfl⟩, f_21, fr_24⟩ (by show kc ≤ kc + 0; omega) (by show ks ≤ ks + 0; omega)
        · simp only [i_eq, show (3 : Int32).toInt = 3 from by decide] at h10
          refine g_constI act (gx gp_264 (w := 0x40000001400000011000000001801) rfl (by decide) rfl) (n := 24) (x := (2 : Int32)) (by decide) rfl ?_
          refine g_goto act (gx gp_264 (w := 0x1f07) rfl (by decide) rfl) (n := 31) rfl ?_
          refine r_putf act (gx gp_264 (w := 0x9002213) rfl (by decide) rfl) (n := 34) (ci := 9) (j := 0) (N := 39) rfl rfl rfl rw_8.1 (by decide) (Or.inl ⟨rfl, _, rfl⟩) ?_
          have rw_26 := RW.wr (k := 124) (j := 0) (v := .int (2 : Int32)) rw_8 (Or.inr (by decide))
          have f_27 := f_9.ne (k := 124) (j := 0) (v := .int (2 : Int32)) (by decide)
          have f_28 := f_10.ne (k := 124) (j := 0) (v := .int (2 : Int32)) (by decide)
          have f_29 := hM_5.wr0 (x := (2 : Int32)) rw_8.1 (by decide) (by decide)
          have f_31 := rd_same (j := 0) (v := .int (2 : Int32)) rw_8.1
          have fr_32 := fr_11.wr (k := 124) (j := 0) (.int (2 : Int32)) (by unfold WM; omega)
          clear rw_8 fr_11 f_9 f_10 hM_5 e_15
          generalize (wr hs_3 124 0 (.int (2 : Int32))) = hs_33 at *
          refine g_constI act (gx gp_264 (w := 0x40000000400000001000000002301) rfl (by decide) rfl) (n := 35) (x := (0 : Int32)) (by decide) rfl ?_
          exact g_retI hEnd (gx gp_264 (w := 0x2f) rfl (by decide) rfl) ⟨rfl, ⟨_, rfl⟩, f_29, fr_32⟩ (by show kc ≤ kc + 0; omega) (by show ks ≤ ks + 0; omega)
      · obtain ⟨⟨frw_12, fTo_12, fW_12⟩, ⟨hG_12, ⟨oi_12, f24_12, hoi_12⟩, ⟨dm_12, fD_12, hdm_12⟩, ⟨lm_12, fL_12, hlm_12⟩, ⟨em_12, fE_12, hem_12⟩, ⟨cp_12, fC_12, hcp_12⟩⟩, fFo_12, ⟨fK0_12, fK1_12⟩⟩ := hFD_13
        obtain ⟨⟨ct_12, cl_12, f29_12, f30_12, hck_12⟩, fKO_12⟩ := found_k hG_12 fFo_12
        refine g_ifNe act (gx gp_264 (w := 0x24000e1d) rfl (by decide) rfl) (tgt := 36) (n := 14) rfl rfl (fun _ => ?_) (fun q => absurd (by decide) q)
        refine g_constI act (gx gp_264 (w := 0x40000000400000001000000002501) rfl (by decide) rfl) (n := 37) (x := (0 : Int32)) (by decide) rfl ?_
        refine g_storeI act (gx gp_264 (w := 0x3002610) rfl (by decide) rfl) (a := 3) (n := 38) rfl rfl (L2 := [some (.ref 124), some (.int a), some (.int b), some (.int (0 : Int32)), none]) rfl ?_
        refine g_constI act (gx gp_264 (w := 0x40000000c00000009000000002701) rfl (by decide) rfl) (n := 39) (x := (1 : Int32)) (by decide) rfl ?_
        refine g_storeI act (gx gp_264 (w := 0x4002910) rfl (by decide) rfl) (a := 4) (n := 41) rfl rfl (L2 := [some (.ref 124), some (.int a), some (.int b), some (.int (0 : Int32)), some (.int (1 : Int32))]) rfl ?_
        exact res_1 hNW (b9 := b.toInt.toNat) (by omega) (by omega) hoi_12 hlm_12 hem_12 hcp_12 hf hl hc hsl act hEnd (by omega) (by omega) 0 (by omega) _ _ _ _ rfl rfl frw_12 fTo_12 fW_12 fD_12 (fun j => by have q9 := hdm_12 j; omega) fL_12 fE_12 fC_12 f24_12 hM_5 fr_11
    · exact absurd hpo.1 (by omega)
  · exact absurd hpo.1 (by omega)
