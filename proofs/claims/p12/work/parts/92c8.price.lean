/-! The reference: prices. -/
def bitS (x : Int32) (k : Nat) : Prop := ∀ y : Int32, y.toInt = (k : Int) → ((x >>> (y &&& 31)) &&& 1).toInt ≠ 0
/-- a node's price: the difference of two costs, each over a determinant -/
def PRk (h2 : List CE) (tl : Nat → Int) (nl n : Nat) (ou : Int) (C0 : Rat) (k : Nat) : Prop := ∃ (C : Rat) (D : Nat) (t w : Int64), PD tl nl n ou D ∧ IsI ((D : Rat) * C) ∧ 0 ≤ C ∧ C ≤ 99000 ∧ rd h2 144 k = .long t ∧ rd h2 145 k = .long w ∧ FR t w (C + -C0)
def PRall (h2 : List CE) (tl : Nat → Int) (nl n : Nat) (ou : Int) (C0 : Rat) (ni : Int32) (j : Nat) : Prop := ∀ k, k < j → k ≤ n → bitS ni k → PRk h2 tl nl n ou C0 k
def PRI (h2 : List CE) (tl : Nat → Int) (nl n : Nat) (ou : Int) (ni : Int32) : Prop := ∃ (C0 : Rat) (D0 : Nat), PD tl nl n ou D0 ∧ IsI ((D0 : Rat) * C0) ∧ 0 ≤ C0 ∧ C0 ≤ 99000 ∧ ∀ k, k ≤ n → bitS ni k → PRk h2 tl nl n ou C0 k
section PRS
variable {hs h2 : List CE} {tl : Nat → Int} {nl n : Nat} {ou : Int} {C0 : Rat} {ni : Int32} {j : Nat} {W : Nat → Nat → Prop}
theorem PRk.fr {k : Nat} (h : PRk hs tl nl n ou C0 k) (e1 : rd h2 144 k = rd hs 144 k) (e2 : rd h2 145 k = rd hs 145 k) : PRk h2 tl nl n ou C0 k := by
  obtain ⟨C, D, t, w, a1, a2, a3, a4, a5, a6, a7⟩ := h
  exact ⟨C, D, t, w, a1, a2, a3, a4, e1.trans a5, e2.trans a6, a7⟩
theorem PRall.fr (h : PRall hs tl nl n ou C0 ni j) (f : FrS W hs h2) (hw : ∀ i, ¬ W 144 i ∧ ¬ W 145 i) : PRall h2 tl nl n ou C0 ni j := fun k q1 q2 q3 => (h k q1 q2 q3).fr (f.2.2 144 k (hw k).1) (f.2.2 145 k (hw k).2)
theorem PRI.fr (h : PRI hs tl nl n ou ni) (f : FrS W hs h2) (hw : ∀ i, ¬ W 144 i ∧ ¬ W 145 i) : PRI h2 tl nl n ou ni := by
  obtain ⟨C0, D0, a1, a2, a3, a4, a5⟩ := h
  exact ⟨C0, D0, a1, a2, a3, a4, fun k q2 q3 => (a5 k q2 q3).fr (f.2.2 144 k (hw k).1) (f.2.2 145 k (hw k).2)⟩
theorem PRall.wj (h : PRall hs tl nl n ou C0 ni j) {c : Nat} {v : Value} : PRall (wr hs c j v) tl nl n ou C0 ni j := fun k q1 q2 q3 => (h k q1 q2 q3).fr (rd_ne _ _ (Or.inr (by omega))) (rd_ne _ _ (Or.inr (by omega)))
theorem PRall.next (h : PRall hs tl nl n ou C0 ni j) (hn : bitS ni j → PRk hs tl nl n ou C0 j) : PRall hs tl nl n ou C0 ni (j + 1) := fun k q1 q2 q3 => by
  by_cases z : k = j
  · rw [z] at q3 ⊢; exact hn q3
  · exact h k (by omega) q2 q3
end PRS

theorem pr_e {g0 : GG} {bl : Nat} {xs : Nat → Int32} {l : Launch} {wp : va_W} {p : Program} {e : Env} {R : Room} {s : State} {m : MethodId} {args : Array Value} {below : List Frame} {meth : Method} {c : Code} {Q : State → Prop} {kc0 ks0 kc ks f lam KC KS : Nat} {hs : List CE} {tl wl : Nat → Int} {nl n ng nr : Nat} (hNW : NW tl wl nl n ng nr) {ni oi : Int32} {dm lm em cp : Nat → Int} (hoi : oi.toInt = wl 38) (hdm : ∀ j, 0 ≤ dm j ∧ dm j ≤ 200) (hlm : ∀ j, 0 ≤ lm j ∧ lm j ≤ 400) (hem : ∀ j, 0 ≤ em j ∧ em j ≤ 400) (hcp : ∀ j, 0 ≤ cp j ∧ cp j ≤ 200) {a b : Int64} {ii xi : Int32} (hf : 8 ≤ R.frames) (hl : 207 ≤ R.locals) (hc : kc ≤ R.cells + kc0) (hsl : ks ≤ R.slots + ks0) (act : Act SSX TBL (gp g0 wp) CLS bl xs D_254 p l s m args meth c) (hEnd : EndN SSX TBL (gp g0 wp) CLS D_254 p l e R s m args below meth c Q kc0 ks0 f lam KC KS (fun kd r h2 => kd = 0 ∧ ModF h2 ∧ FrS WM hs h2 ∧ ∃ rv : Int32, r = some (.int rv) ∧ (rv = 0 ∨ (rv = 1 ∧ PRI h2 tl nl n (wl 38) ni ∧ FD9 h2 tl wl nl n (wl 38) 200 400)))) (hk1 : kc ≤ KC) (hk2 : ks ≤ KS) (hj : List CE) (hi01 : ii = 0 ∨ (ii = 1 ∧ PRI hj tl nl n (wl 38) ni)) : RW hj → IArr hj 125 46 tl → IArr hj 127 39 wl → IArr hj 135 4 dm → IArr hj 136 6 lm → IArr hj 137 6 em → IArr hj 138 5 cp → rd hj 124 24 = .int oi → ModF hj → FrS WM hs hj → WpN (gp g0 wp) CLS p l e R s m args below meth c Q D_254.2.2.1 kc0 ks0 117 [some (.ref 124), some (.int ni), some (.long a), none, some (.long b), none, some (.int ii), some (.int xi)] (hj, kc, ks) [] := by
  have hN9 := hNW
  obtain ⟨n0, n1, n2, n3, n4, n5, n6, n7, n8, hG0, nL, nC, nP, nD⟩ := hN9
  have hGn := hG0.1
  have hGn3 := hG0.2.1
  have hGl := hG0.2.2.1
  intro rwj fTo fW fD fL fE fC f24 hM hfr
  refine g_loadA act (gx gp_254 (w := 0x7603) rfl (by decide) rfl) (a := 0) (n := 118) rfl rfl rfl ?_
  refine n_call tb_pres act hEnd (gx (P := G_call) gp_254 (w := 0xa000000000000c08110000ce00790f) rfl (by decide) rfl) (d' := D_206) rfl (as := [.ref 124]) (rest := []) (b_findsP (ou := (wl 38)) (bd9 := 200) (bl9 := 400) hNW ⟨rwj, fTo, fW⟩ ⟨hG0, ⟨_, f24, hoi⟩, ⟨_, fD, hdm⟩, ⟨_, fL, hlm⟩, ⟨_, fE, hem⟩, ⟨_, fC, hcp⟩⟩ (by decide) (by decide)) (show (1 : Nat) = fb 0xa000000000000c08110000ce00790f % 16 by decide) (by show (1 : Nat) ≤ 2; decide) (fun _ => ⟨_, _, rfl, _, shp_at rwj.1, Or.inr (show fb 0xa000000000000c08110000ce00790f >>> 68 = 10 by decide)⟩) (by omega) (by show 8 + (2 + 11) + 186 ≤ R.locals; omega) (by show (0 : Nat) ≤ 8; decide) (by show kc + 0 ≤ _; omega) (by show ks + 0 ≤ _; omega) (fun r9 hs_1 hpo hr9 => ?_) (fun x9 hs9 hx9 hpo => ?_)
  · obtain ⟨-, hr_4, hFd_5, hMd9, fr_2⟩ := hpo
    obtain ⟨rf_6, rfl, hr_4o⟩ := z01_t hr_4
    have rw_7 := rwj.fr fr_2 WD_rw
    have f_8 := fTo.fr (fun j9 _ => fr_2.2.2 125 j9 (by unfold WD; omega))
    have f_9 := fW.fr (fun j9 _ => fr_2.2.2 127 j9 (by unfold WD; omega))
    have f_10 := fD.fr (fun j9 _ => fr_2.2.2 135 j9 (by unfold WD; omega))
    have f_11 := fL.fr (fun j9 _ => fr_2.2.2 136 j9 (by unfold WD; omega))
    have f_12 := fE.fr (fun j9 _ => fr_2.2.2 137 j9 (by unfold WD; omega))
    have f_13 := fC.fr (fun j9 _ => fr_2.2.2 138 j9 (by unfold WD; omega))
    have f_14 := rd_fr fr_2 f24 (by unfold WD; omega)
    have fr_16 := hfr.tr (fr_2.mono (fun k9 j9 h9 => by unfold WD at h9; unfold WM; omega))
    have hM_3 := hMd9 hM
    obtain ⟨-, -, fFo_17, ⟨fK0_17, fK1_17⟩⟩ := hFd_5
    obtain ⟨⟨ct_17, cl_17, f29_17, f30_17, hck_17⟩, fKO_17⟩ := found_k hG0 fFo_17
    have hfin := fr_2
    clear rwj fTo fW fD fL fE fC f24 hM hfr
    show WpN (gp g0 wp) CLS p l e R s m args below meth c Q D_254.2.2.1 kc0 ks0 121 [some (.ref 124), some (.int ni), some (.long a), none, some (.long b), none, some (.int ii), some (.int xi)] (hs_1, kc, ks) [.int rf_6]
    refine g_storeI act (gx gp_254 (w := 0x7007b10) rfl (by decide) rfl) (a := 7) (n := 123) rfl rfl (L2 := [some (.ref 124), some (.int ni), some (.long a), none, some (.long b), none, some (.int ii), some (.int rf_6)]) rfl ?_
    refine g_loadI act (gx gp_254 (w := 0x6007d02) rfl (by decide) rfl) (a := 6) (n := 125) rfl rfl rfl ?_
    exact g_retZ hEnd (gx gp_254 (w := 0x23) rfl (by decide) rfl) (hi01.elim Or.inl (fun q => Or.inr q.1)) ⟨rfl, hM_3, fr_16, ii, rfl, hi01.elim Or.inl (fun q => Or.inr ⟨q.1, q.2.fr hfin (fun j9 => by unfold WD; omega), ⟨rw_7, f_8, f_9⟩, ⟨hG0, ⟨_, f_14, hoi⟩, ⟨_, f_10, hdm⟩, ⟨_, f_11, hlm⟩, ⟨_, f_12, hem⟩, ⟨_, f_13, hcp⟩⟩, fFo_17, fK0_17, fK1_17⟩)⟩ hk1 hk2
  · exact absurd hpo.1 (by omega)

theorem pr_o {g0 : GG} {bl : Nat} {xs : Nat → Int32} {l : Launch} {wp : va_W} {p : Program} {e : Env} {R : Room} {s : State} {m : MethodId} {args : Array Value} {below : List Frame} {meth : Method} {c : Code} {Q : State → Prop} {kc0 ks0 kc ks f lam KC KS : Nat} {hs : List CE} {tl wl : Nat → Int} {nl n ng nr : Nat} (hNW : NW tl wl nl n ng nr) {ni oi : Int32} {dm lm em cp : Nat → Int} (hoi : oi.toInt = wl 38) (hdm : ∀ j, 0 ≤ dm j ∧ dm j ≤ 200) (hlm : ∀ j, 0 ≤ lm j ∧ lm j ≤ 400) (hem : ∀ j, 0 ≤ em j ∧ em j ≤ 400) (hcp : ∀ j, 0 ≤ cp j ∧ cp j ≤ 200) {a b : Int64} {ii xi : Int32} {j9 : Nat} (hxi : xi.toInt = (j9 : Int)) (hii : ii.toInt = 0) (hf : 8 ≤ R.frames) (hl : 207 ≤ R.locals) (hc : kc ≤ R.cells + kc0) (hsl : ks ≤ R.slots + ks0) (act : Act SSX TBL (gp g0 wp) CLS bl xs D_254 p l s m args meth c) (hEnd : EndN SSX TBL (gp g0 wp) CLS D_254 p l e R s m args below meth c Q kc0 ks0 f lam KC KS (fun kd r h2 => kd = 0 ∧ ModF h2 ∧ FrS WM hs h2 ∧ ∃ rv : Int32, r = some (.int rv) ∧ (rv = 0 ∨ (rv = 1 ∧ PRI h2 tl nl n (wl 38) ni ∧ FD9 h2 tl wl nl n (wl 38) 200 400)))) (hk1 : kc ≤ KC) (hk2 : ks ≤ KS) (hj : List CE) : RW hj → IArr hj 125 46 tl → IArr hj 127 39 wl → IArr hj 135 4 dm → IArr hj 136 6 lm → IArr hj 137 6 em → IArr hj 138 5 cp → rd hj 124 24 = .int oi → ModF hj → FrS WM hs hj → WpN (gp g0 wp) CLS p l e R s m args below meth c Q D_254.2.2.1 kc0 ks0 17 [some (.ref 124), some (.int ni), some (.long a), none, some (.long b), none, some (.int ii), some (.int xi)] (hj, kc, ks) [] := by
  have hN9 := hNW
  obtain ⟨n0, n1, n2, n3, n4, n5, n6, n7, n8, hG0, nL, nC, nP, nD⟩ := hN9
  have hGn := hG0.1
  have hGn3 := hG0.2.1
  have hGl := hG0.2.2.1
  intro rwj fTo fW fD fL fE fC f24 hM hfr
  refine g_loadI act (gx gp_254 (w := 0x7001302) rfl (by decide) rfl) (a := 7) (n := 19) rfl rfl rfl ?_
  refine g_loadA act (gx gp_254 (w := 0x1403) rfl (by decide) rfl) (a := 0) (n := 20) rfl rfl rfl ?_
  refine r_getf act (gx gp_254 (w := 0x3000049001704) rfl (by decide) rfl) (n := 23) (ci := 9) (j := 1) (N := 39) rfl rfl rfl rwj.1 (by decide) (rwj.2 (1, 125, 32, 46) (by decide)).1 ?_
  refine g_constI act (gx gp_254 (w := 0x40000000400000001000000001801) rfl (by decide) rfl) (n := 24) (x := (0 : Int32)) (by decide) rfl ?_
  obtain ⟨x_1, e_2, hx_3⟩ := fTo 0 (by omega)
  refine r_iald act (gx gp_254 (w := 0x191a) rfl (by decide) rfl) (n := 25) (j := 0) rfl (rwj.2 (1, 125, 32, 46) (by decide)).2 (show (0 : Int32).toInt = ((0 : Nat) : Int) from by decide) (show 0 < 46 by omega) (v := .int x_1) e_2 ?_
  refine g_icmpGe act (gx gp_254 (w := 0x75001c08) rfl (by decide) rfl) (tgt := 117) (n := 28) rfl rfl (fun h4 => ?_) (fun h4 => ?_)
  · simp only [i_le] at h4
    exact pr_e hNW hoi hdm hlm hem hcp hf hl hc hsl act hEnd hk1 hk2 hj (Or.inl (Int32.toInt_inj.mp (hii.trans (by decide)))) rwj fTo fW fD fL fE fC f24 hM hfr
  · simp only [i_le] at h4
    refine g_loadI act (gx gp_254 (w := 0x6001e02) rfl (by decide) rfl) (a := 6) (n := 30) rfl rfl rfl ?_
    refine g_ifEq act (gx gp_254 (w := 0x7500210e) rfl (by decide) rfl) (tgt := 117) (n := 33) rfl rfl (fun h6 => ?_) (fun h6 => ?_)
    · simp only [i_eq, i0] at h6
      exact pr_e hNW hoi hdm hlm hem hcp hf hl hc hsl act hEnd hk1 hk2 hj (Or.inl (Int32.toInt_inj.mp (hii.trans (by decide)))) rwj fTo fW fD fL fE fC f24 hM hfr
    · simp only [i_eq, i0] at h6
      exfalso; omega

theorem up_back (f : Nat → Int) (i j : Nat) : upI (upI f i (f i + 1)) i (upI f i (f i + 1) i - 1) j = f j := by
  unfold upI
  by_cases z : j = i
  · rw [if_pos z, if_pos rfl, z]; omega
  · rw [if_neg z, if_neg z]
theorem price_sm {D : Nat} {C : Rat} (hl : 0 < D ∧ D ≤ 256) (hI : IsI ((D : Rat) * C)) (h0 : 0 ≤ C) (h9 : C ≤ 99000) : Sml C := sml_of (X := 99000) hl.1 hl.2 hI ⟨by have : (0 : Rat) ≤ ((99000 : Nat) : Rat) := ic_le.mpr (by decide); grind, h9⟩ (by decide)
theorem pr_1 {g0 : GG} {bl : Nat} {xs : Nat → Int32} {l : Launch} {wp : va_W} {p : Program} {e : Env} {R : Room} {s : State} {m : MethodId} {args : Array Value} {below : List Frame} {meth : Method} {c : Code} {Q : State → Prop} {kc0 ks0 kc ks f lam KC KS : Nat} {hs : List CE} {tl wl : Nat → Int} {nl n ng nr : Nat} (hNW : NW tl wl nl n ng nr) {ni oi : Int32} {dm lm em cp : Nat → Int} (hoi : oi.toInt = wl 38) (hdm : ∀ j, 0 ≤ dm j ∧ dm j ≤ 200) (hlm : ∀ j, 0 ≤ lm j ∧ lm j ≤ 400) (hem : ∀ j, 0 ≤ em j ∧ em j ≤ 400) (hcp : ∀ j, 0 ≤ cp j ∧ cp j ≤ 200) {a b : Int64} {C0 : Rat} {D0 : Nat} (hab : FR a b C0) (hPD0 : PD tl nl n (wl 38) D0) (hI0 : IsI ((D0 : Rat) * C0)) (hC00 : 0 ≤ C0) (hC099 : C0 ≤ 99000) (hf : 8 ≤ R.frames) (hl : 207 ≤ R.locals) (hc : kc ≤ R.cells + kc0) (hsl : ks ≤ R.slots + ks0) (act : Act SSX TBL (gp g0 wp) CLS bl xs D_254 p l s m args meth c) (hEnd : EndN SSX TBL (gp g0 wp) CLS D_254 p l e R s m args below meth c Q kc0 ks0 f lam KC KS (fun kd r h2 => kd = 0 ∧ ModF h2 ∧ FrS WM hs h2 ∧ ∃ rv : Int32, r = some (.int rv) ∧ (rv = 0 ∨ (rv = 1 ∧ PRI h2 tl nl n (wl 38) ni ∧ FD9 h2 tl wl nl n (wl 38) 200 400)))) (hk1 : kc ≤ KC) (hk2 : ks ≤ KS) : ∀ j9 : Nat, j9 ≤ n + 1 → ∀ (xi ii : Int32) (hj : List CE), xi.toInt = (j9 : Int) → ii.toInt = 1 → RW hj → IArr hj 125 46 tl → IArr hj 127 39 wl → IArr hj 135 4 dm → IArr hj 136 6 lm → IArr hj 137 6 em → IArr hj 138 5 cp → rd hj 124 24 = .int oi → ModF hj → PRall hj tl nl n (wl 38) C0 ni j9 → FrS WM hs hj → WpN (gp g0 wp) CLS p l e R s m args below meth c Q D_254.2.2.1 kc0 ks0 17 [some (.ref 124), some (.int ni), some (.long a), none, some (.long b), none, some (.int ii), some (.int xi)] (hj, kc, ks) [] := by
  have hN9 := hNW
  obtain ⟨n0, n1, n2, n3, n4, n5, n6, n7, n8, hG0, nL, nC, nP, nD⟩ := hN9
  have hGn := hG0.1
  have hGn3 := hG0.2.1
  have hGl := hG0.2.2.1
  have hsA := price_sm (hPD0.le hG0) hI0 hC00 hC099
  refine dn (fun j9 hj9 ih => ?_)
  intro xi ii hj hxi hii rwj fTo fW fD fL fE fC f24 hM hPR hfr
  refine g_loadI act (gx gp_254 (w := 0x7001302) rfl (by decide) rfl) (a := 7) (n := 19) rfl rfl rfl ?_
  refine g_loadA act (gx gp_254 (w := 0x1403) rfl (by decide) rfl) (a := 0) (n := 20) rfl rfl rfl ?_
  refine r_getf act (gx gp_254 (w := 0x3000049001704) rfl (by decide) rfl) (n := 23) (ci := 9) (j := 1) (N := 39) rfl rfl rfl rwj.1 (by decide) (rwj.2 (1, 125, 32, 46) (by decide)).1 ?_
  refine g_constI act (gx gp_254 (w := 0x40000000400000001000000001801) rfl (by decide) rfl) (n := 24) (x := (0 : Int32)) (by decide) rfl ?_
  obtain ⟨x_1, e_2, hx_3⟩ := fTo 0 (by omega)
  refine r_iald act (gx gp_254 (w := 0x191a) rfl (by decide) rfl) (n := 25) (j := 0) rfl (rwj.2 (1, 125, 32, 46) (by decide)).2 (show (0 : Int32).toInt = ((0 : Nat) : Int) from by decide) (show 0 < 46 by omega) (v := .int x_1) e_2 ?_
  refine g_icmpGe act (gx gp_254 (w := 0x75001c08) rfl (by decide) rfl) (tgt := 117) (n := 28) rfl rfl (fun h4 => ?_) (fun h4 => ?_)
  · simp only [i_le] at h4
    obtain rfl : j9 = n + 1 := by omega
    exact pr_e hNW hoi hdm hlm hem hcp hf hl hc hsl act hEnd hk1 hk2 hj (Or.inr ⟨Int32.toInt_inj.mp (hii.trans (by decide)), C0, D0, hPD0, hI0, hC00, hC099, fun k q1 q2 => hPR k (by omega) q1 q2⟩) rwj fTo fW fD fL fE fC f24 hM hfr
  · simp only [i_le] at h4
    refine g_loadI act (gx gp_254 (w := 0x6001e02) rfl (by decide) rfl) (a := 6) (n := 30) rfl rfl rfl ?_
    refine g_ifEq act (gx gp_254 (w := 0x7500210e) rfl (by decide) rfl) (tgt := 117) (n := 33) rfl rfl (fun h6 => ?_) (fun h6 => ?_)
    · simp only [i_eq, i0] at h6
      exfalso; omega
    · simp only [i_eq, i0] at h6
      refine g_loadI act (gx gp_254 (w := 0x1002202) rfl (by decide) rfl) (a := 1) (n := 34) rfl rfl rfl ?_
      refine g_loadI act (gx gp_254 (w := 0x7002402) rfl (by decide) rfl) (a := 7) (n := 36) rfl rfl rfl ?_
      refine g_ishr act (gx gp_254 (w := 0x2534) rfl (by decide) rfl) (n := 37) rfl ?_
      refine g_constI act (gx gp_254 (w := 0x40000000c00000009000000002601) rfl (by decide) rfl) (n := 38) (x := (1 : Int32)) (by decide) rfl ?_
      refine g_iand act (gx gp_254 (w := 0x2733) rfl (by decide) rfl) (n := 39) rfl ?_
      refine g_ifNe act (gx gp_254 (w := 0x2d002a1d) rfl (by decide) rfl) (tgt := 45) (n := 42) rfl rfl (fun h11 => ?_) (fun h11 => ?_)
      · simp only [i_eq, show (1 : Int32).toInt = 1 from by decide, i0] at h11
        refine g_loadA act (gx gp_254 (w := 0x2e03) rfl (by decide) rfl) (a := 0) (n := 46) rfl rfl rfl ?_
        refine r_getf act (gx gp_254 (w := 0x3000509003104) rfl (by decide) rfl) (n := 49) (ci := 9) (j := 20) (N := 39) rfl rfl rfl rwj.1 (by decide) (rwj.2 (20, 135, 32, 4) (by decide)).1 ?_
        refine g_loadI act (gx gp_254 (w := 0x7003302) rfl (by decide) rfl) (a := 7) (n := 51) rfl rfl rfl ?_
        refine g_dup2 act (gx gp_254 (w := 0x3430) rfl (by decide) rfl) (n := 52) rfl rfl rfl ?_
        obtain ⟨x_4, e_5, hx_6⟩ := fD j9 (by omega)
        have b_7 := hdm j9
        refine r_iald act (gx gp_254 (w := 0x351a) rfl (by decide) rfl) (n := 53) (j := j9) rfl (rwj.2 (20, 135, 32, 4) (by decide)).2 hxi (show j9 < 4 by omega) (v := .int x_4) e_5 ?_
        refine g_constI act (gx gp_254 (w := 0x40000000c00000009000000003601) rfl (by decide) rfl) (n := 54) (x := (1 : Int32)) (by decide) rfl ?_
        refine g_iadd act (gx gp_254 (w := 0x370a) rfl (by decide) rfl) (n := 55) rfl ?_
        have v_8 := iv_add hx_6 (show (1 : Int32).toInt = ((1 : Nat) : Int) from by decide) (show -2147483648 ≤ ((dm j9) + ((1 : Nat) : Int)) by omega) (show ((dm j9) + ((1 : Nat) : Int)) < 2147483648 by omega)
        refine r_iast act (gx gp_254 (w := 0x3824) rfl (by decide) rfl) (n := 56) (j := j9) rfl (rwj.2 (20, 135, 32, 4) (by decide)).2 hxi (show j9 < 4 by omega) ?_
        have rw_9 := RW.wr (k := 135) (j := j9) (v := .int (x_4 + (1 : Int32))) rwj (Or.inl (by decide))
        have f_10 := fTo.ne (k := 135) (j := j9) (v := .int (x_4 + (1 : Int32))) (by decide)
        have f_11 := fW.ne (k := 135) (j := j9) (v := .int (x_4 + (1 : Int32))) (by decide)
        have f_12 := fD.put (j := j9) (rwj.2 (20, 135, 32, 4) (by decide)).2 v_8
        have bd_13 := upI_b (i := j9) (X := ((dm j9) + ((1 : Nat) : Int))) (hi2 := 201) hdm (by decide) (by omega) (by omega)
        have f_14 := fL.ne (k := 135) (j := j9) (v := .int (x_4 + (1 : Int32))) (by decide)
        have f_15 := fE.ne (k := 135) (j := j9) (v := .int (x_4 + (1 : Int32))) (by decide)
        have f_16 := fC.ne (k := 135) (j := j9) (v := .int (x_4 + (1 : Int32))) (by decide)
        have f_17 := (rd_ne hj (k := 135) (j := j9) (.int (x_4 + (1 : Int32))) (Or.inl (by decide))).trans f24
        have f_18 := hM.ne (k := 135) (j := j9) (v := .int (x_4 + (1 : Int32))) (by decide)
        have f_19 := hPR.fr (frs_one (k := 135) (j := j9) (v := .int (x_4 + (1 : Int32)))) (fun j9 => by omega)
        have fr_20 := hfr.wr (k := 135) (j := j9) (.int (x_4 + (1 : Int32))) (by unfold WM; omega)
        clear rwj hfr fTo fW fD fL fE fC f24 hM hPR
        generalize (wr hj 135 j9 (.int (x_4 + (1 : Int32)))) = hs_21 at *
        refine g_loadA act (gx gp_254 (w := 0x3903) rfl (by decide) rfl) (a := 0) (n := 57) rfl rfl rfl ?_
        refine n_call tb_pres act hEnd (gx (P := G_call) gp_254 (w := 0xa000000000000c08110000ce003c0f) rfl (by decide) rfl) (d' := D_206) rfl (as := [.ref 124]) (rest := []) (b_findsP (ou := (wl 38)) (bd9 := 201) (bl9 := 400) hNW ⟨rw_9, f_10, f_11⟩ ⟨hG0, ⟨_, f_17, hoi⟩, ⟨_, f_12, bd_13⟩, ⟨_, f_14, hlm⟩, ⟨_, f_15, hem⟩, ⟨_, f_16, hcp⟩⟩ (by decide) (by decide)) (show (1 : Nat) = fb 0xa000000000000c08110000ce003c0f % 16 by decide) (by show (1 : Nat) ≤ 2; decide) (fun _ => ⟨_, _, rfl, _, shp_at rw_9.1, Or.inr (show fb 0xa000000000000c08110000ce003c0f >>> 68 = 10 by decide)⟩) (by omega) (by show 8 + (2 + 11) + 186 ≤ R.locals; omega) (by show (0 : Nat) ≤ 8; decide) (by show kc + 0 ≤ _; omega) (by show ks + 0 ≤ _; omega) (fun r9 hs_22 hpo hr9 => ?_) (fun x9 hs9 hx9 hpo => ?_)
        · obtain ⟨-, hr_25, hFd_26, hMd9, fr_23⟩ := hpo
          obtain ⟨rf_27, rfl, hr_25o⟩ := z01_t hr_25
          have rw_28 := rw_9.fr fr_23 WD_rw
          have f_29 := f_10.fr (fun j9 _ => fr_23.2.2 125 j9 (by unfold WD; omega))
          have f_30 := f_11.fr (fun j9 _ => fr_23.2.2 127 j9 (by unfold WD; omega))
          have f_31 := f_12.fr (fun j9 _ => fr_23.2.2 135 j9 (by unfold WD; omega))
          have f_32 := f_14.fr (fun j9 _ => fr_23.2.2 136 j9 (by unfold WD; omega))
          have f_33 := f_15.fr (fun j9 _ => fr_23.2.2 137 j9 (by unfold WD; omega))
          have f_34 := f_16.fr (fun j9 _ => fr_23.2.2 138 j9 (by unfold WD; omega))
          have f_35 := rd_fr fr_23 f_17 (by unfold WD; omega)
          have f_37 := f_19.fr fr_23 (fun j9 => by unfold WD; omega)
          have fr_38 := fr_20.tr (fr_23.mono (fun k9 j9 h9 => by unfold WD at h9; unfold WM; omega))
          have hM_24 := hMd9 f_18
          obtain ⟨-, -, fFo_39, ⟨fK0_39, fK1_39⟩⟩ := hFd_26
          obtain ⟨⟨ct_39, cl_39, f29_39, f30_39, hck_39⟩, fKO_39⟩ := found_k hG0 fFo_39
          clear rw_9 f_10 f_11 f_12 f_14 f_15 f_16 f_17 f_18 f_19 fr_20
          show WpN (gp g0 wp) CLS p l e R s m args below meth c Q D_254.2.2.1 kc0 ks0 60 [some (.ref 124), some (.int ni), some (.long a), none, some (.long b), none, some (.int ii), some (.int xi)] (hs_22, kc, ks) [.int rf_27]
          refine g_storeI act (gx gp_254 (w := 0x6003e10) rfl (by decide) rfl) (a := 6) (n := 62) rfl rfl (L2 := [some (.ref 124), some (.int ni), some (.long a), none, some (.long b), none, some (.int rf_27), some (.int xi)]) rfl ?_
          refine g_loadA act (gx gp_254 (w := 0x3f03) rfl (by decide) rfl) (a := 0) (n := 63) rfl rfl rfl ?_
          refine r_getf act (gx gp_254 (w := 0x3000509004204) rfl (by decide) rfl) (n := 66) (ci := 9) (j := 20) (N := 39) rfl rfl rfl rw_28.1 (by decide) (rw_28.2 (20, 135, 32, 4) (by decide)).1 ?_
          refine g_loadI act (gx gp_254 (w := 0x7004402) rfl (by decide) rfl) (a := 7) (n := 68) rfl rfl rfl ?_
          refine g_dup2 act (gx gp_254 (w := 0x4530) rfl (by decide) rfl) (n := 69) rfl rfl rfl ?_
          obtain ⟨x_40, e_41, hx_42⟩ := f_31 j9 (by omega)
          have b_43 := bd_13 j9
          refine r_iald act (gx gp_254 (w := 0x461a) rfl (by decide) rfl) (n := 70) (j := j9) rfl (rw_28.2 (20, 135, 32, 4) (by decide)).2 hxi (show j9 < 4 by omega) (v := .int x_40) e_41 ?_
          have hus := upI_s dm j9 (dm j9 + ((1 : Nat) : Int))
          have hdj := hdm j9
          refine g_constI act (gx gp_254 (w := 0x40000000c00000009000000004701) rfl (by decide) rfl) (n := 71) (x := (1 : Int32)) (by decide) rfl ?_
          refine g_isub act (gx gp_254 (w := 0x4826) rfl (by decide) rfl) (n := 72) rfl ?_
          have v_44 := iv_sub hx_42 (show (1 : Int32).toInt = ((1 : Nat) : Int) from by decide) (show -2147483648 ≤ (((upI dm j9 ((dm j9) + ((1 : Nat) : Int))) j9) - ((1 : Nat) : Int)) by omega) (show (((upI dm j9 ((dm j9) + ((1 : Nat) : Int))) j9) - ((1 : Nat) : Int)) < 2147483648 by omega)
          refine r_iast act (gx gp_254 (w := 0x4924) rfl (by decide) rfl) (n := 73) (j := j9) rfl (rw_28.2 (20, 135, 32, 4) (by decide)).2 hxi (show j9 < 4 by omega) ?_
          have rw_45 := RW.wr (k := 135) (j := j9) (v := .int (x_40 - (1 : Int32))) rw_28 (Or.inl (by decide))
          have f_46 := f_29.ne (k := 135) (j := j9) (v := .int (x_40 - (1 : Int32))) (by decide)
          have f_47 := f_30.ne (k := 135) (j := j9) (v := .int (x_40 - (1 : Int32))) (by decide)
          have f_48 := f_31.put (j := j9) (rw_28.2 (20, 135, 32, 4) (by decide)).2 v_44
          have bd_49 := upI_b (i := j9) (X := (((upI dm j9 ((dm j9) + ((1 : Nat) : Int))) j9) - ((1 : Nat) : Int))) (hi2 := 201) bd_13 (by decide) (by omega) (by omega)
          have f_50 := f_32.ne (k := 135) (j := j9) (v := .int (x_40 - (1 : Int32))) (by decide)
          have f_51 := f_33.ne (k := 135) (j := j9) (v := .int (x_40 - (1 : Int32))) (by decide)
          have f_52 := f_34.ne (k := 135) (j := j9) (v := .int (x_40 - (1 : Int32))) (by decide)
          have f_53 := (rd_ne hs_22 (k := 135) (j := j9) (.int (x_40 - (1 : Int32))) (Or.inl (by decide))).trans f_35
          have f_54 := f_37.fr (frs_one (k := 135) (j := j9) (v := .int (x_40 - (1 : Int32)))) (fun j9 => by omega)
          have f_55 := hM_24.ne (k := 135) (j := j9) (v := .int (x_40 - (1 : Int32))) (by decide)
          have f_56 := (rd_ne hs_22 (k := 135) (j := j9) (.int (x_40 - (1 : Int32))) (Or.inl (by decide))).trans f29_39
          have f_57 := (rd_ne hs_22 (k := 135) (j := j9) (.int (x_40 - (1 : Int32))) (Or.inl (by decide))).trans f30_39
          have f_58 := fKO_39.ne (k := 135) (j := j9) (v := .int (x_40 - (1 : Int32))) (by decide) (by decide)
          have f_59 := fK0_39.ne (k := 135) (j := j9) (v := .int (x_40 - (1 : Int32))) (by decide) (by decide)
          have f_60 := fun q9 => (fK1_39 q9).ne (k := 135) (j := j9) (v := .int (x_40 - (1 : Int32))) (by decide) (by decide)
          have f_61 := fFo_39.fr (frs_one (k := 135) (j := j9) (v := .int (x_40 - (1 : Int32)))) (fun j9 => by omega) (by omega) (by omega)
          have fr_62 := fr_38.wr (k := 135) (j := j9) (.int (x_40 - (1 : Int32))) (by unfold WM; omega)
          clear rw_28 fr_38 f_29 f_30 f_31 f_32 f_33 f_34 f_35 f_37 hM_24 f29_39 f30_39 fKO_39 fK0_39 fK1_39 fFo_39
          generalize (wr hs_22 135 j9 (.int (x_40 - (1 : Int32)))) = hs_63 at *
          refine g_loadA act (gx gp_254 (w := 0x4a03) rfl (by decide) rfl) (a := 0) (n := 74) rfl rfl rfl ?_
          refine g_loadA act (gx gp_254 (w := 0x4b03) rfl (by decide) rfl) (a := 0) (n := 75) rfl rfl rfl ?_
          refine r_getf act (gx gp_254 (w := 0x2000749004e04) rfl (by decide) rfl) (n := 78) (ci := 9) (j := 29) (N := 39) rfl rfl rfl rw_45.1 (by decide) (v := .long ct_39) f_56 ?_
          refine g_loadA act (gx gp_254 (w := 0x4f03) rfl (by decide) rfl) (a := 0) (n := 79) rfl rfl rfl ?_
          refine r_getf act (gx gp_254 (w := 0x2000789005204) rfl (by decide) rfl) (n := 82) (ci := 9) (j := 30) (N := 39) rfl rfl rfl rw_45.1 (by decide) (v := .long cl_39) f_57 ?_
          refine g_loadL act (gx gp_254 (w := 0x2005306) rfl (by decide) rfl) (a := 2) (n := 83) rfl rfl rfl ?_
          refine g_lneg act (gx gp_254 (w := 0x5425) rfl (by decide) rfl) (n := 84) rfl ?_
          refine g_loadL act (gx gp_254 (w := 0x4005606) rfl (by decide) rfl) (a := 4) (n := 86) rfl rfl rfl ?_
          obtain ⟨D9, C9, o9, t9, w9, hPD9, e29, e30, hFC, -, hIC, hC0, hC99, -⟩ := f_61
          have hF9 : FR ct_39 cl_39 C9 := by have q1 := f_56.symm.trans e29; have q2 := f_57.symm.trans e30; injection q1 with q1; injection q2 with q2; rw [q1, q2]; exact hFC
          have hsC := price_sm (hPD9.le hG0) hIC hC0 hC99
          refine n_call tb_pres act hEnd (gx (P := G_call) gp_254 (w := 0xa00000000000082c950000fc00590f) rfl (by decide) rfl) (d' := D_252) rfl (as := [.ref 124, .long ct_39, .long cl_39, .long (-a), .long b]) (rest := []) (b_plusQ rw_45 hF9 (FR.ngS hab hsA) hsC hsA.neg) (show (5 : Nat) = fb 0xa00000000000082c950000fc00590f % 16 by decide) (by show (9 : Nat) ≤ 11; decide) (fun _ => ⟨_, _, rfl, _, shp_at rw_45.1, Or.inr (show fb 0xa00000000000082c950000fc00590f >>> 68 = 10 by decide)⟩) (by omega) (by show 8 + (11 + 11) + 55 ≤ R.locals; omega) (by show (0 : Nat) ≤ 8; decide) (by show kc + 0 ≤ _; omega) (by show ks + 0 ≤ _; omega) (fun r9 hs_64 hpo hr9 => ?_) (fun x9 hs9 hx9 hpo => ?_)
          · obtain rfl : r9 = none := hr9.elim (fun q => q.2) (fun q => absurd rfl q.1)
            obtain ⟨-, t_65, w_66, e_67, e_68, hFP, fr_69⟩ := hpo
            have hM_70 := ModF.w0 f_55 fr_69
            have rw_71 := rw_45.fr fr_69 W0_rw
            have f_72 := f_46.fr (fun j9 _ => fr_69.2.2 125 j9 (by unfold W0; omega))
            have f_73 := f_47.fr (fun j9 _ => fr_69.2.2 127 j9 (by unfold W0; omega))
            have f_74 := f_48.fr (fun j9 _ => fr_69.2.2 135 j9 (by unfold W0; omega))
            have f_75 := f_50.fr (fun j9 _ => fr_69.2.2 136 j9 (by unfold W0; omega))
            have f_76 := f_51.fr (fun j9 _ => fr_69.2.2 137 j9 (by unfold W0; omega))
            have f_77 := f_52.fr (fun j9 _ => fr_69.2.2 138 j9 (by unfold W0; omega))
            have f_78 := rd_fr fr_69 f_53 (by unfold W0; omega)
            have f_79 := f_54.fr fr_69 (fun j9 => by unfold W0; omega)
            have f_81 := rd_fr fr_69 f_56 (by unfold W0; omega)
            have f_82 := rd_fr fr_69 f_57 (by unfold W0; omega)
            have f_83 := f_58.fr (fun j9 _ _ => ⟨fr_69.2.2 142 j9 (by unfold W0; omega), fr_69.2.2 143 j9 (by unfold W0; omega)⟩)
            have f_84 := f_59.fr (fun j9 _ _ => ⟨fr_69.2.2 131 j9 (by unfold W0; omega), fr_69.2.2 132 j9 (by unfold W0; omega)⟩)
            have f_85 := fun q9 => (f_60 q9).fr (fun j9 _ _ => ⟨fr_69.2.2 131 j9 (by unfold W0; omega), fr_69.2.2 132 j9 (by unfold W0; omega)⟩)
            have fr_86 := fr_62.tr (fr_69.mono (fun k9 j9 h9 => by unfold W0 at h9; unfold WM; omega))
            clear rw_45 f_46 f_47 f_48 f_50 f_51 f_52 f_53 f_54 f_55 f_56 f_57 f_58 f_59 f_60 fr_62
            show WpN (gp g0 wp) CLS p l e R s m args below meth c Q D_254.2.2.1 kc0 ks0 89 [some (.ref 124), some (.int ni), some (.long a), none, some (.long b), none, some (.int rf_27), some (.int xi)] (hs_64, kc, ks) []
            refine g_loadA act (gx gp_254 (w := 0x5a03) rfl (by decide) rfl) (a := 0) (n := 90) rfl rfl rfl ?_
            refine r_getf act (gx gp_254 (w := 0x3000849005d04) rfl (by decide) rfl) (n := 93) (ci := 9) (j := 33) (N := 39) rfl rfl rfl rw_71.1 (by decide) (rw_71.2 (33, 144, 33, 4) (by decide)).1 ?_
            refine g_loadI act (gx gp_254 (w := 0x7005f02) rfl (by decide) rfl) (a := 7) (n := 95) rfl rfl rfl ?_
            refine g_loadA act (gx gp_254 (w := 0x6003) rfl (by decide) rfl) (a := 0) (n := 96) rfl rfl rfl ?_
            refine r_getf act (gx gp_254 (w := 0x20001c9006304) rfl (by decide) rfl) (n := 99) (ci := 9) (j := 7) (N := 39) rfl rfl rfl rw_71.1 (by decide) (v := .long t_65) e_67 ?_
            refine r_last act (gx gp_254 (w := 0x6405) rfl (by decide) rfl) (n := 100) (j := j9) rfl (rw_71.2 (33, 144, 33, 4) (by decide)).2 hxi (show j9 < 4 by omega) ?_
            have hPR_87 := PRall.wj (c := 144) (v := .long t_65) f_79
            have r_88 := rd_same (j := j9) (v := .long t_65) (rw_71.2 (33, 144, 33, 4) (by decide)).2
            have rw_89 := RW.wr (k := 144) (j := j9) (v := .long t_65) rw_71 (Or.inl (by decide))
            have f_90 := f_72.ne (k := 144) (j := j9) (v := .long t_65) (by decide)
            have f_91 := f_73.ne (k := 144) (j := j9) (v := .long t_65) (by decide)
            have f_92 := f_74.ne (k := 144) (j := j9) (v := .long t_65) (by decide)
            have f_93 := f_75.ne (k := 144) (j := j9) (v := .long t_65) (by decide)
            have f_94 := f_76.ne (k := 144) (j := j9) (v := .long t_65) (by decide)
            have f_95 := f_77.ne (k := 144) (j := j9) (v := .long t_65) (by decide)
            have f_96 := (rd_ne hs_64 (k := 144) (j := j9) (.long t_65) (Or.inl (by decide))).trans f_78
            have f_97 := (rd_ne hs_64 (k := 144) (j := j9) (.long t_65) (Or.inl (by decide))).trans f_81
            have f_98 := (rd_ne hs_64 (k := 144) (j := j9) (.long t_65) (Or.inl (by decide))).trans f_82
            have f_99 := f_83.ne (k := 144) (j := j9) (v := .long t_65) (by decide) (by decide)
            have f_100 := f_84.ne (k := 144) (j := j9) (v := .long t_65) (by decide) (by decide)
            have f_101 := fun q9 => (f_85 q9).ne (k := 144) (j := j9) (v := .long t_65) (by decide) (by decide)
            have f_102 := hM_70.ne (k := 144) (j := j9) (v := .long t_65) (by decide)
            have f_103 := (rd_ne hs_64 (k := 144) (j := j9) (.long t_65) (Or.inl (by decide))).trans e_67
            have f_104 := (rd_ne hs_64 (k := 144) (j := j9) (.long t_65) (Or.inl (by decide))).trans e_68
            have fr_105 := fr_86.wr (k := 144) (j := j9) (.long t_65) (by unfold WM; omega)
            clear rw_71 fr_86 f_72 f_73 f_74 f_75 f_76 f_77 f_78 f_81 f_82 f_83 f_84 f_85 hM_70 e_67 e_68
            generalize (wr hs_64 144 j9 (.long t_65)) = hs_106 at *
            refine g_loadA act (gx gp_254 (w := 0x6503) rfl (by decide) rfl) (a := 0) (n := 101) rfl rfl rfl ?_
            refine r_getf act (gx gp_254 (w := 0x3000889006804) rfl (by decide) rfl) (n := 104) (ci := 9) (j := 34) (N := 39) rfl rfl rfl rw_89.1 (by decide) (rw_89.2 (34, 145, 33, 4) (by decide)).1 ?_
            refine g_loadI act (gx gp_254 (w := 0x7006a02) rfl (by decide) rfl) (a := 7) (n := 106) rfl rfl rfl ?_
            refine g_loadA act (gx gp_254 (w := 0x6b03) rfl (by decide) rfl) (a := 0) (n := 107) rfl rfl rfl ?_
            refine r_getf act (gx gp_254 (w := 0x2000209006e04) rfl (by decide) rfl) (n := 110) (ci := 9) (j := 8) (N := 39) rfl rfl rfl rw_89.1 (by decide) (v := .long w_66) f_104 ?_
            refine r_last act (gx gp_254 (w := 0x6f05) rfl (by decide) rfl) (n := 111) (j := j9) rfl (rw_89.2 (34, 145, 33, 4) (by decide)).2 hxi (show j9 < 4 by omega) ?_
            have hPR_107 := PRall.wj (c := 145) (v := .long w_66) hPR_87
            have r_108 := rd_same (j := j9) (v := .long w_66) (rw_89.2 (34, 145, 33, 4) (by decide)).2
            have rw_109 := RW.wr (k := 145) (j := j9) (v := .long w_66) rw_89 (Or.inl (by decide))
            have f_110 := f_90.ne (k := 145) (j := j9) (v := .long w_66) (by decide)
            have f_111 := f_91.ne (k := 145) (j := j9) (v := .long w_66) (by decide)
            have f_112 := f_92.ne (k := 145) (j := j9) (v := .long w_66) (by decide)
            have f_113 := f_93.ne (k := 145) (j := j9) (v := .long w_66) (by decide)
            have f_114 := f_94.ne (k := 145) (j := j9) (v := .long w_66) (by decide)
            have f_115 := f_95.ne (k := 145) (j := j9) (v := .long w_66) (by decide)
            have f_116 := (rd_ne hs_106 (k := 145) (j := j9) (.long w_66) (Or.inl (by decide))).trans f_96
            have f_117 := (rd_ne hs_106 (k := 145) (j := j9) (.long w_66) (Or.inl (by decide))).trans f_97
            have f_118 := (rd_ne hs_106 (k := 145) (j := j9) (.long w_66) (Or.inl (by decide))).trans f_98
            have f_119 := f_99.ne (k := 145) (j := j9) (v := .long w_66) (by decide) (by decide)
            have f_120 := f_100.ne (k := 145) (j := j9) (v := .long w_66) (by decide) (by decide)
            have f_121 := fun q9 => (f_101 q9).ne (k := 145) (j := j9) (v := .long w_66) (by decide) (by decide)
            have f_122 := f_102.ne (k := 145) (j := j9) (v := .long w_66) (by decide)
            have f_123 := (rd_ne hs_106 (k := 145) (j := j9) (.long w_66) (Or.inl (by decide))).trans f_103
            have f_124 := (rd_ne hs_106 (k := 145) (j := j9) (.long w_66) (Or.inl (by decide))).trans f_104
            have f_125 := (rd_ne hs_106 (k := 145) (j := j9) (.long w_66) (Or.inl (by decide))).trans r_88
            have fr_126 := fr_105.wr (k := 145) (j := j9) (.long w_66) (by unfold WM; omega)
            clear rw_89 fr_105 f_90 f_91 f_92 f_93 f_94 f_95 f_96 f_97 f_98 f_99 f_100 f_101 f_102 f_103 f_104 r_88
            generalize (wr hs_106 145 j9 (.long w_66)) = hs_127 at *
            refine g_iinc act (gx gp_254 (w := 0x80000001000007007209) rfl (by decide) rfl) (a := 7) (i := (1 : Int32)) (n := 114) rfl (by decide) rfl rfl (L2 := [some (.ref 124), some (.int ni), some (.long a), none, some (.long b), none, some (.int rf_27), some (.int (xi + (1 : Int32)))]) rfl ?_
            have v_128 := iv_addN hxi (show (1 : Int32).toInt = ((1 : Nat) : Int) from by decide) (show (j9 + 1) < 2147483648 by omega)
            refine g_goto act (gx gp_254 (w := 0x1107) rfl (by decide) rfl) (n := 17) rfl ?_
            have hDD : IArr hs_127 135 4 dm := f_112.cong (fun j _ => up_back dm j9 j)
            rcases hr_25o with hr0 | hr1
            · exact pr_o hNW hoi hdm hlm hem hcp v_128 hr0 hf hl hc hsl act hEnd hk1 hk2 _ rw_109 f_110 f_111 hDD f_113 f_114 f_115 f_116 f_122 fr_126
            · exact ih (j9 + 1) (by omega) (by omega) _ _ _ v_128 hr1 rw_109 f_110 f_111 hDD f_113 f_114 f_115 f_116 f_122 (hPR_107.next (fun _ => ⟨C9, D9, _, _, hPD9, hIC, hC0, hC99, f_125, r_108, hFP⟩)) fr_126
          · exact absurd hpo.1 (by omega)
        · exact absurd hpo.1 (by omega)
      · simp only [i_eq, show (1 : Int32).toInt = 1 from by decide, i0] at h11
        refine g_goto act (gx gp_254 (w := 0x6f07) rfl (by decide) rfl) (n := 111) rfl ?_
        refine g_iinc act (gx gp_254 (w := 0x80000001000007007209) rfl (by decide) rfl) (a := 7) (i := (1 : Int32)) (n := 114) rfl (by decide) rfl rfl (L2 := [some (.ref 124), some (.int ni), some (.long a), none, some (.long b), none, some (.int ii), some (.int (xi + (1 : Int32)))]) rfl ?_
        have v_129 := iv_addN hxi (show (1 : Int32).toInt = ((1 : Nat) : Int) from by decide) (show (j9 + 1) < 2147483648 by omega)
        refine g_goto act (gx gp_254 (w := 0x1107) rfl (by decide) rfl) (n := 17) rfl ?_
        exact ih (j9 + 1) (by omega) (by omega) _ _ _ v_129 hii rwj fTo fW fD fL fE fC f24 hM (hPR.next (fun q9 => absurd (q9 xi hxi) (by omega))) hfr

theorem b_prices {g0 : GG} {bl : Nat} {xs : Nat → Int32} {l : Launch} {hs : List CE} {tl wl : Nat → Int} {nl n ng nr : Nat} (hNW : NW tl wl nl n ng nr) {ni : Int32} (hFD : FD9 hs tl wl nl n (wl 38) 200 400) (hM : ModF hs) : BodyN SSX TBL g0 CLS bl xs l D_254 8 207 0 0 [.ref 124, .int ni] hs (fun kd r h2 => kd = 0 ∧ ModF h2 ∧ FrS WM hs h2 ∧ ∃ rv : Int32, r = some (.int rv) ∧ (rv = 0 ∨ (rv = 1 ∧ PRI h2 tl nl n (wl 38) ni ∧ FD9 h2 tl wl nl n (wl 38) 200 400))) := by
  intro wp p e R s m args below meth c Q kc0 ks0 kc ks act hf hl hc hsl hEnd
  have hN9 := hNW
  obtain ⟨n0, n1, n2, n3, n4, n5, n6, n7, n8, hG0, nL, nC, nP, nD⟩ := hN9
  have hGn := hG0.1
  have hGn3 := hG0.2.1
  have hGl := hG0.2.2.1
  obtain ⟨⟨frw_1, fTo_1, fW_1⟩, ⟨hG_1, ⟨oi_1, f24_1, hoi_1⟩, ⟨dm_1, fD_1, hdm_1⟩, ⟨lm_1, fL_1, hlm_1⟩, ⟨em_1, fE_1, hem_1⟩, ⟨cp_1, fC_1, hcp_1⟩⟩, fFo_1, ⟨fK0_1, fK1_1⟩⟩ := hFD
  obtain ⟨⟨ct_1, cl_1, f29_1, f30_1, hck_1⟩, fKO_1⟩ := found_k hG_1 fFo_1
  obtain ⟨D9, C9, o9, t9, w9, hPD9, e29, e30, hFC, -, hIC, hC0, hC99, -⟩ := fFo_1
  have hF9 : FR ct_1 cl_1 C9 := by have q1 := f29_1.symm.trans e29; have q2 := f30_1.symm.trans e30; injection q1 with q1; injection q2 with q2; rw [q1, q2]; exact hFC
  show WpN (gp g0 wp) CLS p l e R s m args below meth c Q D_254.2.2.1 kc0 ks0 0 [some (.ref 124), some (.int ni), none, none, none, none, none, none] (hs, kc, ks) []
  refine g_loadA act (gx gp_254 (w := 0x103) rfl (by decide) rfl) (a := 0) (n := 1) rfl rfl rfl ?_
  refine r_getf act (gx gp_254 (w := 0x2000749000404) rfl (by decide) rfl) (n := 4) (ci := 9) (j := 29) (N := 39) rfl rfl rfl frw_1.1 (by decide) (v := .long ct_1) f29_1 ?_
  refine g_storeL act (gx gp_254 (w := 0x200050b) rfl (by decide) rfl) (a := 2) (n := 5) rfl rfl (L2 := [some (.ref 124), some (.int ni), some (.long ct_1), none, none, none, none, none]) rfl ?_
  refine g_loadA act (gx gp_254 (w := 0x603) rfl (by decide) rfl) (a := 0) (n := 6) rfl rfl rfl ?_
  refine r_getf act (gx gp_254 (w := 0x2000789000904) rfl (by decide) rfl) (n := 9) (ci := 9) (j := 30) (N := 39) rfl rfl rfl frw_1.1 (by decide) (v := .long cl_1) f30_1 ?_
  refine g_storeL act (gx gp_254 (w := 0x4000b0b) rfl (by decide) rfl) (a := 4) (n := 11) rfl rfl (L2 := [some (.ref 124), some (.int ni), some (.long ct_1), none, some (.long cl_1), none, none, none]) rfl ?_
  refine g_constI act (gx gp_254 (w := 0x40000000c00000009000000000c01) rfl (by decide) rfl) (n := 12) (x := (1 : Int32)) (by decide) rfl ?_
  refine g_storeI act (gx gp_254 (w := 0x6000e10) rfl (by decide) rfl) (a := 6) (n := 14) rfl rfl (L2 := [some (.ref 124), some (.int ni), some (.long ct_1), none, some (.long cl_1), none, some (.int (1 : Int32)), none]) rfl ?_
  refine g_constI act (gx gp_254 (w := 0x40000000400000001000000000f01) rfl (by decide) rfl) (n := 15) (x := (0 : Int32)) (by decide) rfl ?_
  refine g_storeI act (gx gp_254 (w := 0x7001110) rfl (by decide) rfl) (a := 7) (n := 17) rfl rfl (L2 := [some (.ref 124), some (.int ni), some (.long ct_1), none, some (.long cl_1), none, some (.int (1 : Int32)), some (.int (0 : Int32))]) rfl ?_
  exact pr_1 hNW hoi_1 hdm_1 hlm_1 hem_1 hcp_1 hF9 hPD9 hIC hC0 hC99 hf hl hc hsl act hEnd (by omega) (by omega) 0 (by omega) _ _ _ rfl rfl frw_1 fTo_1 fW_1 fD_1 fL_1 fE_1 fC_1 f24_1 hM (fun k q => absurd q (by omega)) (FrS.rf _ _)
