/-! The reference's append, exactly. -/
section RAPP
variable {g0 : GG} {bl : Nat} {xs : Nat → Int32} {l : Launch} {hs : List CE} {L : Nat}

theorem bx_four {tx : Nat → Int} {L9 vi : Int32} (rw0 : RW hs) (hT : IArr hs 130 700 tx) (e10 : rd hs 124 10 = .int L9) (hL : L9.toInt = (L : Int)) (hL4 : L + 4 ≤ 700) : BodyN SSX TBL g0 CLS bl xs l D_210 0 0 0 0 [.ref 124, .int vi] hs (fun kd r h2 => kd = 0 ∧ ∃ x : Int32, IArr h2 130 700 (wB tx L vi 4) ∧ rd h2 124 10 = .int x ∧ x.toInt = ((L + 4 : Nat) : Int) ∧ FrS WT4 hs h2) := by
  intro wp p e R s m args below meth c Q kc0 ks0 kc ks act hf hl hc hsl hEnd
  have hf : 0 ≤ R.frames := hf
  have hl : 0 ≤ R.locals := hl
  have hk1 : kc ≤ kc + 0 := by omega
  have hk2 : ks ≤ ks + 0 := by omega
  have hfr0 := FrS.rf WT4 hs
  have loop : ∀ (hj : List CE) (tj : Nat → Int) (Lj kj : Int32) (i9 : Nat), RW hj → IArr hj 130 700 tj → tj = wB tx L vi i9 → rd hj 124 10 = .int Lj → Lj.toInt = ((L + i9 : Nat) : Int) → kj.toInt = 24 - 8 * (i9 : Int) → i9 ≤ 4 → FrS WT4 hs hj → WpN (gp g0 wp) CLS p l e R s m args below meth c Q D_210.2.2.1 kc0 ks0 3 [some (.ref 124), some (.int vi), some (.int kj)] (hj, kc, ks) [] := by
    intro hj tj Lj kj i9 rwj hTj htj e10j hLj hKj hi4 hfr
    generalize hm : 4 - i9 = m9
    induction m9 using Nat.strongRecOn generalizing hj tj Lj kj i9 with
    | _ m9 ih =>
    subst hm
    refine g_loadI act (gx gp_210 (w := 0x2000402) rfl (by decide) rfl) (a := 2) (n := 4) rfl rfl rfl ?_
    refine g_ifLt act (gx gp_210 (w := 0x2700072a) rfl (by decide) rfl) (tgt := 39) (n := 7) rfl rfl (fun h2 => ?_) (fun h2 => ?_)
    · simp only [i_lt, i0] at h2
      exact g_retV hEnd (gx gp_210 (w := 0x18) rfl (by decide) rfl) ⟨rfl, _, by rw [← (show i9 = 4 by omega), ← htj]; exact hTj, e10j, (hLj).trans (by omega), hfr⟩ hk1 hk2
    · simp only [i_lt, i0] at h2
      refine g_loadA act (gx gp_210 (w := 0x803) rfl (by decide) rfl) (a := 0) (n := 8) rfl rfl rfl ?_
      refine r_getf act (gx gp_210 (w := 0x3000249000b04) rfl (by decide) rfl) (n := 11) (ci := 9) (j := 9) (N := 39) rfl rfl rfl rwj.1 (by decide) (rwj.2 (9, 130, 32, 700) (by decide)).1 ?_
      refine g_loadA act (gx gp_210 (w := 0xc03) rfl (by decide) rfl) (a := 0) (n := 12) rfl rfl rfl ?_
      refine r_getf act (gx gp_210 (w := 0x289000f04) rfl (by decide) rfl) (n := 15) (ci := 9) (j := 10) (N := 39) rfl rfl rfl rwj.1 (by decide) (v := .int Lj) e10j ?_
      refine g_loadI act (gx gp_210 (w := 0x1001002) rfl (by decide) rfl) (a := 1) (n := 16) rfl rfl rfl ?_
      refine g_loadI act (gx gp_210 (w := 0x2001102) rfl (by decide) rfl) (a := 2) (n := 17) rfl rfl rfl ?_
      refine g_ishr act (gx gp_210 (w := 0x1234) rfl (by decide) rfl) (n := 18) rfl ?_
      refine g_constI act (gx gp_210 (w := 0x4000007fc000007f9000000001501) rfl (by decide) rfl) (n := 21) (x := (255 : Int32)) (by decide) rfl ?_
      refine g_iand act (gx gp_210 (w := 0x1633) rfl (by decide) rfl) (n := 22) rfl ?_
      refine r_iast act (gx gp_210 (w := 0x1724) rfl (by decide) rfl) (n := 23) (j := (L + i9)) rfl (rwj.2 (9, 130, 32, 700) (by decide)).2 hLj (show (L + i9) < 700 by omega) ?_
      have rw_1 := RW.wr (k := 130) (j := (L + i9)) (v := .int ((vi >>> (kj &&& 31)) &&& (255 : Int32))) rwj (Or.inl (by decide))
      have f_2 := hTj.put (j := (L + i9)) (rwj.2 (9, 130, 32, 700) (by decide)).2 (rfl : Int32.toInt ((vi >>> (kj &&& 31)) &&& (255 : Int32)) = _)
      have f_3 := (rd_ne hj (k := 130) (j := (L + i9)) (.int ((vi >>> (kj &&& 31)) &&& (255 : Int32))) (Or.inl (by decide))).trans e10j
      have fr_4 := hfr.wr (k := 130) (j := (L + i9)) (.int ((vi >>> (kj &&& 31)) &&& (255 : Int32))) (by unfold WT4; omega)
      clear rwj hfr hTj e10j
      generalize (wr hj 130 (L + i9) (.int ((vi >>> (kj &&& 31)) &&& (255 : Int32)))) = hs_5 at *
      refine g_loadA act (gx gp_210 (w := 0x1803) rfl (by decide) rfl) (a := 0) (n := 24) rfl rfl rfl ?_
      refine g_dup act (gx gp_210 (w := 0x1922) rfl (by decide) rfl) (n := 25) rfl rfl ?_
      refine r_getf act (gx gp_210 (w := 0x289001c04) rfl (by decide) rfl) (n := 28) (ci := 9) (j := 10) (N := 39) rfl rfl rfl rw_1.1 (by decide) (v := .int Lj) f_3 ?_
      refine g_constI act (gx gp_210 (w := 0x40000000c00000009000000001d01) rfl (by decide) rfl) (n := 29) (x := (1 : Int32)) (by decide) rfl ?_
      refine g_iadd act (gx gp_210 (w := 0x1e0a) rfl (by decide) rfl) (n := 30) rfl ?_
      have v_6 := iv_addN hLj (show (1 : Int32).toInt = ((1 : Nat) : Int) from by decide) (show ((L + i9) + 1) < 2147483648 by omega)
      refine r_putf act (gx gp_210 (w := 0x289002113) rfl (by decide) rfl) (n := 33) (ci := 9) (j := 10) (N := 39) rfl rfl rfl rw_1.1 (by decide) (Or.inl ⟨rfl, _, rfl⟩) ?_
      have rw_7 := RW.wr (k := 124) (j := 10) (v := .int (Lj + (1 : Int32))) rw_1 (Or.inr (by decide))
      have f_8 := f_2.ne (k := 124) (j := 10) (v := .int (Lj + (1 : Int32))) (by decide)
      have f_10 := rd_same (j := 10) (v := .int (Lj + (1 : Int32))) rw_1.1
      have fr_11 := fr_4.wr (k := 124) (j := 10) (.int (Lj + (1 : Int32))) (by unfold WT4; omega)
      clear rw_1 fr_4 f_2 f_3
      generalize (wr hs_5 124 10 (.int (Lj + (1 : Int32)))) = hs_12 at *
      refine g_iinc act (gx gp_210 (w := 0x7ffffff8000002002409) rfl (by decide) rfl) (a := 2) (i := (-8 : Int32)) (n := 36) rfl (by decide) rfl rfl (L2 := [some (.ref 124), some (.int vi), some (.int (kj + (-8 : Int32)))]) rfl ?_
      have v_13 := iv_add hKj (show (-8 : Int32).toInt = (-8 : Int) from by decide) (show -2147483648 ≤ ((24 - 8 * (i9 : Int)) + (-8)) by omega) (show ((24 - 8 * (i9 : Int)) + (-8)) < 2147483648 by omega)
      refine g_goto act (gx gp_210 (w := 0x307) rfl (by decide) rfl) (n := 3) rfl ?_
      have hkj := kj_eq i9 (by omega) kj hKj
      exact ih _ (by omega) _ _ _ _ (i9 + 1) rw_7 f_8 (by rw [htj]; show upI _ (L + i9) _ = upI _ (L + i9) _; unfold byt; rw [← hkj]) f_10 ((v_6).trans (by omega)) ((v_13).trans (by omega)) (by omega) fr_11 rfl
  show WpN (gp g0 wp) CLS p l e R s m args below meth c Q D_210.2.2.1 kc0 ks0 0 [some (.ref 124), some (.int vi), none] (hs, kc, ks) []
  refine g_constI act (gx gp_210 (w := 0x4000000c4000000c1000000000201) rfl (by decide) rfl) (n := 2) (x := (24 : Int32)) (by decide) rfl ?_
  refine g_storeI act (gx gp_210 (w := 0x2000310) rfl (by decide) rfl) (a := 2) (n := 3) rfl rfl (L2 := [some (.ref 124), some (.int vi), some (.int (24 : Int32))]) rfl ?_
  exact loop hs tx L9 _ 0 rw0 hT rfl e10 (by omega) (by decide) (by decide) hfr0

end RAPP
