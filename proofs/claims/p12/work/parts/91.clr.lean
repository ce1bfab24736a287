/-! A row of equations is cleared. -/
theorem W0_mW : ∀ k j, W0 k j → WQ k j := fun k j h => by unfold W0 at h; unfold WQ; omega
theorem FR.ngS {t w : Int64} {q : Rat} (h : FR t w q) (hs : Sml q) : FR (-t) w (-q) := h.ng (by have := h.sm hs; omega)
def scl (f : Nat → Rat) (row k : Nat) : Nat → Rat := fun j => if 4 * row ≤ j ∧ j < 4 * row + k then f j * (f (4 * row + row))⁻¹ else f j
/-- rows below m (and k places of row m) have taken away what they have of a row -/
def cl2 (f : Nat → Rat) (row m k : Nat) : Nat → Rat := fun j => if (j / 4 < m ∨ (j / 4 = m ∧ j % 4 < k)) ∧ j / 4 ≠ row then f j + f (4 * row + j % 4) * -f (4 * (j / 4) + row) else f j
def clrQ (f : Nat → Rat) (row n : Nat) : Nat → Rat := cl2 (scl f row 4) row n 0
theorem cl2_full (f : Nat → Rat) (row m : Nat) : cl2 f row m 4 = cl2 f row (m + 1) 0 := by
  funext j
  unfold cl2
  have : (j / 4 < m ∨ (j / 4 = m ∧ j % 4 < 4)) ↔ (j / 4 < m + 1 ∨ (j / 4 = m + 1 ∧ j % 4 < 0)) := by omega
  simp only [this]
theorem cl2_row (f : Nat → Rat) (row k : Nat) : cl2 f row row k = cl2 f row (row + 1) 0 := by
  funext j
  unfold cl2
  by_cases h : j / 4 = row
  · rw [if_neg (fun z => z.2 h), if_neg (fun z => z.2 h)]
  · have : ((j / 4 < row ∨ (j / 4 = row ∧ j % 4 < k)) ∧ j / 4 ≠ row) ↔ ((j / 4 < row + 1 ∨ (j / 4 = row + 1 ∧ j % 4 < 0)) ∧ j / 4 ≠ row) := by omega
    simp only [this]
theorem cl2_zero (f : Nat → Rat) (row m : Nat) (hz : f (4 * m + row) = 0) (k : Nat) (hk : k ≤ 4) : cl2 f row m k = cl2 f row (m + 1) 0 := by
  funext j
  unfold cl2
  by_cases h : j / 4 = m
  · by_cases h2 : j / 4 = row
    · rw [if_neg (fun z => z.2 h2), if_neg (fun z => z.2 h2)]
    · rw [if_pos (c := (j / 4 < m + 1 ∨ (j / 4 = m + 1 ∧ j % 4 < 0)) ∧ j / 4 ≠ row) (by omega), h, hz]
      split <;> grind
  · have : ((j / 4 < m ∨ (j / 4 = m ∧ j % 4 < k)) ∧ j / 4 ≠ row) ↔ ((j / 4 < m + 1 ∨ (j / 4 = m + 1 ∧ j % 4 < 0)) ∧ j / 4 ≠ row) := by omega
    simp only [this]
theorem cl2_at {f : Nat → Rat} {row m k : Nat} (h : k < 4) (hm : m ≠ row) : cl2 f row m k (4 * m + k) = f (4 * m + k) ∧ cl2 f row m k (4 * row + k) = f (4 * row + k) := by
  have e1 : (4 * m + k) / 4 = m := by omega
  have e2 : (4 * m + k) % 4 = k := by omega
  have e3 : (4 * row + k) / 4 = row := by omega
  constructor
  · unfold cl2; rw [e1, e2, if_neg (by omega)]
  · unfold cl2; rw [e3, if_neg (fun z => z.2 rfl)]
theorem cl2_step {f : Nat → Rat} {row m k : Nat} (h : k < 4) (hm : m ≠ row) : ∀ j, upQ (cl2 f row m k) (4 * m + k) (f (4 * m + k) + f (4 * row + k) * -f (4 * m + row)) j = cl2 f row m (k + 1) j := by
  intro j
  unfold upQ
  by_cases z : j = 4 * m + k
  · have e1 : (4 * m + k) / 4 = m := by omega
    have e2 : (4 * m + k) % 4 = k := by omega
    rw [if_pos z, z]
    unfold cl2
    rw [e1, e2, if_pos (by omega)]
  · rw [if_neg z]
    unfold cl2
    have : ((j / 4 < m ∨ (j / 4 = m ∧ j % 4 < k)) ∧ j / 4 ≠ row) ↔ ((j / 4 < m ∨ (j / 4 = m ∧ j % 4 < k + 1)) ∧ j / 4 ≠ row) := by omega
    simp only [this]
theorem scl_step {f : Nat → Rat} {row k : Nat} (h : k < 4) : ∀ j, upQ (scl f row k) (4 * row + k) (f (4 * row + k) * (f (4 * row + row))⁻¹) j = scl f row (k + 1) j := by
  intro j
  unfold upQ scl
  by_cases z : j = 4 * row + k
  · rw [if_pos z, if_pos (by omega), z]
  · rw [if_neg z]
    have : (4 * row ≤ j ∧ j < 4 * row + k) ↔ (4 * row ≤ j ∧ j < 4 * row + (k + 1)) := by omega
    simp only [this]

theorem clr_in {g0 : GG} {bl : Nat} {xs : Nat → Int32} {l : Launch} {wp : va_W} {p : Program} {e : Env} {R : Room} {s : State} {m : MethodId} {args : Array Value} {below : List Frame} {meth : Method} {c : Code} {Q : State → Prop} {kc0 ks0 kc ks f lam KC KS : Nat} {hs : List CE} {f9 : Nat → Rat} {ri ni : Int32} {row n9 : Nat} {a b : Int64} (hri : ri.toInt = (row : Int)) (hni : ni.toInt = (n9 : Int)) (hrn : row < n9) (hn3 : n9 ≤ 3) (hS1 : ∀ j, j < 12 → Sm4 (f9 j)) (hS2 : ∀ j, j < 12 → Sm4 (scl f9 row 4 j)) (hpz : f9 (4 * row + row) ≠ 0) (hf : 3 ≤ R.frames) (hl : 87 ≤ R.locals) (hc : kc ≤ R.cells + kc0) (hsl : ks ≤ R.slots + ks0) {mi : Int32} {m9 : Nat} {cv dv : Int64} (hmi : mi.toInt = (m9 : Int)) (hm9 : m9 < n9) (hcd : FR cv dv ((scl f9 row 4) (4 * m9 + row))) (act : Act SSX TBL (gp g0 wp) CLS bl xs D_188 p l s m args meth c) (hEnd : EndN SSX TBL (gp g0 wp) CLS D_188 p l e R s m args below meth c Q kc0 ks0 f lam KC KS (fun kd r h2 => kd = 0 ∧ QArr h2 133 134 12 (clrQ f9 row n9) ∧ FrS WQ hs h2)) (hk1 : kc ≤ KC) (hk2 : ks ≤ KS) (KO : ∀ hj : List CE, RW hj → QArr hj 133 134 12 (cl2 (scl f9 row 4) row (m9 + 1) 0) → FrS WQ hs hj → WpN (gp g0 wp) CLS p l e R s m args below meth c Q D_188.2.2.1 kc0 ks0 259 [some (.ref 124), some (.int ri), some (.int ni), some (.long a), none, some (.long b), none, some (.int mi), none, none, none, none, none] (hj, kc, ks) []) : ∀ k : Nat, k ≤ 4 → ∀ (ki : Int32) (hj : List CE), ki.toInt = (k : Int) → RW hj → QArr hj 133 134 12 (cl2 (scl f9 row 4) row m9 k) → FrS WQ hs hj → WpN (gp g0 wp) CLS p l e R s m args below meth c Q D_188.2.2.1 kc0 ks0 135 [some (.ref 124), some (.int ri), some (.int ni), some (.long a), none, some (.long b), none, some (.int mi), some (.long cv), none, some (.long dv), none, some (.int ki)] (hj, kc, ks) [] := by
  refine dn (fun k hk ih => ?_)
  intro ki hj hki rwj hQ hfr
  refine g_loadI act (gx gp_188 (w := 0xc008902) rfl (by decide) rfl) (a := 12) (n := 137) rfl rfl rfl ?_
  refine g_constI act (gx gp_188 (w := 0x40000002400000021000000008a01) rfl (by decide) rfl) (n := 138) (x := (4 : Int32)) (by decide) rfl ?_
  refine g_icmpGe act (gx gp_188 (w := 0x103008d08) rfl (by decide) rfl) (tgt := 259) (n := 141) rfl rfl (fun h3 => ?_) (fun h3 => ?_)
  · simp only [i_le, show (4 : Int32).toInt = 4 from by decide] at h3
    have hdone : cl2 (scl f9 row 4) row m9 k = cl2 (scl f9 row 4) row (m9 + 1) 0 := by
      rw [show k = 4 by omega]; exact cl2_full _ _ _
    rw [hdone] at hQ
    exact n_forget (d := D_188) (L2 := [some (.ref 124), some (.int ri), some (.int ni), some (.long a), none, some (.long b), none, some (.int mi), none, none, none, none, none]) (fun i v hi => by
      match i, hi with
      | 0, hi => exact hi
      | 1, hi => exact hi
      | 2, hi => exact hi
      | 3, hi => exact hi
      | 4, hi => cases hi
      | 5, hi => exact hi
      | 6, hi => cases hi
      | 7, hi => exact hi
      | 8, hi => cases hi
      | 9, hi => cases hi
      | 10, hi => cases hi
      | 11, hi => cases hi
      | 12, hi => cases hi
      | i + 13, hi => cases hi) (KO hj rwj hQ hfr)
  · simp only [i_le, show (4 : Int32).toInt = 4 from by decide] at h3
    refine g_loadI act (gx gp_188 (w := 0x7008f02) rfl (by decide) rfl) (a := 7) (n := 143) rfl rfl rfl ?_
    refine g_loadI act (gx gp_188 (w := 0x1009002) rfl (by decide) rfl) (a := 1) (n := 144) rfl rfl rfl ?_
    refine g_icmpEq act (gx gp_188 (w := 0x10300932e) rfl (by decide) rfl) (tgt := 259) (n := 147) rfl rfl (fun h6 => ?_) (fun h6 => ?_)
    · simp only [i_eq] at h6
      have hdone : cl2 (scl f9 row 4) row m9 k = cl2 (scl f9 row 4) row (m9 + 1) 0 := by
        rw [show m9 = row by omega]; exact cl2_row _ _ _
      rw [hdone] at hQ
      exact n_forget (d := D_188) (L2 := [some (.ref 124), some (.int ri), some (.int ni), some (.long a), none, some (.long b), none, some (.int mi), none, none, none, none, none]) (fun i v hi => by
        match i, hi with
        | 0, hi => exact hi
        | 1, hi => exact hi
        | 2, hi => exact hi
        | 3, hi => exact hi
        | 4, hi => cases hi
        | 5, hi => exact hi
        | 6, hi => cases hi
        | 7, hi => exact hi
        | 8, hi => cases hi
        | 9, hi => cases hi
        | 10, hi => cases hi
        | 11, hi => cases hi
        | 12, hi => cases hi
        | i + 13, hi => cases hi) (KO hj rwj hQ hfr)
    · simp only [i_eq] at h6
      refine g_loadL act (gx gp_188 (w := 0x8009506) rfl (by decide) rfl) (a := 8) (n := 149) rfl rfl rfl ?_
      refine g_constL act (gx gp_188 (w := 0x40000000000000002000000009601) rfl (by decide) rfl) (n := 150) (x := 0) (by decide) rfl ?_
      refine g_lcmp act (gx gp_188 (w := 0x970c) rfl (by decide) rfl) (n := 151) rfl ?_
      refine g_ifEq act (gx gp_188 (w := 0x103009a0e) rfl (by decide) rfl) (tgt := 259) (n := 154) rfl rfl (fun h10 => ?_) (fun h10 => ?_)
      · simp only [cmpEq, show (0 : Int64).toInt = 0 from by decide] at h10
        have hdone : cl2 (scl f9 row 4) row m9 k = cl2 (scl f9 row 4) row (m9 + 1) 0 := by
          exact cl2_zero _ _ _ (hcd.z.mp (by omega)) k (by omega)
        rw [hdone] at hQ
        exact n_forget (d := D_188) (L2 := [some (.ref 124), some (.int ri), some (.int ni), some (.long a), none, some (.long b), none, some (.int mi), none, none, none, none, none]) (fun i v hi => by
          match i, hi with
          | 0, hi => exact hi
          | 1, hi => exact hi
          | 2, hi => exact hi
          | 3, hi => exact hi
          | 4, hi => cases hi
          | 5, hi => exact hi
          | 6, hi => cases hi
          | 7, hi => exact hi
          | 8, hi => cases hi
          | 9, hi => cases hi
          | 10, hi => cases hi
          | 11, hi => cases hi
          | 12, hi => cases hi
          | i + 13, hi => cases hi) (KO hj rwj hQ hfr)
      · simp only [cmpEq, show (0 : Int64).toInt = 0 from by decide] at h10
        refine g_loadA act (gx gp_188 (w := 0x9b03) rfl (by decide) rfl) (a := 0) (n := 155) rfl rfl rfl ?_
        refine g_loadA act (gx gp_188 (w := 0x9c03) rfl (by decide) rfl) (a := 0) (n := 156) rfl rfl rfl ?_
        refine r_getf act (gx gp_188 (w := 0x3000489009f04) rfl (by decide) rfl) (n := 159) (ci := 9) (j := 18) (N := 39) rfl rfl rfl rwj.1 (by decide) (rwj.2 (18, 133, 33, 12) (by decide)).1 ?_
        refine g_constI act (gx gp_188 (w := 0x4000000240000002100000000a001) rfl (by decide) rfl) (n := 160) (x := (4 : Int32)) (by decide) rfl ?_
        refine g_loadI act (gx gp_188 (w := 0x100a102) rfl (by decide) rfl) (a := 1) (n := 161) rfl rfl rfl ?_
        refine g_imul act (gx gp_188 (w := 0xa211) rfl (by decide) rfl) (n := 162) rfl ?_
        have v_1 := iv_mulN (show (4 : Int32).toInt = ((4 : Nat) : Int) from by decide) hri (show (4 * row) < 2147483648 by omega)
        refine g_loadI act (gx gp_188 (w := 0xc00a402) rfl (by decide) rfl) (a := 12) (n := 164) rfl rfl rfl ?_
        refine g_iadd act (gx gp_188 (w := 0xa50a) rfl (by decide) rfl) (n := 165) rfl ?_
        have v_2 := iv_addN v_1 hki (show ((4 * row) + k) < 2147483648 by omega)
        obtain ⟨x_3, w_6, e_4, e_7, hx_5⟩ := hQ ((4 * row) + k) (by omega)
        rw [(cl2_at (f := (scl f9 row 4)) (row := row) (m := m9) (show k < 4 by omega) (by omega)).2] at hx_5
        refine r_lald act (gx gp_188 (w := 0xa60d) rfl (by decide) rfl) (n := 166) (j := ((4 * row) + k)) rfl (rwj.2 (18, 133, 33, 12) (by decide)).2 v_2 (show ((4 * row) + k) < 12 by omega) (v := .long x_3) e_4 ?_
        refine g_loadA act (gx gp_188 (w := 0xa703) rfl (by decide) rfl) (a := 0) (n := 167) rfl rfl rfl ?_
        refine r_getf act (gx gp_188 (w := 0x30004c900aa04) rfl (by decide) rfl) (n := 170) (ci := 9) (j := 19) (N := 39) rfl rfl rfl rwj.1 (by decide) (rwj.2 (19, 134, 33, 12) (by decide)).1 ?_
        refine g_constI act (gx gp_188 (w := 0x4000000240000002100000000ab01) rfl (by decide) rfl) (n := 171) (x := (4 : Int32)) (by decide) rfl ?_
        refine g_loadI act (gx gp_188 (w := 0x100ac02) rfl (by decide) rfl) (a := 1) (n := 172) rfl rfl rfl ?_
        refine g_imul act (gx gp_188 (w := 0xad11) rfl (by decide) rfl) (n := 173) rfl ?_
        have v_8 := iv_mulN (show (4 : Int32).toInt = ((4 : Nat) : Int) from by decide) hri (show (4 * row) < 2147483648 by omega)
        refine g_loadI act (gx gp_188 (w := 0xc00af02) rfl (by decide) rfl) (a := 12) (n := 175) rfl rfl rfl ?_
        refine g_iadd act (gx gp_188 (w := 0xb00a) rfl (by decide) rfl) (n := 176) rfl ?_
        have v_9 := iv_addN v_8 hki (show ((4 * row) + k) < 2147483648 by omega)
        refine r_lald act (gx gp_188 (w := 0xb10d) rfl (by decide) rfl) (n := 177) (j := ((4 * row) + k)) rfl (rwj.2 (19, 134, 33, 12) (by decide)).2 v_9 (show ((4 * row) + k) < 12 by omega) (v := .long w_6) e_7 ?_
        refine g_loadL act (gx gp_188 (w := 0x800b306) rfl (by decide) rfl) (a := 8) (n := 179) rfl rfl rfl ?_
        refine g_lneg act (gx gp_188 (w := 0xb425) rfl (by decide) rfl) (n := 180) rfl ?_
        refine g_loadL act (gx gp_188 (w := 0xa00b606) rfl (by decide) rfl) (a := 10) (n := 182) rfl rfl rfl ?_
        refine n_call tb_pres act hEnd (gx (P := G_call) gp_188 (w := 0xa0000000000008349500011a00b90f) rfl (by decide) rfl) (d' := D_282) rfl (as := [.ref 124, .long x_3, .long w_6, .long (-cv), .long dv]) (rest := []) (b_timesQ rwj hx_5 (FR.ngS hcd (hS2 _ (by omega)).sml) (hS2 _ (by omega)).sml (Sml.neg (hS2 _ (by omega)).sml)) (show (5 : Nat) = fb 0xa0000000000008349500011a00b90f % 16 by decide) (by show (9 : Nat) ≤ 13; decide) (fun _ => ⟨_, _, rfl, _, shp_at rwj.1, Or.inr (show fb 0xa0000000000008349500011a00b90f >>> 68 = 10 by decide)⟩) (by omega) (by show 8 + (13 + 11) + 55 ≤ R.locals; omega) (by show (0 : Nat) ≤ 8; decide) (by show kc + 0 ≤ _; omega) (by show ks + 0 ≤ _; omega) (fun r9 hs_15 hpo hr9 => ?_) (fun x9 hs9 hx9 hpo => ?_)
        · obtain rfl : r9 = none := hr9.elim (fun q => q.2) (fun q => absurd rfl q.1)
          obtain ⟨-, t_16, w_17, e_18, e_19, hF_20, fr_21⟩ := hpo
          have rw_22 := rwj.fr fr_21 W0_rw
          have f_23 := hQ.fr (fun j9 _ => ⟨fr_21.2.2 133 j9 (by unfold W0; omega), fr_21.2.2 134 j9 (by unfold W0; omega)⟩)
          have fr_24 := hfr.tr (fr_21.mono (fun k9 j9 h9 => by unfold W0 at h9; unfold WQ; omega))
          clear rwj hQ hfr
          show WpN (gp g0 wp) CLS p l e R s m args below meth c Q D_188.2.2.1 kc0 ks0 185 [some (.ref 124), some (.int ri), some (.int ni), some (.long a), none, some (.long b), none, some (.int mi), some (.long cv), none, some (.long dv), none, some (.int ki)] (hs_15, kc, ks) []
          refine g_loadA act (gx gp_188 (w := 0xba03) rfl (by decide) rfl) (a := 0) (n := 186) rfl rfl rfl ?_
          refine g_loadA act (gx gp_188 (w := 0xbb03) rfl (by decide) rfl) (a := 0) (n := 187) rfl rfl rfl ?_
          refine r_getf act (gx gp_188 (w := 0x300048900be04) rfl (by decide) rfl) (n := 190) (ci := 9) (j := 18) (N := 39) rfl rfl rfl rw_22.1 (by decide) (rw_22.2 (18, 133, 33, 12) (by decide)).1 ?_
          refine g_constI act (gx gp_188 (w := 0x4000000240000002100000000bf01) rfl (by decide) rfl) (n := 191) (x := (4 : Int32)) (by decide) rfl ?_
          refine g_loadI act (gx gp_188 (w := 0x700c102) rfl (by decide) rfl) (a := 7) (n := 193) rfl rfl rfl ?_
          refine g_imul act (gx gp_188 (w := 0xc211) rfl (by decide) rfl) (n := 194) rfl ?_
          have v_25 := iv_mulN (show (4 : Int32).toInt = ((4 : Nat) : Int) from by decide) hmi (show (4 * m9) < 2147483648 by omega)
          refine g_loadI act (gx gp_188 (w := 0xc00c402) rfl (by decide) rfl) (a := 12) (n := 196) rfl rfl rfl ?_
          refine g_iadd act (gx gp_188 (w := 0xc50a) rfl (by decide) rfl) (n := 197) rfl ?_
          have v_26 := iv_addN v_25 hki (show ((4 * m9) + k) < 2147483648 by omega)
          obtain ⟨x_27, w_30, e_28, e_31, hx_29⟩ := f_23 ((4 * m9) + k) (by omega)
          rw [(cl2_at (f := (scl f9 row 4)) (row := row) (m := m9) (show k < 4 by omega) (by omega)).1] at hx_29
          refine r_lald act (gx gp_188 (w := 0xc60d) rfl (by decide) rfl) (n := 198) (j := ((4 * m9) + k)) rfl (rw_22.2 (18, 133, 33, 12) (by decide)).2 v_26 (show ((4 * m9) + k) < 12 by omega) (v := .long x_27) e_28 ?_
          refine g_loadA act (gx gp_188 (w := 0xc703) rfl (by decide) rfl) (a := 0) (n := 199) rfl rfl rfl ?_
          refine r_getf act (gx gp_188 (w := 0x30004c900ca04) rfl (by decide) rfl) (n := 202) (ci := 9) (j := 19) (N := 39) rfl rfl rfl rw_22.1 (by decide) (rw_22.2 (19, 134, 33, 12) (by decide)).1 ?_
          refine g_constI act (gx gp_188 (w := 0x4000000240000002100000000cb01) rfl (by decide) rfl) (n := 203) (x := (4 : Int32)) (by decide) rfl ?_
          refine g_loadI act (gx gp_188 (w := 0x700cd02) rfl (by decide) rfl) (a := 7) (n := 205) rfl rfl rfl ?_
          refine g_imul act (gx gp_188 (w := 0xce11) rfl (by decide) rfl) (n := 206) rfl ?_
          have v_32 := iv_mulN (show (4 : Int32).toInt = ((4 : Nat) : Int) from by decide) hmi (show (4 * m9) < 2147483648 by omega)
          refine g_loadI act (gx gp_188 (w := 0xc00d002) rfl (by decide) rfl) (a := 12) (n := 208) rfl rfl rfl ?_
          refine g_iadd act (gx gp_188 (w := 0xd10a) rfl (by decide) rfl) (n := 209) rfl ?_
          have v_33 := iv_addN v_32 hki (show ((4 * m9) + k) < 2147483648 by omega)
          refine r_lald act (gx gp_188 (w := 0xd20d) rfl (by decide) rfl) (n := 210) (j := ((4 * m9) + k)) rfl (rw_22.2 (19, 134, 33, 12) (by decide)).2 v_33 (show ((4 * m9) + k) < 12 by omega) (v := .long w_30) e_31 ?_
          refine g_loadA act (gx gp_188 (w := 0xd303) rfl (by decide) rfl) (a := 0) (n := 211) rfl rfl rfl ?_
          refine r_getf act (gx gp_188 (w := 0x20001c900d604) rfl (by decide) rfl) (n := 214) (ci := 9) (j := 7) (N := 39) rfl rfl rfl rw_22.1 (by decide) (v := .long t_16) e_18 ?_
          refine g_loadA act (gx gp_188 (w := 0xd703) rfl (by decide) rfl) (a := 0) (n := 215) rfl rfl rfl ?_
          refine r_getf act (gx gp_188 (w := 0x200020900da04) rfl (by decide) rfl) (n := 218) (ci := 9) (j := 8) (N := 39) rfl rfl rfl rw_22.1 (by decide) (v := .long w_17) e_19 ?_
          refine n_call tb_pres act hEnd (gx (P := G_call) gp_188 (w := 0xa00000000000082c950000fc00dd0f) rfl (by decide) rfl) (d' := D_252) rfl (as := [.ref 124, .long x_27, .long w_30, .long t_16, .long w_17]) (rest := []) (b_plusQ rw_22 hx_29 hF_20 (hS2 _ (by omega)).sml (Sm4.mul (hS2 _ (by omega)) (hS2 _ (by omega)).neg)) (show (5 : Nat) = fb 0xa00000000000082c950000fc00dd0f % 16 by decide) (by show (9 : Nat) ≤ 11; decide) (fun _ => ⟨_, _, rfl, _, shp_at rw_22.1, Or.inr (show fb 0xa00000000000082c950000fc00dd0f >>> 68 = 10 by decide)⟩) (by omega) (by show 8 + (11 + 11) + 55 ≤ R.locals; omega) (by show (0 : Nat) ≤ 8; decide) (by show kc + 0 ≤ _; omega) (by show ks + 0 ≤ _; omega) (fun r9 hs_39 hpo hr9 => ?_) (fun x9 hs9 hx9 hpo => ?_)
          · obtain rfl : r9 = none := hr9.elim (fun q => q.2) (fun q => absurd rfl q.1)
            obtain ⟨-, t_40, w_41, e_42, e_43, hF_44, fr_45⟩ := hpo
            have rw_46 := rw_22.fr fr_45 W0_rw
            have f_47 := f_23.fr (fun j9 _ => ⟨fr_45.2.2 133 j9 (by unfold W0; omega), fr_45.2.2 134 j9 (by unfold W0; omega)⟩)
            have fr_48 := fr_24.tr (fr_45.mono (fun k9 j9 h9 => by unfold W0 at h9; unfold WQ; omega))
            clear rw_22 f_23 e_18 e_19 fr_24
            show WpN (gp g0 wp) CLS p l e R s m args below meth c Q D_188.2.2.1 kc0 ks0 221 [some (.ref 124), some (.int ri), some (.int ni), some (.long a), none, some (.long b), none, some (.int mi), some (.long cv), none, some (.long dv), none, some (.int ki)] (hs_39, kc, ks) []
            refine g_loadA act (gx gp_188 (w := 0xde03) rfl (by decide) rfl) (a := 0) (n := 222) rfl rfl rfl ?_
            refine r_getf act (gx gp_188 (w := 0x300048900e104) rfl (by decide) rfl) (n := 225) (ci := 9) (j := 18) (N := 39) rfl rfl rfl rw_46.1 (by decide) (rw_46.2 (18, 133, 33, 12) (by decide)).1 ?_
            refine g_constI act (gx gp_188 (w := 0x4000000240000002100000000e201) rfl (by decide) rfl) (n := 226) (x := (4 : Int32)) (by decide) rfl ?_
            refine g_loadI act (gx gp_188 (w := 0x700e402) rfl (by decide) rfl) (a := 7) (n := 228) rfl rfl rfl ?_
            refine g_imul act (gx gp_188 (w := 0xe511) rfl (by decide) rfl) (n := 229) rfl ?_
            have v_49 := iv_mulN (show (4 : Int32).toInt = ((4 : Nat) : Int) from by decide) hmi (show (4 * m9) < 2147483648 by omega)
            refine g_loadI act (gx gp_188 (w := 0xc00e702) rfl (by decide) rfl) (a := 12) (n := 231) rfl rfl rfl ?_
            refine g_iadd act (gx gp_188 (w := 0xe80a) rfl (by decide) rfl) (n := 232) rfl ?_
            have v_50 := iv_addN v_49 hki (show ((4 * m9) + k) < 2147483648 by omega)
            refine g_loadA act (gx gp_188 (w := 0xe903) rfl (by decide) rfl) (a := 0) (n := 233) rfl rfl rfl ?_
            refine r_getf act (gx gp_188 (w := 0x20001c900ec04) rfl (by decide) rfl) (n := 236) (ci := 9) (j := 7) (N := 39) rfl rfl rfl rw_46.1 (by decide) (v := .long t_40) e_42 ?_
            refine r_last act (gx gp_188 (w := 0xed05) rfl (by decide) rfl) (n := 237) (j := ((4 * m9) + k)) rfl (rw_46.2 (18, 133, 33, 12) (by decide)).2 v_50 (show ((4 * m9) + k) < 12 by omega) ?_
            have rw_51 := RW.wr (k := 133) (j := ((4 * m9) + k)) (v := .long t_40) rw_46 (Or.inl (by decide))
            have f_52 := (rd_ne hs_39 (k := 133) (j := ((4 * m9) + k)) (.long t_40) (Or.inl (by decide))).trans e_42
            have f_53 := (rd_ne hs_39 (k := 133) (j := ((4 * m9) + k)) (.long t_40) (Or.inl (by decide))).trans e_43
            have fr_54 := fr_48.wr (k := 133) (j := ((4 * m9) + k)) (.long t_40) (by unfold WQ; omega)
            refine g_loadA act (gx gp_188 (w := 0xee03) rfl (by decide) rfl) (a := 0) (n := 238) rfl rfl rfl ?_
            refine r_getf act (gx gp_188 (w := 0x30004c900f104) rfl (by decide) rfl) (n := 241) (ci := 9) (j := 19) (N := 39) rfl rfl rfl rw_51.1 (by decide) (rw_51.2 (19, 134, 33, 12) (by decide)).1 ?_
            refine g_constI act (gx gp_188 (w := 0x4000000240000002100000000f201) rfl (by decide) rfl) (n := 242) (x := (4 : Int32)) (by decide) rfl ?_
            refine g_loadI act (gx gp_188 (w := 0x700f402) rfl (by decide) rfl) (a := 7) (n := 244) rfl rfl rfl ?_
            refine g_imul act (gx gp_188 (w := 0xf511) rfl (by decide) rfl) (n := 245) rfl ?_
            have v_55 := iv_mulN (show (4 : Int32).toInt = ((4 : Nat) : Int) from by decide) hmi (show (4 * m9) < 2147483648 by omega)
            refine g_loadI act (gx gp_188 (w := 0xc00f702) rfl (by decide) rfl) (a := 12) (n := 247) rfl rfl rfl ?_
            refine g_iadd act (gx gp_188 (w := 0xf80a) rfl (by decide) rfl) (n := 248) rfl ?_
            have v_56 := iv_addN v_55 hki (show ((4 * m9) + k) < 2147483648 by omega)
            refine g_loadA act (gx gp_188 (w := 0xf903) rfl (by decide) rfl) (a := 0) (n := 249) rfl rfl rfl ?_
            refine r_getf act (gx gp_188 (w := 0x200020900fc04) rfl (by decide) rfl) (n := 252) (ci := 9) (j := 8) (N := 39) rfl rfl rfl rw_51.1 (by decide) (v := .long w_41) f_53 ?_
            refine r_last act (gx gp_188 (w := 0xfd05) rfl (by decide) rfl) (n := 253) (j := ((4 * m9) + k)) rfl (rw_51.2 (19, 134, 33, 12) (by decide)).2 v_56 (show ((4 * m9) + k) < 12 by omega) ?_
            have rw_57 := RW.wr (k := 134) (j := ((4 * m9) + k)) (v := .long w_41) rw_51 (Or.inl (by decide))
            have f_58 := (rd_ne (wr hs_39 133 ((4 * m9) + k) (.long t_40)) (k := 134) (j := ((4 * m9) + k)) (.long w_41) (Or.inl (by decide))).trans f_52
            have f_59 := (rd_ne (wr hs_39 133 ((4 * m9) + k) (.long t_40)) (k := 134) (j := ((4 * m9) + k)) (.long w_41) (Or.inl (by decide))).trans f_53
            have f_60 := f_47.put (j := ((4 * m9) + k)) (Y := (((scl f9 row 4) ((4 * m9) + k)) + (((scl f9 row 4) ((4 * row) + k)) * (-((scl f9 row 4) (4 * m9 + row)))))) (rw_46.2 (18, 133, 33, 12) (by decide)).2 (rw_46.2 (19, 134, 33, 12) (by decide)).2 (by decide) hF_44
            have fr_61 := fr_54.wr (k := 134) (j := ((4 * m9) + k)) (.long w_41) (by unfold WQ; omega)
            clear rw_51 fr_54 f_52 f_53 fr_48 e_42 e_43
            generalize (wr (wr hs_39 133 ((4 * m9) + k) (.long t_40)) 134 ((4 * m9) + k) (.long w_41)) = hs_62 at *
            refine g_iinc act (gx gp_188 (w := 0x8000000100000c010009) rfl (by decide) rfl) (a := 12) (i := (1 : Int32)) (n := 256) rfl (by decide) rfl rfl (L2 := [some (.ref 124), some (.int ri), some (.int ni), some (.long a), none, some (.long b), none, some (.int mi), some (.long cv), none, some (.long dv), none, some (.int (ki + (1 : Int32)))]) rfl ?_
            have v_63 := iv_addN hki (show (1 : Int32).toInt = ((1 : Nat) : Int) from by decide) (show (k + 1) < 2147483648 by omega)
            refine g_goto act (gx gp_188 (w := 0x8707) rfl (by decide) rfl) (n := 135) rfl ?_
            exact ih (k + 1) (by omega) (by omega) _ _ v_63 rw_57 (f_60.cong (fun j _ => cl2_step (by omega) (by omega) j)) fr_61
          · exact absurd hpo.1 (by omega)
        · exact absurd hpo.1 (by omega)

theorem clr_out {g0 : GG} {bl : Nat} {xs : Nat → Int32} {l : Launch} {wp : va_W} {p : Program} {e : Env} {R : Room} {s : State} {m : MethodId} {args : Array Value} {below : List Frame} {meth : Method} {c : Code} {Q : State → Prop} {kc0 ks0 kc ks f lam KC KS : Nat} {hs : List CE} {f9 : Nat → Rat} {ri ni : Int32} {row n9 : Nat} {a b : Int64} (hri : ri.toInt = (row : Int)) (hni : ni.toInt = (n9 : Int)) (hrn : row < n9) (hn3 : n9 ≤ 3) (hS1 : ∀ j, j < 12 → Sm4 (f9 j)) (hS2 : ∀ j, j < 12 → Sm4 (scl f9 row 4 j)) (hpz : f9 (4 * row + row) ≠ 0) (hf : 3 ≤ R.frames) (hl : 87 ≤ R.locals) (hc : kc ≤ R.cells + kc0) (hsl : ks ≤ R.slots + ks0) (act : Act SSX TBL (gp g0 wp) CLS bl xs D_188 p l s m args meth c) (hEnd : EndN SSX TBL (gp g0 wp) CLS D_188 p l e R s m args below meth c Q kc0 ks0 f lam KC KS (fun kd r h2 => kd = 0 ∧ QArr h2 133 134 12 (clrQ f9 row n9) ∧ FrS WQ hs h2)) (hk1 : kc ≤ KC) (hk2 : ks ≤ KS) : ∀ m9 : Nat, m9 ≤ n9 → ∀ (mi : Int32) (hj : List CE), mi.toInt = (m9 : Int) → RW hj → QArr hj 133 134 12 (cl2 (scl f9 row 4) row m9 0) → FrS WQ hs hj → WpN (gp g0 wp) CLS p l e R s m args below meth c Q D_188.2.2.1 kc0 ks0 100 [some (.ref 124), some (.int ri), some (.int ni), some (.long a), none, some (.long b), none, some (.int mi), none, none, none, none, none] (hj, kc, ks) [] := by
  refine dn (fun m9 hm ih => ?_)
  intro mi hj hmi rwj hQ hfr
  refine g_loadI act (gx gp_188 (w := 0x7006602) rfl (by decide) rfl) (a := 7) (n := 102) rfl rfl rfl ?_
  refine g_loadI act (gx gp_188 (w := 0x2006702) rfl (by decide) rfl) (a := 2) (n := 103) rfl rfl rfl ?_
  refine g_icmpGe act (gx gp_188 (w := 0x109006a08) rfl (by decide) rfl) (tgt := 265) (n := 106) rfl rfl (fun h3 => ?_) (fun h3 => ?_)
  · simp only [i_le] at h3
    obtain rfl : m9 = n9 := by omega
    exact g_retV hEnd (gx gp_188 (w := 0x18) rfl (by decide) rfl) ⟨rfl, hQ, hfr⟩ hk1 hk2
  · simp only [i_le] at h3
    refine g_loadA act (gx gp_188 (w := 0x6b03) rfl (by decide) rfl) (a := 0) (n := 107) rfl rfl rfl ?_
    refine r_getf act (gx gp_188 (w := 0x3000489006e04) rfl (by decide) rfl) (n := 110) (ci := 9) (j := 18) (N := 39) rfl rfl rfl rwj.1 (by decide) (rwj.2 (18, 133, 33, 12) (by decide)).1 ?_
    refine g_constI act (gx gp_188 (w := 0x40000002400000021000000006f01) rfl (by decide) rfl) (n := 111) (x := (4 : Int32)) (by decide) rfl ?_
    refine g_loadI act (gx gp_188 (w := 0x7007102) rfl (by decide) rfl) (a := 7) (n := 113) rfl rfl rfl ?_
    refine g_imul act (gx gp_188 (w := 0x7211) rfl (by decide) rfl) (n := 114) rfl ?_
    have v_1 := iv_mulN (show (4 : Int32).toInt = ((4 : Nat) : Int) from by decide) hmi (show (4 * m9) < 2147483648 by omega)
    refine g_loadI act (gx gp_188 (w := 0x1007302) rfl (by decide) rfl) (a := 1) (n := 115) rfl rfl rfl ?_
    refine g_iadd act (gx gp_188 (w := 0x740a) rfl (by decide) rfl) (n := 116) rfl ?_
    have v_2 := iv_addN v_1 hri (show ((4 * m9) + row) < 2147483648 by omega)
    obtain ⟨x_3, w_6, e_4, e_7, hx_5⟩ := hQ ((4 * m9) + row) (by omega)
    refine r_lald act (gx gp_188 (w := 0x750d) rfl (by decide) rfl) (n := 117) (j := ((4 * m9) + row)) rfl (rwj.2 (18, 133, 33, 12) (by decide)).2 v_2 (show ((4 * m9) + row) < 12 by omega) (v := .long x_3) e_4 ?_
    refine g_storeL act (gx gp_188 (w := 0x800770b) rfl (by decide) rfl) (a := 8) (n := 119) rfl rfl (L2 := [some (.ref 124), some (.int ri), some (.int ni), some (.long a), none, some (.long b), none, some (.int mi), some (.long x_3), none, none, none, none]) rfl ?_
    refine g_loadA act (gx gp_188 (w := 0x7803) rfl (by decide) rfl) (a := 0) (n := 120) rfl rfl rfl ?_
    refine r_getf act (gx gp_188 (w := 0x30004c9007b04) rfl (by decide) rfl) (n := 123) (ci := 9) (j := 19) (N := 39) rfl rfl rfl rwj.1 (by decide) (rwj.2 (19, 134, 33, 12) (by decide)).1 ?_
    refine g_constI act (gx gp_188 (w := 0x40000002400000021000000007c01) rfl (by decide) rfl) (n := 124) (x := (4 : Int32)) (by decide) rfl ?_
    refine g_loadI act (gx gp_188 (w := 0x7007e02) rfl (by decide) rfl) (a := 7) (n := 126) rfl rfl rfl ?_
    refine g_imul act (gx gp_188 (w := 0x7f11) rfl (by decide) rfl) (n := 127) rfl ?_
    have v_8 := iv_mulN (show (4 : Int32).toInt = ((4 : Nat) : Int) from by decide) hmi (show (4 * m9) < 2147483648 by omega)
    refine g_loadI act (gx gp_188 (w := 0x1008002) rfl (by decide) rfl) (a := 1) (n := 128) rfl rfl rfl ?_
    refine g_iadd act (gx gp_188 (w := 0x810a) rfl (by decide) rfl) (n := 129) rfl ?_
    have v_9 := iv_addN v_8 hri (show ((4 * m9) + row) < 2147483648 by omega)
    refine r_lald act (gx gp_188 (w := 0x820d) rfl (by decide) rfl) (n := 130) (j := ((4 * m9) + row)) rfl (rwj.2 (19, 134, 33, 12) (by decide)).2 v_9 (show ((4 * m9) + row) < 12 by omega) (v := .long w_6) e_7 ?_
    refine g_storeL act (gx gp_188 (w := 0xa00840b) rfl (by decide) rfl) (a := 10) (n := 132) rfl rfl (L2 := [some (.ref 124), some (.int ri), some (.int ni), some (.long a), none, some (.long b), none, some (.int mi), some (.long x_3), none, some (.long w_6), none, none]) rfl ?_
    refine g_constI act (gx gp_188 (w := 0x40000000400000001000000008501) rfl (by decide) rfl) (n := 133) (x := (0 : Int32)) (by decide) rfl ?_
    refine g_storeI act (gx gp_188 (w := 0xc008710) rfl (by decide) rfl) (a := 12) (n := 135) rfl rfl (L2 := [some (.ref 124), some (.int ri), some (.int ni), some (.long a), none, some (.long b), none, some (.int mi), some (.long x_3), none, some (.long w_6), none, some (.int (0 : Int32))]) rfl ?_
    have hcd : FR x_3 w_6 ((scl f9 row 4) (4 * m9 + row)) := by
      have e1 : (4 * m9 + row) / 4 = m9 := by omega
      have e2 : cl2 (scl f9 row 4) row m9 0 (4 * m9 + row) = (scl f9 row 4) (4 * m9 + row) := by unfold cl2; rw [e1, if_neg (by omega)]
      rw [← e2]; exact hx_5
    exact clr_in hri hni hrn hn3 hS1 hS2 hpz hf hl hc hsl hmi (by omega) hcd act hEnd hk1 hk2 (fun hj rwj hQ hfr => by
        refine g_iinc act (gx gp_188 (w := 0x80000001000007010609) rfl (by decide) rfl) (a := 7) (i := (1 : Int32)) (n := 262) rfl (by decide) rfl rfl (L2 := [some (.ref 124), some (.int ri), some (.int ni), some (.long a), none, some (.long b), none, some (.int (mi + (1 : Int32))), none, none, none, none, none]) rfl ?_
        have v_1 := iv_addN hmi (show (1 : Int32).toInt = ((1 : Nat) : Int) from by decide) (show (m9 + 1) < 2147483648 by omega)
        refine g_goto act (gx gp_188 (w := 0x6407) rfl (by decide) rfl) (n := 100) rfl ?_
        exact ih (m9 + 1) (by omega) (by omega) _ hj v_1 rwj hQ hfr) 0 (by omega) _ hj rfl rwj hQ hfr

theorem clr_one {g0 : GG} {bl : Nat} {xs : Nat → Int32} {l : Launch} {wp : va_W} {p : Program} {e : Env} {R : Room} {s : State} {m : MethodId} {args : Array Value} {below : List Frame} {meth : Method} {c : Code} {Q : State → Prop} {kc0 ks0 kc ks f lam KC KS : Nat} {hs : List CE} {f9 : Nat → Rat} {ri ni : Int32} {row n9 : Nat} {a b : Int64} (hri : ri.toInt = (row : Int)) (hni : ni.toInt = (n9 : Int)) (hrn : row < n9) (hn3 : n9 ≤ 3) (hS1 : ∀ j, j < 12 → Sm4 (f9 j)) (hS2 : ∀ j, j < 12 → Sm4 (scl f9 row 4 j)) (hpz : f9 (4 * row + row) ≠ 0) (hf : 3 ≤ R.frames) (hl : 87 ≤ R.locals) (hc : kc ≤ R.cells + kc0) (hsl : ks ≤ R.slots + ks0) (hab : FR a b (f9 (4 * row + row))) (act : Act SSX TBL (gp g0 wp) CLS bl xs D_188 p l s m args meth c) (hEnd : EndN SSX TBL (gp g0 wp) CLS D_188 p l e R s m args below meth c Q kc0 ks0 f lam KC KS (fun kd r h2 => kd = 0 ∧ QArr h2 133 134 12 (clrQ f9 row n9) ∧ FrS WQ hs h2)) (hk1 : kc ≤ KC) (hk2 : ks ≤ KS) : ∀ k : Nat, k ≤ 4 → ∀ (ki : Int32) (hj : List CE), ki.toInt = (k : Int) → RW hj → QArr hj 133 134 12 (scl f9 row k) → FrS WQ hs hj → WpN (gp g0 wp) CLS p l e R s m args below meth c Q D_188.2.2.1 kc0 ks0 26 [some (.ref 124), some (.int ri), some (.int ni), some (.long a), none, some (.long b), none, some (.int ki), none, none, none, none, none] (hj, kc, ks) [] := by
  refine dn (fun k hk ih => ?_)
  intro ki hj hki rwj hQ hfr
  refine g_loadI act (gx gp_188 (w := 0x7001c02) rfl (by decide) rfl) (a := 7) (n := 28) rfl rfl rfl ?_
  refine g_constI act (gx gp_188 (w := 0x40000002400000021000000001d01) rfl (by decide) rfl) (n := 29) (x := (4 : Int32)) (by decide) rfl ?_
  refine g_icmpGe act (gx gp_188 (w := 0x61002008) rfl (by decide) rfl) (tgt := 97) (n := 32) rfl rfl (fun h3 => ?_) (fun h3 => ?_)
  · simp only [i_le, show (4 : Int32).toInt = 4 from by decide] at h3
    refine g_constI act (gx gp_188 (w := 0x40000000400000001000000006201) rfl (by decide) rfl) (n := 98) (x := (0 : Int32)) (by decide) rfl ?_
    refine g_storeI act (gx gp_188 (w := 0x7006410) rfl (by decide) rfl) (a := 7) (n := 100) rfl rfl (L2 := [some (.ref 124), some (.int ri), some (.int ni), some (.long a), none, some (.long b), none, some (.int (0 : Int32)), none, none, none, none, none]) rfl ?_
    obtain rfl : k = 4 := by omega
    have hQ2 : QArr hj 133 134 12 (cl2 (scl f9 row 4) row 0 0) := hQ.cong (fun j _ => by unfold cl2; rw [if_neg (by omega)])
    exact clr_out hri hni hrn hn3 hS1 hS2 hpz hf hl hc hsl act hEnd hk1 hk2 0 (by omega) _ hj rfl rwj hQ2 hfr
  · simp only [i_le, show (4 : Int32).toInt = 4 from by decide] at h3
    refine g_loadA act (gx gp_188 (w := 0x2103) rfl (by decide) rfl) (a := 0) (n := 33) rfl rfl rfl ?_
    refine g_loadA act (gx gp_188 (w := 0x2203) rfl (by decide) rfl) (a := 0) (n := 34) rfl rfl rfl ?_
    refine r_getf act (gx gp_188 (w := 0x3000489002504) rfl (by decide) rfl) (n := 37) (ci := 9) (j := 18) (N := 39) rfl rfl rfl rwj.1 (by decide) (rwj.2 (18, 133, 33, 12) (by decide)).1 ?_
    refine g_constI act (gx gp_188 (w := 0x40000002400000021000000002601) rfl (by decide) rfl) (n := 38) (x := (4 : Int32)) (by decide) rfl ?_
    refine g_loadI act (gx gp_188 (w := 0x1002702) rfl (by decide) rfl) (a := 1) (n := 39) rfl rfl rfl ?_
    refine g_imul act (gx gp_188 (w := 0x2811) rfl (by decide) rfl) (n := 40) rfl ?_
    have v_1 := iv_mulN (show (4 : Int32).toInt = ((4 : Nat) : Int) from by decide) hri (show (4 * row) < 2147483648 by omega)
    refine g_loadI act (gx gp_188 (w := 0x7002a02) rfl (by decide) rfl) (a := 7) (n := 42) rfl rfl rfl ?_
    refine g_iadd act (gx gp_188 (w := 0x2b0a) rfl (by decide) rfl) (n := 43) rfl ?_
    have v_2 := iv_addN v_1 hki (show ((4 * row) + k) < 2147483648 by omega)
    obtain ⟨x_3, w_6, e_4, e_7, hx_5⟩ := hQ ((4 * row) + k) (by omega)
    rw [show scl f9 row k (4 * row + k) = f9 (4 * row + k) from if_neg (by omega)] at hx_5
    refine r_lald act (gx gp_188 (w := 0x2c0d) rfl (by decide) rfl) (n := 44) (j := ((4 * row) + k)) rfl (rwj.2 (18, 133, 33, 12) (by decide)).2 v_2 (show ((4 * row) + k) < 12 by omega) (v := .long x_3) e_4 ?_
    refine g_loadA act (gx gp_188 (w := 0x2d03) rfl (by decide) rfl) (a := 0) (n := 45) rfl rfl rfl ?_
    refine r_getf act (gx gp_188 (w := 0x30004c9003004) rfl (by decide) rfl) (n := 48) (ci := 9) (j := 19) (N := 39) rfl rfl rfl rwj.1 (by decide) (rwj.2 (19, 134, 33, 12) (by decide)).1 ?_
    refine g_constI act (gx gp_188 (w := 0x40000002400000021000000003101) rfl (by decide) rfl) (n := 49) (x := (4 : Int32)) (by decide) rfl ?_
    refine g_loadI act (gx gp_188 (w := 0x1003202) rfl (by decide) rfl) (a := 1) (n := 50) rfl rfl rfl ?_
    refine g_imul act (gx gp_188 (w := 0x3311) rfl (by decide) rfl) (n := 51) rfl ?_
    have v_8 := iv_mulN (show (4 : Int32).toInt = ((4 : Nat) : Int) from by decide) hri (show (4 * row) < 2147483648 by omega)
    refine g_loadI act (gx gp_188 (w := 0x7003502) rfl (by decide) rfl) (a := 7) (n := 53) rfl rfl rfl ?_
    refine g_iadd act (gx gp_188 (w := 0x360a) rfl (by decide) rfl) (n := 54) rfl ?_
    have v_9 := iv_addN v_8 hki (show ((4 * row) + k) < 2147483648 by omega)
    refine r_lald act (gx gp_188 (w := 0x370d) rfl (by decide) rfl) (n := 55) (j := ((4 * row) + k)) rfl (rwj.2 (19, 134, 33, 12) (by decide)).2 v_9 (show ((4 * row) + k) < 12 by omega) (v := .long w_6) e_7 ?_
    refine g_loadL act (gx gp_188 (w := 0x5003906) rfl (by decide) rfl) (a := 5) (n := 57) rfl rfl rfl ?_
    refine g_loadL act (gx gp_188 (w := 0x3003a06) rfl (by decide) rfl) (a := 3) (n := 58) rfl rfl rfl ?_
    refine n_call tb_pres act hEnd (gx (P := G_call) gp_188 (w := 0xa0000000000008349500011a003d0f) rfl (by decide) rfl) (d' := D_282) rfl (as := [.ref 124, .long x_3, .long w_6, .long b, .long a]) (rest := []) (b_timesI rwj hx_5 hab (hS1 _ (by omega)).sml (hS1 _ (by omega)).sml hpz) (show (5 : Nat) = fb 0xa0000000000008349500011a003d0f % 16 by decide) (by show (9 : Nat) ≤ 13; decide) (fun _ => ⟨_, _, rfl, _, shp_at rwj.1, Or.inr (show fb 0xa0000000000008349500011a003d0f >>> 68 = 10 by decide)⟩) (by omega) (by show 8 + (13 + 11) + 55 ≤ R.locals; omega) (by show (0 : Nat) ≤ 8; decide) (by show kc + 0 ≤ _; omega) (by show ks + 0 ≤ _; omega) (fun r9 hs_15 hpo hr9 => ?_) (fun x9 hs9 hx9 hpo => ?_)
    · obtain rfl : r9 = none := hr9.elim (fun q => q.2) (fun q => absurd rfl q.1)
      obtain ⟨-, t_16, w_17, e_18, e_19, hF_20, fr_21⟩ := hpo
      have rw_22 := rwj.fr fr_21 W0_rw
      have f_23 := hQ.fr (fun j9 _ => ⟨fr_21.2.2 133 j9 (by unfold W0; omega), fr_21.2.2 134 j9 (by unfold W0; omega)⟩)
      have fr_24 := hfr.tr (fr_21.mono (fun k9 j9 h9 => by unfold W0 at h9; unfold WQ; omega))
      clear rwj hQ hfr
      show WpN (gp g0 wp) CLS p l e R s m args below meth c Q D_188.2.2.1 kc0 ks0 61 [some (.ref 124), some (.int ri), some (.int ni), some (.long a), none, some (.long b), none, some (.int ki), none, none, none, none, none] (hs_15, kc, ks) []
      refine g_loadA act (gx gp_188 (w := 0x3e03) rfl (by decide) rfl) (a := 0) (n := 62) rfl rfl rfl ?_
      refine r_getf act (gx gp_188 (w := 0x3000489004104) rfl (by decide) rfl) (n := 65) (ci := 9) (j := 18) (N := 39) rfl rfl rfl rw_22.1 (by decide) (rw_22.2 (18, 133, 33, 12) (by decide)).1 ?_
      refine g_constI act (gx gp_188 (w := 0x40000002400000021000000004201) rfl (by decide) rfl) (n := 66) (x := (4 : Int32)) (by decide) rfl ?_
      refine g_loadI act (gx gp_188 (w := 0x1004302) rfl (by decide) rfl) (a := 1) (n := 67) rfl rfl rfl ?_
      refine g_imul act (gx gp_188 (w := 0x4411) rfl (by decide) rfl) (n := 68) rfl ?_
      have v_25 := iv_mulN (show (4 : Int32).toInt = ((4 : Nat) : Int) from by decide) hri (show (4 * row) < 2147483648 by omega)
      refine g_loadI act (gx gp_188 (w := 0x7004602) rfl (by decide) rfl) (a := 7) (n := 70) rfl rfl rfl ?_
      refine g_iadd act (gx gp_188 (w := 0x470a) rfl (by decide) rfl) (n := 71) rfl ?_
      have v_26 := iv_addN v_25 hki (show ((4 * row) + k) < 2147483648 by omega)
      refine g_loadA act (gx gp_188 (w := 0x4803) rfl (by decide) rfl) (a := 0) (n := 72) rfl rfl rfl ?_
      refine r_getf act (gx gp_188 (w := 0x20001c9004b04) rfl (by decide) rfl) (n := 75) (ci := 9) (j := 7) (N := 39) rfl rfl rfl rw_22.1 (by decide) (v := .long t_16) e_18 ?_
      refine r_last act (gx gp_188 (w := 0x4c05) rfl (by decide) rfl) (n := 76) (j := ((4 * row) + k)) rfl (rw_22.2 (18, 133, 33, 12) (by decide)).2 v_26 (show ((4 * row) + k) < 12 by omega) ?_
      have rw_27 := RW.wr (k := 133) (j := ((4 * row) + k)) (v := .long t_16) rw_22 (Or.inl (by decide))
      have f_28 := (rd_ne hs_15 (k := 133) (j := ((4 * row) + k)) (.long t_16) (Or.inl (by decide))).trans e_18
      have f_29 := (rd_ne hs_15 (k := 133) (j := ((4 * row) + k)) (.long t_16) (Or.inl (by decide))).trans e_19
      have fr_30 := fr_24.wr (k := 133) (j := ((4 * row) + k)) (.long t_16) (by unfold WQ; omega)
      refine g_loadA act (gx gp_188 (w := 0x4d03) rfl (by decide) rfl) (a := 0) (n := 77) rfl rfl rfl ?_
      refine r_getf act (gx gp_188 (w := 0x30004c9005004) rfl (by decide) rfl) (n := 80) (ci := 9) (j := 19) (N := 39) rfl rfl rfl rw_27.1 (by decide) (rw_27.2 (19, 134, 33, 12) (by decide)).1 ?_
      refine g_constI act (gx gp_188 (w := 0x40000002400000021000000005101) rfl (by decide) rfl) (n := 81) (x := (4 : Int32)) (by decide) rfl ?_
      refine g_loadI act (gx gp_188 (w := 0x1005202) rfl (by decide) rfl) (a := 1) (n := 82) rfl rfl rfl ?_
      refine g_imul act (gx gp_188 (w := 0x5311) rfl (by decide) rfl) (n := 83) rfl ?_
      have v_31 := iv_mulN (show (4 : Int32).toInt = ((4 : Nat) : Int) from by decide) hri (show (4 * row) < 2147483648 by omega)
      refine g_loadI act (gx gp_188 (w := 0x7005502) rfl (by decide) rfl) (a := 7) (n := 85) rfl rfl rfl ?_
      refine g_iadd act (gx gp_188 (w := 0x560a) rfl (by decide) rfl) (n := 86) rfl ?_
      have v_32 := iv_addN v_31 hki (show ((4 * row) + k) < 2147483648 by omega)
      refine g_loadA act (gx gp_188 (w := 0x5703) rfl (by decide) rfl) (a := 0) (n := 87) rfl rfl rfl ?_
      refine r_getf act (gx gp_188 (w := 0x2000209005a04) rfl (by decide) rfl) (n := 90) (ci := 9) (j := 8) (N := 39) rfl rfl rfl rw_27.1 (by decide) (v := .long w_17) f_29 ?_
      refine r_last act (gx gp_188 (w := 0x5b05) rfl (by decide) rfl) (n := 91) (j := ((4 * row) + k)) rfl (rw_27.2 (19, 134, 33, 12) (by decide)).2 v_32 (show ((4 * row) + k) < 12 by omega) ?_
      have rw_33 := RW.wr (k := 134) (j := ((4 * row) + k)) (v := .long w_17) rw_27 (Or.inl (by decide))
      have f_34 := (rd_ne (wr hs_15 133 ((4 * row) + k) (.long t_16)) (k := 134) (j := ((4 * row) + k)) (.long w_17) (Or.inl (by decide))).trans f_28
      have f_35 := (rd_ne (wr hs_15 133 ((4 * row) + k) (.long t_16)) (k := 134) (j := ((4 * row) + k)) (.long w_17) (Or.inl (by decide))).trans f_29
      have f_36 := f_23.put (j := ((4 * row) + k)) (Y := ((f9 ((4 * row) + k)) * (f9 (4 * row + row))⁻¹)) (rw_22.2 (18, 133, 33, 12) (by decide)).2 (rw_22.2 (19, 134, 33, 12) (by decide)).2 (by decide) hF_20
      have fr_37 := fr_30.wr (k := 134) (j := ((4 * row) + k)) (.long w_17) (by unfold WQ; omega)
      clear rw_27 fr_30 f_28 f_29 fr_24 e_18 e_19
      generalize (wr (wr hs_15 133 ((4 * row) + k) (.long t_16)) 134 ((4 * row) + k) (.long w_17)) = hs_38 at *
      refine g_iinc act (gx gp_188 (w := 0x80000001000007005e09) rfl (by decide) rfl) (a := 7) (i := (1 : Int32)) (n := 94) rfl (by decide) rfl rfl (L2 := [some (.ref 124), some (.int ri), some (.int ni), some (.long a), none, some (.long b), none, some (.int (ki + (1 : Int32))), none, none, none, none, none]) rfl ?_
      have v_39 := iv_addN hki (show (1 : Int32).toInt = ((1 : Nat) : Int) from by decide) (show (k + 1) < 2147483648 by omega)
      refine g_goto act (gx gp_188 (w := 0x1a07) rfl (by decide) rfl) (n := 26) rfl ?_
      exact ih (k + 1) (by omega) (by omega) _ _ v_39 rw_33 (f_36.cong (fun j _ => scl_step (by omega) j)) fr_37
    · exact absurd hpo.1 (by omega)

theorem b_clears {g0 : GG} {bl : Nat} {xs : Nat → Int32} {l : Launch} {hs : List CE} {f9 : Nat → Rat} {ri ni : Int32} {row n9 : Nat} (rw0 : RW hs) (hQ : QArr hs 133 134 12 f9) (hri : ri.toInt = (row : Int)) (hni : ni.toInt = (n9 : Int)) (hrn : row < n9) (hn3 : n9 ≤ 3) (hS1 : ∀ j, j < 12 → Sm4 (f9 j)) (hS2 : ∀ j, j < 12 → Sm4 (scl f9 row 4 j)) (hpz : f9 (4 * row + row) ≠ 0) : BodyN SSX TBL g0 CLS bl xs l D_188 3 87 0 0 [.ref 124, .int ri, .int ni] hs (fun kd r h2 => kd = 0 ∧ QArr h2 133 134 12 (clrQ f9 row n9) ∧ FrS WQ hs h2) := by
  intro wp p e R s m args below meth c Q kc0 ks0 kc ks act hf hl hc hsl hEnd
  show WpN (gp g0 wp) CLS p l e R s m args below meth c Q D_188.2.2.1 kc0 ks0 0 [some (.ref 124), some (.int ri), some (.int ni), none, none, none, none, none, none, none, none, none, none] (hs, kc, ks) []
  refine g_loadA act (gx gp_188 (w := 0x103) rfl (by decide) rfl) (a := 0) (n := 1) rfl rfl rfl ?_
  refine r_getf act (gx gp_188 (w := 0x3000489000404) rfl (by decide) rfl) (n := 4) (ci := 9) (j := 18) (N := 39) rfl rfl rfl rw0.1 (by decide) (rw0.2 (18, 133, 33, 12) (by decide)).1 ?_
  refine g_constI act (gx gp_188 (w := 0x40000002400000021000000000501) rfl (by decide) rfl) (n := 5) (x := (4 : Int32)) (by decide) rfl ?_
  refine g_loadI act (gx gp_188 (w := 0x1000602) rfl (by decide) rfl) (a := 1) (n := 6) rfl rfl rfl ?_
  refine g_imul act (gx gp_188 (w := 0x711) rfl (by decide) rfl) (n := 7) rfl ?_
  have v_1 := iv_mulN (show (4 : Int32).toInt = ((4 : Nat) : Int) from by decide) hri (show (4 * row) < 2147483648 by omega)
  refine g_loadI act (gx gp_188 (w := 0x1000802) rfl (by decide) rfl) (a := 1) (n := 8) rfl rfl rfl ?_
  refine g_iadd act (gx gp_188 (w := 0x90a) rfl (by decide) rfl) (n := 9) rfl ?_
  have v_2 := iv_addN v_1 hri (show ((4 * row) + row) < 2147483648 by omega)
  obtain ⟨x_3, w_6, e_4, e_7, hx_5⟩ := hQ ((4 * row) + row) (by omega)
  refine r_lald act (gx gp_188 (w := 0xa0d) rfl (by decide) rfl) (n := 10) (j := ((4 * row) + row)) rfl (rw0.2 (18, 133, 33, 12) (by decide)).2 v_2 (show ((4 * row) + row) < 12 by omega) (v := .long x_3) e_4 ?_
  refine g_storeL act (gx gp_188 (w := 0x3000b0b) rfl (by decide) rfl) (a := 3) (n := 11) rfl rfl (L2 := [some (.ref 124), some (.int ri), some (.int ni), some (.long x_3), none, none, none, none, none, none, none, none, none]) rfl ?_
  refine g_loadA act (gx gp_188 (w := 0xc03) rfl (by decide) rfl) (a := 0) (n := 12) rfl rfl rfl ?_
  refine r_getf act (gx gp_188 (w := 0x30004c9000f04) rfl (by decide) rfl) (n := 15) (ci := 9) (j := 19) (N := 39) rfl rfl rfl rw0.1 (by decide) (rw0.2 (19, 134, 33, 12) (by decide)).1 ?_
  refine g_constI act (gx gp_188 (w := 0x40000002400000021000000001001) rfl (by decide) rfl) (n := 16) (x := (4 : Int32)) (by decide) rfl ?_
  refine g_loadI act (gx gp_188 (w := 0x1001102) rfl (by decide) rfl) (a := 1) (n := 17) rfl rfl rfl ?_
  refine g_imul act (gx gp_188 (w := 0x1211) rfl (by decide) rfl) (n := 18) rfl ?_
  have v_8 := iv_mulN (show (4 : Int32).toInt = ((4 : Nat) : Int) from by decide) hri (show (4 * row) < 2147483648 by omega)
  refine g_loadI act (gx gp_188 (w := 0x1001302) rfl (by decide) rfl) (a := 1) (n := 19) rfl rfl rfl ?_
  refine g_iadd act (gx gp_188 (w := 0x140a) rfl (by decide) rfl) (n := 20) rfl ?_
  have v_9 := iv_addN v_8 hri (show ((4 * row) + row) < 2147483648 by omega)
  refine r_lald act (gx gp_188 (w := 0x150d) rfl (by decide) rfl) (n := 21) (j := ((4 * row) + row)) rfl (rw0.2 (19, 134, 33, 12) (by decide)).2 v_9 (show ((4 * row) + row) < 12 by omega) (v := .long w_6) e_7 ?_
  refine g_storeL act (gx gp_188 (w := 0x500170b) rfl (by decide) rfl) (a := 5) (n := 23) rfl rfl (L2 := [some (.ref 124), some (.int ri), some (.int ni), some (.long x_3), none, some (.long w_6), none, none, none, none, none, none, none]) rfl ?_
  refine g_constI act (gx gp_188 (w := 0x40000000400000001000000001801) rfl (by decide) rfl) (n := 24) (x := (0 : Int32)) (by decide) rfl ?_
  refine g_storeI act (gx gp_188 (w := 0x7001a10) rfl (by decide) rfl) (a := 7) (n := 26) rfl rfl (L2 := [some (.ref 124), some (.int ri), some (.int ni), some (.long x_3), none, some (.long w_6), none, some (.int (0 : Int32)), none, none, none, none, none]) rfl ?_
  exact clr_one hri hni hrn hn3 hS1 hS2 hpz hf hl hc hsl hx_5 act hEnd (by omega) (by omega) 0 (by omega) _ hs rfl rw0 (hQ.cong (fun j _ => (if_neg (by omega)).symm)) (FrS.rf _ _)

theorem fr01 : FR (0 : Int64) (1 : Int64) 0 := ⟨by decide, by decide⟩
theorem sml0 : Sml 0 := ⟨by decide, by decide⟩
theorem b_angle {g0 : GG} {bl : Nat} {xs : Nat → Int32} {l : Launch} {hs : List CE} {f9 : Nat → Rat} {ni : Int32} {n9 : Nat} (rw0 : RW hs) (hQ : QArr hs 133 134 12 f9) (hni : ni.toInt = (n9 : Int)) (hn3 : n9 ≤ 3) (hS1 : ∀ j, j < 12 → Sm4 (f9 j)) : BodyN SSX TBL g0 CLS bl xs l D_179 2 55 0 0 [.ref 124, .int ni] hs (POQ hs (if n9 = 0 then 0 else f9 (4 * (n9 - 1) + 3))) := by
  intro wp p e R s m args below meth c Q kc0 ks0 kc ks act hf hl hc hsl hEnd
  show WpN (gp g0 wp) CLS p l e R s m args below meth c Q D_179.2.2.1 kc0 ks0 0 [some (.ref 124), some (.int ni)] (hs, kc, ks) []
  refine g_loadA act (gx gp_179 (w := 0x103) rfl (by decide) rfl) (a := 0) (n := 1) rfl rfl rfl ?_
  refine g_loadI act (gx gp_179 (w := 0x1000202) rfl (by decide) rfl) (a := 1) (n := 2) rfl rfl rfl ?_
  refine g_ifNe act (gx gp_179 (w := 0x900051d) rfl (by decide) rfl) (tgt := 9) (n := 5) rfl rfl (fun h3 => ?_) (fun h3 => ?_)
  · simp only [i_eq, i0] at h3
    refine g_loadA act (gx gp_179 (w := 0xa03) rfl (by decide) rfl) (a := 0) (n := 10) rfl rfl rfl ?_
    refine r_getf act (gx gp_179 (w := 0x3000489000d04) rfl (by decide) rfl) (n := 13) (ci := 9) (j := 18) (N := 39) rfl rfl rfl rw0.1 (by decide) (rw0.2 (18, 133, 33, 12) (by decide)).1 ?_
    refine g_constI act (gx gp_179 (w := 0x40000002400000021000000000e01) rfl (by decide) rfl) (n := 14) (x := (4 : Int32)) (by decide) rfl ?_
    refine g_loadI act (gx gp_179 (w := 0x1000f02) rfl (by decide) rfl) (a := 1) (n := 15) rfl rfl rfl ?_
    refine g_constI act (gx gp_179 (w := 0x40000000c00000009000000001001) rfl (by decide) rfl) (n := 16) (x := (1 : Int32)) (by decide) rfl ?_
    refine g_isub act (gx gp_179 (w := 0x1126) rfl (by decide) rfl) (n := 17) rfl ?_
    have v_1 := iv_subN hni (show (1 : Int32).toInt = ((1 : Nat) : Int) from by decide) (show 1 ≤ n9 by omega)
    refine g_imul act (gx gp_179 (w := 0x1211) rfl (by decide) rfl) (n := 18) rfl ?_
    have v_2 := iv_mulN (show (4 : Int32).toInt = ((4 : Nat) : Int) from by decide) v_1 (show (4 * (n9 - 1)) < 2147483648 by omega)
    refine g_constI act (gx gp_179 (w := 0x40000001c00000019000000001301) rfl (by decide) rfl) (n := 19) (x := (3 : Int32)) (by decide) rfl ?_
    refine g_iadd act (gx gp_179 (w := 0x140a) rfl (by decide) rfl) (n := 20) rfl ?_
    have v_3 := iv_addN v_2 (show (3 : Int32).toInt = ((3 : Nat) : Int) from by decide) (show ((4 * (n9 - 1)) + 3) < 2147483648 by omega)
    obtain ⟨x_4, w_7, e_5, e_8, hx_6⟩ := hQ ((4 * (n9 - 1)) + 3) (by omega)
    refine r_lald act (gx gp_179 (w := 0x150d) rfl (by decide) rfl) (n := 21) (j := ((4 * (n9 - 1)) + 3)) rfl (rw0.2 (18, 133, 33, 12) (by decide)).2 v_3 (show ((4 * (n9 - 1)) + 3) < 12 by omega) (v := .long x_4) e_5 ?_
    refine g_loadI act (gx gp_179 (w := 0x1001602) rfl (by decide) rfl) (a := 1) (n := 22) rfl rfl rfl ?_
    refine g_ifNe act (gx gp_179 (w := 0x1d00191d) rfl (by decide) rfl) (tgt := 29) (n := 25) rfl rfl (fun h10 => ?_) (fun h10 => ?_)
    · simp only [i_eq, i0] at h10
      refine g_loadA act (gx gp_179 (w := 0x1e03) rfl (by decide) rfl) (a := 0) (n := 30) rfl rfl rfl ?_
      refine r_getf act (gx gp_179 (w := 0x30004c9002104) rfl (by decide) rfl) (n := 33) (ci := 9) (j := 19) (N := 39) rfl rfl rfl rw0.1 (by decide) (rw0.2 (19, 134, 33, 12) (by decide)).1 ?_
      refine g_constI act (gx gp_179 (w := 0x40000002400000021000000002201) rfl (by decide) rfl) (n := 34) (x := (4 : Int32)) (by decide) rfl ?_
      refine g_loadI act (gx gp_179 (w := 0x1002302) rfl (by decide) rfl) (a := 1) (n := 35) rfl rfl rfl ?_
      refine g_constI act (gx gp_179 (w := 0x40000000c00000009000000002401) rfl (by decide) rfl) (n := 36) (x := (1 : Int32)) (by decide) rfl ?_
      refine g_isub act (gx gp_179 (w := 0x2526) rfl (by decide) rfl) (n := 37) rfl ?_
      have v_9 := iv_subN hni (show (1 : Int32).toInt = ((1 : Nat) : Int) from by decide) (show 1 ≤ n9 by omega)
      refine g_imul act (gx gp_179 (w := 0x2611) rfl (by decide) rfl) (n := 38) rfl ?_
      have v_10 := iv_mulN (show (4 : Int32).toInt = ((4 : Nat) : Int) from by decide) v_9 (show (4 * (n9 - 1)) < 2147483648 by omega)
      refine g_constI act (gx gp_179 (w := 0x40000001c00000019000000002701) rfl (by decide) rfl) (n := 39) (x := (3 : Int32)) (by decide) rfl ?_
      refine g_iadd act (gx gp_179 (w := 0x280a) rfl (by decide) rfl) (n := 40) rfl ?_
      have v_11 := iv_addN v_10 (show (3 : Int32).toInt = ((3 : Nat) : Int) from by decide) (show ((4 * (n9 - 1)) + 3) < 2147483648 by omega)
      refine r_lald act (gx gp_179 (w := 0x290d) rfl (by decide) rfl) (n := 41) (j := ((4 * (n9 - 1)) + 3)) rfl (rw0.2 (19, 134, 33, 12) (by decide)).2 v_11 (show ((4 * (n9 - 1)) + 3) < 12 by omega) (v := .long w_7) e_8 ?_
      refine n_call tb_pres act hEnd (gx (P := G_call) gp_179 (w := 0xa00000000000081c530000da002c0f) rfl (by decide) rfl) (d' := D_218) rfl (as := [.ref 124, .long x_4, .long w_7]) (rest := []) (b_isQ rw0 hx_6 (hS1 _ (by omega)).sml) (show (3 : Nat) = fb 0xa00000000000081c530000da002c0f % 16 by decide) (by show (5 : Nat) ≤ 7; decide) (fun _ => ⟨_, _, rfl, _, shp_at rw0.1, Or.inr (show fb 0xa00000000000081c530000da002c0f >>> 68 = 10 by decide)⟩) (by omega) (by show 8 + (7 + 11) + 29 ≤ R.locals; omega) (by show (0 : Nat) ≤ 8; decide) (by show kc + 0 ≤ _; omega) (by show ks + 0 ≤ _; omega) (fun r9 hs_17 hpo hr9 => ?_) (fun x9 hs9 hx9 hpo => ?_)
      · obtain rfl : r9 = none := hr9.elim (fun q => q.2) (fun q => absurd rfl q.1)
        obtain ⟨-, t_18, w_19, e_20, e_21, hF_22, fr_23⟩ := hpo
        have rw_24 := rw0.fr fr_23 W0_rw
        have f_25 := hQ.fr (fun j9 _ => ⟨fr_23.2.2 133 j9 (by unfold W0; omega), fr_23.2.2 134 j9 (by unfold W0; omega)⟩)
        have fr_26 := (FrS.rf W0 hs).tr fr_23
        clear hQ
        show WpN (gp g0 wp) CLS p l e R s m args below meth c Q D_179.2.2.1 kc0 ks0 44 [some (.ref 124), some (.int ni)] (hs_17, kc, ks) []
        exact g_retV hEnd (gx gp_179 (w := 0x18) rfl (by decide) rfl) ⟨rfl, _, _, e_20, e_21, (by rw [if_neg (show n9 ≠ 0 by omega)]; exact hF_22), fr_26⟩ (by show kc ≤ kc + 0; omega) (by show ks ≤ ks + 0; omega)
      · exact absurd hpo.1 (by omega)
    · simp only [i_eq, i0] at h10
      exfalso; omega
  · simp only [i_eq, i0] at h3
    refine g_constL act (gx gp_179 (w := 0x40000000000000002000000000601) rfl (by decide) rfl) (n := 6) (x := 0) (by decide) rfl ?_
    refine g_goto act (gx gp_179 (w := 0x1507) rfl (by decide) rfl) (n := 21) rfl ?_
    refine g_loadI act (gx gp_179 (w := 0x1001602) rfl (by decide) rfl) (a := 1) (n := 22) rfl rfl rfl ?_
    refine g_ifNe act (gx gp_179 (w := 0x1d00191d) rfl (by decide) rfl) (tgt := 29) (n := 25) rfl rfl (fun h19 => ?_) (fun h19 => ?_)
    · simp only [i_eq, i0] at h19
      exfalso; omega
    · simp only [i_eq, i0] at h19
      refine g_constL act (gx gp_179 (w := 0x4000000000000000a000000001a01) rfl (by decide) rfl) (n := 26) (x := 1) (by decide) rfl ?_
      refine g_goto act (gx gp_179 (w := 0x2907) rfl (by decide) rfl) (n := 41) rfl ?_
      refine n_call tb_pres act hEnd (gx (P := G_call) gp_179 (w := 0xa00000000000081c530000da002c0f) rfl (by decide) rfl) (d' := D_218) rfl (as := [.ref 124, .long (0 : Int64), .long (1 : Int64)]) (rest := []) (b_isQ rw0 fr01 sml0) (show (3 : Nat) = fb 0xa00000000000081c530000da002c0f % 16 by decide) (by show (5 : Nat) ≤ 7; decide) (fun _ => ⟨_, _, rfl, _, shp_at rw0.1, Or.inr (show fb 0xa00000000000081c530000da002c0f >>> 68 = 10 by decide)⟩) (by omega) (by show 8 + (7 + 11) + 29 ≤ R.locals; omega) (by show (0 : Nat) ≤ 8; decide) (by show kc + 0 ≤ _; omega) (by show ks + 0 ≤ _; omega) (fun r9 hs_27 hpo hr9 => ?_) (fun x9 hs9 hx9 hpo => ?_)
      · obtain rfl : r9 = none := hr9.elim (fun q => q.2) (fun q => absurd rfl q.1)
        obtain ⟨-, t_28, w_29, e_30, e_31, hF_32, fr_33⟩ := hpo
        have rw_34 := rw0.fr fr_33 W0_rw
        have f_35 := hQ.fr (fun j9 _ => ⟨fr_33.2.2 133 j9 (by unfold W0; omega), fr_33.2.2 134 j9 (by unfold W0; omega)⟩)
        have fr_36 := (FrS.rf W0 hs).tr fr_33
        clear hQ
        show WpN (gp g0 wp) CLS p l e R s m args below meth c Q D_179.2.2.1 kc0 ks0 44 [some (.ref 124), some (.int ni)] (hs_27, kc, ks) []
        exact g_retV hEnd (gx gp_179 (w := 0x18) rfl (by decide) rfl) ⟨rfl, _, _, e_30, e_31, (by rw [if_pos (show n9 = 0 by omega)]; exact hF_32), fr_36⟩ (by show kc ≤ kc + 0; omega) (by show ks ≤ ks + 0; omega)
      · exact absurd hpo.1 (by omega)
