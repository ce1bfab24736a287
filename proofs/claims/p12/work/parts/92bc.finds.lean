/-! The dispatch is found. -/
def WD (k j : Nat) : Prop := (131 ≤ k ∧ k ≤ 134) ∨ (139 ≤ k ∧ k ≤ 143) ∨ (k = 124 ∧ (j = 7 ∨ j = 8 ∨ j = 28 ∨ j = 29 ∨ j = 30))
theorem WD_rw : ∀ q ∈ RWT, ¬ WD 124 q.1 := by
  intro q hq
  have : q.1 ≠ 7 ∧ q.1 ≠ 8 ∧ q.1 ≠ 28 ∧ q.1 ≠ 29 ∧ q.1 ≠ 30 := by revert q; decide
  unfold WD
  omega
section NI
variable {g : GG} {cl : List vw_C} {p : Program} {l : Launch} {e : Env} {R : Room} {s : State} {m : MethodId} {args : Array Value} {below : List Frame} {meth : Method} {c : Code} {Q : State → Prop} {nL kc0 ks0 pc : Nat} {L : LN} {h : HN} {S : List Value}
/-- an array of ints holds ints -/
theorem n_ints {k N : Nat} (hk : shp h.1 k = some (32, N)) (K : (∀ j, j < N → ∃ x : Int32, rd h.1 k j = .int x) → WpN g cl p l e R s m args below meth c Q nL kc0 ks0 pc L h S) : WpN g cl p l e R s m args below meth c Q nL kc0 ks0 pc L h S := fun ls st H locs cells slots hr => K (by
  obtain ⟨ws, -, -, hH, -⟩ := hr
  have hc := shp_at hk
  have hlt : k < ws.length := by rw [hH.1]; exact shp_lt hk
  obtain ⟨c9, h1, h2⟩ := hH.2.2 k _ (List.getElem?_eq_getElem hlt)
  rw [hc] at h1
  cases h1
  obtain ⟨cA, f, e, -, hf⟩ := h2.ints (Or.inl rfl)
  exact fun j hj => ⟨f j, hf j hj⟩) ls st H locs cells slots hr
theorem n_longs {k N : Nat} (hk : shp h.1 k = some (33, N)) (K : (∀ j, j < N → ∃ x : Int64, rd h.1 k j = .long x) → WpN g cl p l e R s m args below meth c Q nL kc0 ks0 pc L h S) : WpN g cl p l e R s m args below meth c Q nL kc0 ks0 pc L h S := fun ls st H locs cells slots hr => K (by
  obtain ⟨ws, -, -, hH, -⟩ := hr
  have hc := shp_at hk
  have hlt : k < ws.length := by rw [hH.1]; exact shp_lt hk
  obtain ⟨c9, h1, h2⟩ := hH.2.2 k _ (List.getElem?_eq_getElem hlt)
  rw [hc] at h1
  cases h1
  obtain ⟨cA, f, e, -, hf⟩ := h2.longs rfl
  exact fun j hj => ⟨f j, hf j hj⟩) ls st H locs cells slots hr
end NI
theorem facR1 {hs : List CE} {ou : Int} {f : Nat → Rat} (h : ou ≠ -1 → QRng hs 131 132 24 48 f) : QRng hs 131 132 24 (if ou = -1 then 24 else 48) f := by
  by_cases z : ou = -1
  · rw [if_pos z]; exact fun j q1 q2 => absurd q2 (by omega)
  · rw [if_neg z]; exact h z
def bI (b : Nat → Nat) : Nat → Int := fun x => ((b x : Nat) : Int)
/-- the outputs by the rows' members -/
def oq (T : Nat → Rat) (b : Nat → Nat) : Nat → Nat → Rat
  | 0 => fun _ => 0
  | x + 1 => if b x < 5 then upQ (oq T b x) (b x) (T (35 * x + 34)) else oq T b x
theorem oq_c (T : Nat → Rat) (b : Nat → Nat) (g : Nat) : ∀ N : Nat, oq T b N g = 0 ∨ ∃ x, x < N ∧ b x < 5 ∧ oq T b N g = T (35 * x + 34)
  | 0 => Or.inl rfl
  | x + 1 => by
    show (if b x < 5 then upQ (oq T b x) (b x) (T (35 * x + 34)) else oq T b x) g = 0 ∨ ∃ x', x' < x + 1 ∧ b x' < 5 ∧ (if b x < 5 then upQ (oq T b x) (b x) (T (35 * x + 34)) else oq T b x) g = T (35 * x' + 34)
    by_cases z : b x < 5
    · rw [if_pos z]
      unfold upQ
      by_cases z2 : g = b x
      · rw [if_pos z2]
        exact Or.inr ⟨x, by omega, z, rfl⟩
      · rw [if_neg z2]
        rcases oq_c T b g x with q | ⟨x', h1, h2, h3⟩
        · exact Or.inl q
        · exact Or.inr ⟨x', by omega, h2, h3⟩
    · rw [if_neg z]
      rcases oq_c T b g x with q | ⟨x', h1, h2, h3⟩
      · exact Or.inl q
      · exact Or.inr ⟨x', by omega, h2, h3⟩
/-- a determinant of a net's pool -/
def PD (tl : Nat → Int) (nl n : Nat) (ou : Int) (D : Nat) : Prop := ∃ a b c, InP (poolL tl nl n ou) a ∧ InP (poolL tl nl n ou) b ∧ InP (poolL tl nl n ou) c ∧ D = (d3 a b c).natAbs ∧ D ≠ 0
/-- what is found: the cost and the outputs, over a determinant -/
def Found (h2 : List CE) (tl : Nat → Int) (nl n : Nat) (ou : Int) : Prop := ∃ (D : Nat) (C : Rat) (o : Nat → Rat) (t w : Int64), PD tl nl n ou D ∧ rd h2 124 29 = .long t ∧ rd h2 124 30 = .long w ∧ FR t w C ∧ QArr h2 142 143 5 o ∧ IsI ((D : Rat) * C) ∧ 0 ≤ C ∧ C ≤ 99000 ∧ ∀ g, g < 5 → IsI ((D : Rat) * o g) ∧ 0 ≤ o g ∧ o g ≤ 200
def POF (hs : List CE) (tl : Nat → Int) (nl n : Nat) (ou : Int) : Nat → Option Value → List CE → Prop := fun kd r h2 => kd = 0 ∧ (r = some (.int 0) ∨ r = some (.int 1)) ∧ Found h2 tl nl n ou ∧ QRng h2 131 132 0 24 (facA tl nl n ou) ∧ (ou ≠ -1 → QRng h2 131 132 24 48 (facA tl nl n ou)) ∧ (ALng h2 131 48 ∧ ALng h2 132 48 ∧ ALng h2 133 12 ∧ ALng h2 134 12 ∧ ALng h2 139 1295 ∧ ALng h2 140 1295) ∧ (∃ bz : Nat → Int, IArr h2 141 30 bz) ∧ (∃ t w : Int64, rd h2 124 7 = .long t ∧ rd h2 124 8 = .long w ∧ 0 < w.toInt ∧ w.toInt ≤ 256) ∧ (∃ x : Int32, rd h2 124 28 = .int x) ∧ FrS WD hs h2
/-- the last tableau's numbers -/
def Ends (tl : Nat → Int) (nl n : Nat) (ou : Int) (T : Nat → Rat) (b : Nat → Nat) (N : Nat) : Prop := ∃ D : Nat, PD tl nl n ou D ∧ D ≤ 256 ∧ IsI ((D : Rat) * T 1119) ∧ -99000 ≤ T 1119 ∧ T 1119 ≤ 0 ∧ ∀ x, x < N → b x < 5 → IsI ((D : Rat) * T (35 * x + 34)) ∧ 0 ≤ T (35 * x + 34) ∧ T (35 * x + 34) ≤ 200
theorem ends_t {tl dm lm em cp : Nat → Int} {nl n ng : Nat} {ou : Int} {fac ct : Nat → Rat} {T0 T : Nat → Rat} {bz : Nat → Int} {b : Nat → Nat} {cost : Nat → Int} (h : Laid tl dm lm em cp nl n ng ou fac) (hcost : ∀ g, 0 ≤ cost g ∧ cost g ≤ 99) (hct : ∀ g, g < ng → ct g = ((cost g : Int) : Rat)) (hT : TIf T0 bz (ng + (fl ou nl).length) (specS fac tl dm lm em cp (n + 1) ng nl ou) ng ct) (hR : RI (ng + (fl ou nl).length + 1) (rowT T0) (golT T0) (fun i => (bz i).toNat) (rowT T) (golT T) b) : Ends tl nl n ou T b (ng + (fl ou nl).length + 1) := by
  have hS := sys_t h hcost hct hT
  obtain ⟨a1, a2, a3, p1, p2, p3, hd, e1, e2, e3, e4⟩ := sy_fin hS hR
  obtain ⟨S9, -, hp⟩ := net_pool h.1
  have q1 := FF_pl h _ rfl p1
  have q2 := FF_pl h _ rfl p2
  have q3 := FF_pl h _ rfl p3
  have hk := dok_t ((inP_t hp).2 a1 a2 a3 q1 q2 q3)
  refine ⟨(d3 a1 a2 a3).natAbs, ⟨a1, a2, a3, q1, q2, q3, rfl, by omega⟩, hk.2.1, e1, e2, e3, fun x hx hb => ?_⟩
  have := e4 x hx hb
  exact ⟨this.2.1, this.2.2⟩
theorem cost_sm {D : Nat} {q : Rat} (h0 : D ≠ 0) (hD : D ≤ 256) (h1 : IsI ((D : Rat) * q)) (h2 : -99000 ≤ q) (h3 : q ≤ 0) : Sml q := sml_of (X := 99000) (by omega) hD h1 ⟨h2, by have : (0 : Rat) ≤ ((99000 : Nat) : Rat) := ic_le.mpr (by decide); grind⟩ (by decide)

theorem fin_2 {g0 : GG} {bl : Nat} {xs : Nat → Int32} {l : Launch} {wp : va_W} {p : Program} {e : Env} {R : Room} {s : State} {m : MethodId} {args : Array Value} {below : List Frame} {meth : Method} {c : Code} {Q : State → Prop} {kc0 ks0 kc ks f lam KC KS : Nat} {hs : List CE} {tl : Nat → Int} {nl n N9 : Nat} {ou : Int} {T : Nat → Rat} {b9 : Nat → Nat} {ni : Int32} (hni : ni.toInt = (N9 : Int)) (hN : N9 ≤ 30) (hE : Ends tl nl n ou T b9 N9) {hi1 : Nat} {bz : Nat → Int} (hhi : ou ≠ -1 → hi1 = 48) {ct9 cl9 tt9 tl9 : Int64} (hFc : FR ct9 cl9 (-T 1119)) (htl : 0 < tl9.toInt) (htl9 : tl9.toInt ≤ 256) (hf : 7 ≤ R.frames) (hl : 186 ≤ R.locals) (hc : kc ≤ R.cells + kc0) (hsl : ks ≤ R.slots + ks0) (act : Act SSX TBL (gp g0 wp) CLS bl xs D_206 p l s m args meth c) (hEnd : EndN SSX TBL (gp g0 wp) CLS D_206 p l e R s m args below meth c Q kc0 ks0 f lam KC KS (POF hs tl nl n ou)) (hk1 : kc ≤ KC) (hk2 : ks ≤ KS) : ∀ j9 : Nat, j9 ≤ N9 → ∀ (xi : Int32) (hj : List CE), xi.toInt = (j9 : Int) → RW hj → QArr hj 139 140 1295 T → IArr hj 141 N9 (bI b9) → rd hj 124 28 = .int ni → QRng hj 131 132 0 24 (facA tl nl n ou) → QRng hj 131 132 24 hi1 (facA tl nl n ou) → ALng hj 131 48 → ALng hj 132 48 → ALng hj 133 12 → ALng hj 134 12 → IArr hj 141 30 bz → rd hj 124 29 = .long ct9 → rd hj 124 30 = .long cl9 → rd hj 124 7 = .long tt9 → rd hj 124 8 = .long tl9 → QArr hj 142 143 5 (oq T b9 j9) → FrS WD hs hj → WpN (gp g0 wp) CLS p l e R s m args below meth c Q D_206.2.2.1 kc0 ks0 107 [some (.ref 124), some (.int xi)] (hj, kc, ks) [] := by
  refine dn (fun j9 hj9 ih => ?_)
  intro xi hj hxi rwj hT hB h28 hR0 hR1 g131 g132 g133 g134 hBz hv29 hv30 hv7 hv8 hO hfr
  refine g_loadI act (gx gp_206 (w := 0x1006c02) rfl (by decide) rfl) (a := 1) (n := 108) rfl rfl rfl ?_
  refine g_loadA act (gx gp_206 (w := 0x6d03) rfl (by decide) rfl) (a := 0) (n := 109) rfl rfl rfl ?_
  refine r_getf act (gx gp_206 (w := 0x709007004) rfl (by decide) rfl) (n := 112) (ci := 9) (j := 28) (N := 39) rfl rfl rfl rwj.1 (by decide) (v := .int ni) h28 ?_
  refine g_icmpGe act (gx gp_206 (w := 0xb1007308) rfl (by decide) rfl) (tgt := 177) (n := 115) rfl rfl (fun h3 => ?_) (fun h3 => ?_)
  · simp only [i_le] at h3
    refine g_loadA act (gx gp_206 (w := 0xb203) rfl (by decide) rfl) (a := 0) (n := 178) rfl rfl rfl ?_
    refine r_getf act (gx gp_206 (w := 0x300064900b504) rfl (by decide) rfl) (n := 181) (ci := 9) (j := 25) (N := 39) rfl rfl rfl rwj.1 (by decide) (rwj.2 (25, 139, 33, 1295) (by decide)).1 ?_
    refine g_constI act (gx gp_206 (w := 0x4000021e4000021e100000000b801) rfl (by decide) rfl) (n := 184) (x := (1084 : Int32)) (by decide) rfl ?_
    obtain ⟨x_1, w_4, e_2, e_5, hx_3⟩ := hT 1084 (by omega)
    refine r_lald act (gx gp_206 (w := 0xb90d) rfl (by decide) rfl) (n := 185) (j := 1084) rfl (rwj.2 (25, 139, 33, 1295) (by decide)).2 (show (1084 : Int32).toInt = ((1084 : Nat) : Int) from by decide) (show 1084 < 1295 by omega) (v := .long x_1) e_2 ?_
    refine g_constL act (gx gp_206 (w := 0x4000000000000000200000000ba01) rfl (by decide) rfl) (n := 186) (x := 0) (by decide) rfl ?_
    refine g_lcmp act (gx gp_206 (w := 0xbb0c) rfl (by decide) rfl) (n := 187) rfl ?_
    refine g_ifNe act (gx gp_206 (w := 0xc200be1d) rfl (by decide) rfl) (tgt := 194) (n := 190) rfl rfl (fun h8 => ?_) (fun h8 => ?_)
    · simp only [cmpEq, show (0 : Int64).toInt = 0 from by decide] at h8
      refine g_constI act (gx gp_206 (w := 0x4000000040000000100000000c301) rfl (by decide) rfl) (n := 195) (x := (0 : Int32)) (by decide) rfl ?_
      obtain rfl : j9 = N9 := by omega
      obtain ⟨D, hPD, hD9, hD1, hD2, hD3, hD4⟩ := hE
      exact g_retZ hEnd (gx gp_206 (w := 0x23) rfl (by decide) rfl) (by decide) ⟨rfl, Or.inl rfl, ⟨D, _, _, _, _, hPD, hv29, hv30, hFc, hO, by rw [Rat.mul_neg]; exact hD1.neg, by grind, by grind, fun g hg => by
        rcases oq_c T b9 g j9 with q | ⟨x, q1, q2, q3⟩
        · rw [q, Rat.mul_zero]; exact ⟨IsI.zero, by decide, by decide⟩
        · rw [q3]; exact hD4 x q1 q2⟩, hR0, (fun z => by have q9 := hhi z; subst q9; exact hR1), ⟨g131, g132, g133, g134, hT.lng1, hT.lng2⟩, ⟨_, hBz⟩, ⟨_, _, hv7, hv8, htl, htl9⟩, ⟨_, h28⟩, hfr⟩ hk1 hk2
    · simp only [cmpEq, show (0 : Int64).toInt = 0 from by decide] at h8
      refine g_constI act (gx gp_206 (w := 0x40000000c0000000900000000bf01) rfl (by decide) rfl) (n := 191) (x := (1 : Int32)) (by decide) rfl ?_
      refine g_goto act (gx gp_206 (w := 0xc307) rfl (by decide) rfl) (n := 195) rfl ?_
      obtain rfl : j9 = N9 := by omega
      obtain ⟨D, hPD, hD9, hD1, hD2, hD3, hD4⟩ := hE
      exact g_retZ hEnd (gx gp_206 (w := 0x23) rfl (by decide) rfl) (by decide) ⟨rfl, Or.inr rfl, ⟨D, _, _, _, _, hPD, hv29, hv30, hFc, hO, by rw [Rat.mul_neg]; exact hD1.neg, by grind, by grind, fun g hg => by
        rcases oq_c T b9 g j9 with q | ⟨x, q1, q2, q3⟩
        · rw [q, Rat.mul_zero]; exact ⟨IsI.zero, by decide, by decide⟩
        · rw [q3]; exact hD4 x q1 q2⟩, hR0, (fun z => by have q9 := hhi z; subst q9; exact hR1), ⟨g131, g132, g133, g134, hT.lng1, hT.lng2⟩, ⟨_, hBz⟩, ⟨_, _, hv7, hv8, htl, htl9⟩, ⟨_, h28⟩, hfr⟩ hk1 hk2
  · simp only [i_le] at h3
    refine g_loadA act (gx gp_206 (w := 0x7403) rfl (by decide) rfl) (a := 0) (n := 116) rfl rfl rfl ?_
    refine r_getf act (gx gp_206 (w := 0x30006c9007704) rfl (by decide) rfl) (n := 119) (ci := 9) (j := 27) (N := 39) rfl rfl rfl rwj.1 (by decide) (rwj.2 (27, 141, 32, 30) (by decide)).1 ?_
    refine g_loadI act (gx gp_206 (w := 0x1007802) rfl (by decide) rfl) (a := 1) (n := 120) rfl rfl rfl ?_
    obtain ⟨x_6, e_7, hx_8⟩ := hB j9 (by omega)
    refine r_iald act (gx gp_206 (w := 0x791a) rfl (by decide) rfl) (n := 121) (j := j9) rfl (rwj.2 (27, 141, 32, 30) (by decide)).2 hxi (show j9 < 30 by omega) (v := .int x_6) e_7 ?_
    have eb_9 : bI b9 j9 = ((b9 j9 : Nat) : Int) := rfl
    refine g_constI act (gx gp_206 (w := 0x40000002c00000029000000007a01) rfl (by decide) rfl) (n := 122) (x := (5 : Int32)) (by decide) rfl ?_
    refine g_icmpGe act (gx gp_206 (w := 0xab007d08) rfl (by decide) rfl) (tgt := 171) (n := 125) rfl rfl (fun h15 => ?_) (fun h15 => ?_)
    · simp only [i_le, show (5 : Int32).toInt = 5 from by decide] at h15
      refine g_iinc act (gx gp_206 (w := 0x8000000100000100ae09) rfl (by decide) rfl) (a := 1) (i := (1 : Int32)) (n := 174) rfl (by decide) rfl rfl (L2 := [some (.ref 124), some (.int (xi + (1 : Int32)))]) rfl ?_
      have v_10 := iv_addN hxi (show (1 : Int32).toInt = ((1 : Nat) : Int) from by decide) (show (j9 + 1) < 2147483648 by omega)
      refine g_goto act (gx gp_206 (w := 0x6b07) rfl (by decide) rfl) (n := 107) rfl ?_
      exact ih (j9 + 1) (by omega) (by omega) _ _ v_10 rwj hT hB h28 hR0 hR1 g131 g132 g133 g134 hBz hv29 hv30 hv7 hv8 (hO.cong (fun j _ => by show _ = (if b9 j9 < 5 then upQ (oq T b9 j9) (b9 j9) (T (35 * j9 + 34)) else oq T b9 j9) j; rw [if_neg (by omega)])) hfr
    · simp only [i_le, show (5 : Int32).toInt = 5 from by decide] at h15
      refine g_loadA act (gx gp_206 (w := 0x7e03) rfl (by decide) rfl) (a := 0) (n := 126) rfl rfl rfl ?_
      refine r_getf act (gx gp_206 (w := 0x30007c9008104) rfl (by decide) rfl) (n := 129) (ci := 9) (j := 31) (N := 39) rfl rfl rfl rwj.1 (by decide) (rwj.2 (31, 142, 33, 5) (by decide)).1 ?_
      refine g_loadA act (gx gp_206 (w := 0x8203) rfl (by decide) rfl) (a := 0) (n := 130) rfl rfl rfl ?_
      refine r_getf act (gx gp_206 (w := 0x30006c9008504) rfl (by decide) rfl) (n := 133) (ci := 9) (j := 27) (N := 39) rfl rfl rfl rwj.1 (by decide) (rwj.2 (27, 141, 32, 30) (by decide)).1 ?_
      refine g_loadI act (gx gp_206 (w := 0x1008602) rfl (by decide) rfl) (a := 1) (n := 134) rfl rfl rfl ?_
      obtain ⟨x_11, e_12, hx_13⟩ := hB j9 (by omega)
      refine r_iald act (gx gp_206 (w := 0x871a) rfl (by decide) rfl) (n := 135) (j := j9) rfl (rwj.2 (27, 141, 32, 30) (by decide)).2 hxi (show j9 < 30 by omega) (v := .int x_11) e_12 ?_
      have eb_14 : bI b9 j9 = ((b9 j9 : Nat) : Int) := rfl
      refine g_loadA act (gx gp_206 (w := 0x8803) rfl (by decide) rfl) (a := 0) (n := 136) rfl rfl rfl ?_
      refine r_getf act (gx gp_206 (w := 0x3000649008b04) rfl (by decide) rfl) (n := 139) (ci := 9) (j := 25) (N := 39) rfl rfl rfl rwj.1 (by decide) (rwj.2 (25, 139, 33, 1295) (by decide)).1 ?_
      refine g_constI act (gx gp_206 (w := 0x40000011c00000119000000008d01) rfl (by decide) rfl) (n := 141) (x := (35 : Int32)) (by decide) rfl ?_
      refine g_loadI act (gx gp_206 (w := 0x1008e02) rfl (by decide) rfl) (a := 1) (n := 142) rfl rfl rfl ?_
      refine g_imul act (gx gp_206 (w := 0x8f11) rfl (by decide) rfl) (n := 143) rfl ?_
      have v_15 := iv_mulN (show (35 : Int32).toInt = ((35 : Nat) : Int) from by decide) hxi (show (35 * j9) < 2147483648 by omega)
      refine g_constI act (gx gp_206 (w := 0x40000011400000111000000009101) rfl (by decide) rfl) (n := 145) (x := (34 : Int32)) (by decide) rfl ?_
      refine g_iadd act (gx gp_206 (w := 0x920a) rfl (by decide) rfl) (n := 146) rfl ?_
      have v_16 := iv_addN v_15 (show (34 : Int32).toInt = ((34 : Nat) : Int) from by decide) (show ((35 * j9) + 34) < 2147483648 by omega)
      obtain ⟨x_17, w_20, e_18, e_21, hx_19⟩ := hT ((35 * j9) + 34) (by omega)
      refine r_lald act (gx gp_206 (w := 0x930d) rfl (by decide) rfl) (n := 147) (j := ((35 * j9) + 34)) rfl (rwj.2 (25, 139, 33, 1295) (by decide)).2 v_16 (show ((35 * j9) + 34) < 1295 by omega) (v := .long x_17) e_18 ?_
      refine r_last act (gx gp_206 (w := 0x9405) rfl (by decide) rfl) (n := 148) (j := (b9 j9)) rfl (rwj.2 (31, 142, 33, 5) (by decide)).2 hx_13 (show (b9 j9) < 5 by omega) ?_
      have rw_22 := RW.wr (k := 142) (j := (b9 j9)) (v := .long x_17) rwj (Or.inl (by decide))
      have f_23 := hT.ne (k := 142) (j := (b9 j9)) (v := .long x_17) (by decide) (by decide)
      have f_24 := hB.ne (k := 142) (j := (b9 j9)) (v := .long x_17) (by decide)
      have f_25 := (rd_ne hj (k := 142) (j := (b9 j9)) (.long x_17) (Or.inl (by decide))).trans h28
      have f_26 := hR0.ne (k := 142) (j := (b9 j9)) (v := .long x_17) (by decide) (by decide)
      have f_27 := hR1.ne (k := 142) (j := (b9 j9)) (v := .long x_17) (by decide) (by decide)
      have f_28 := g131.ne (k := 142) (j := (b9 j9)) (v := .long x_17) (by decide)
      have f_29 := g132.ne (k := 142) (j := (b9 j9)) (v := .long x_17) (by decide)
      have f_30 := g133.ne (k := 142) (j := (b9 j9)) (v := .long x_17) (by decide)
      have f_31 := g134.ne (k := 142) (j := (b9 j9)) (v := .long x_17) (by decide)
      have f_32 := hBz.ne (k := 142) (j := (b9 j9)) (v := .long x_17) (by decide)
      have f_33 := (rd_ne hj (k := 142) (j := (b9 j9)) (.long x_17) (Or.inl (by decide))).trans hv29
      have f_34 := (rd_ne hj (k := 142) (j := (b9 j9)) (.long x_17) (Or.inl (by decide))).trans hv30
      have f_35 := (rd_ne hj (k := 142) (j := (b9 j9)) (.long x_17) (Or.inl (by decide))).trans hv7
      have f_36 := (rd_ne hj (k := 142) (j := (b9 j9)) (.long x_17) (Or.inl (by decide))).trans hv8
      have fr_37 := hfr.wr (k := 142) (j := (b9 j9)) (.long x_17) (by unfold WD; omega)
      refine g_loadA act (gx gp_206 (w := 0x9503) rfl (by decide) rfl) (a := 0) (n := 149) rfl rfl rfl ?_
      refine r_getf act (gx gp_206 (w := 0x3000809009804) rfl (by decide) rfl) (n := 152) (ci := 9) (j := 32) (N := 39) rfl rfl rfl rw_22.1 (by decide) (rw_22.2 (32, 143, 33, 5) (by decide)).1 ?_
      refine g_loadA act (gx gp_206 (w := 0x9903) rfl (by decide) rfl) (a := 0) (n := 153) rfl rfl rfl ?_
      refine r_getf act (gx gp_206 (w := 0x30006c9009c04) rfl (by decide) rfl) (n := 156) (ci := 9) (j := 27) (N := 39) rfl rfl rfl rw_22.1 (by decide) (rw_22.2 (27, 141, 32, 30) (by decide)).1 ?_
      refine g_loadI act (gx gp_206 (w := 0x1009d02) rfl (by decide) rfl) (a := 1) (n := 157) rfl rfl rfl ?_
      obtain ⟨x_38, e_39, hx_40⟩ := f_24 j9 (by omega)
      refine r_iald act (gx gp_206 (w := 0x9e1a) rfl (by decide) rfl) (n := 158) (j := j9) rfl (rw_22.2 (27, 141, 32, 30) (by decide)).2 hxi (show j9 < 30 by omega) (v := .int x_38) e_39 ?_
      have eb_41 : bI b9 j9 = ((b9 j9 : Nat) : Int) := rfl
      refine g_loadA act (gx gp_206 (w := 0x9f03) rfl (by decide) rfl) (a := 0) (n := 159) rfl rfl rfl ?_
      refine r_getf act (gx gp_206 (w := 0x300068900a204) rfl (by decide) rfl) (n := 162) (ci := 9) (j := 26) (N := 39) rfl rfl rfl rw_22.1 (by decide) (rw_22.2 (26, 140, 33, 1295) (by decide)).1 ?_
      refine g_constI act (gx gp_206 (w := 0x40000011c0000011900000000a401) rfl (by decide) rfl) (n := 164) (x := (35 : Int32)) (by decide) rfl ?_
      refine g_loadI act (gx gp_206 (w := 0x100a502) rfl (by decide) rfl) (a := 1) (n := 165) rfl rfl rfl ?_
      refine g_imul act (gx gp_206 (w := 0xa611) rfl (by decide) rfl) (n := 166) rfl ?_
      have v_42 := iv_mulN (show (35 : Int32).toInt = ((35 : Nat) : Int) from by decide) hxi (show (35 * j9) < 2147483648 by omega)
      refine g_constI act (gx gp_206 (w := 0x4000001140000011100000000a801) rfl (by decide) rfl) (n := 168) (x := (34 : Int32)) (by decide) rfl ?_
      refine g_iadd act (gx gp_206 (w := 0xa90a) rfl (by decide) rfl) (n := 169) rfl ?_
      have v_43 := iv_addN v_42 (show (34 : Int32).toInt = ((34 : Nat) : Int) from by decide) (show ((35 * j9) + 34) < 2147483648 by omega)
      refine r_lald act (gx gp_206 (w := 0xaa0d) rfl (by decide) rfl) (n := 170) (j := ((35 * j9) + 34)) rfl (rw_22.2 (26, 140, 33, 1295) (by decide)).2 v_43 (show ((35 * j9) + 34) < 1295 by omega) (v := .long w_20) ((rd_ne _ _ (Or.inl (by decide))).trans e_21) ?_
      refine r_last act (gx gp_206 (w := 0xab05) rfl (by decide) rfl) (n := 171) (j := (b9 j9)) rfl (rw_22.2 (32, 143, 33, 5) (by decide)).2 hx_40 (show (b9 j9) < 5 by omega) ?_
      have rw_44 := RW.wr (k := 143) (j := (b9 j9)) (v := .long w_20) rw_22 (Or.inl (by decide))
      have f_45 := f_23.ne (k := 143) (j := (b9 j9)) (v := .long w_20) (by decide) (by decide)
      have f_46 := f_24.ne (k := 143) (j := (b9 j9)) (v := .long w_20) (by decide)
      have f_47 := (rd_ne (wr hj 142 (b9 j9) (.long x_17)) (k := 143) (j := (b9 j9)) (.long w_20) (Or.inl (by decide))).trans f_25
      have f_48 := f_26.ne (k := 143) (j := (b9 j9)) (v := .long w_20) (by decide) (by decide)
      have f_49 := f_27.ne (k := 143) (j := (b9 j9)) (v := .long w_20) (by decide) (by decide)
      have f_50 := f_28.ne (k := 143) (j := (b9 j9)) (v := .long w_20) (by decide)
      have f_51 := f_29.ne (k := 143) (j := (b9 j9)) (v := .long w_20) (by decide)
      have f_52 := f_30.ne (k := 143) (j := (b9 j9)) (v := .long w_20) (by decide)
      have f_53 := f_31.ne (k := 143) (j := (b9 j9)) (v := .long w_20) (by decide)
      have f_54 := f_32.ne (k := 143) (j := (b9 j9)) (v := .long w_20) (by decide)
      have f_55 := (rd_ne (wr hj 142 (b9 j9) (.long x_17)) (k := 143) (j := (b9 j9)) (.long w_20) (Or.inl (by decide))).trans f_33
      have f_56 := (rd_ne (wr hj 142 (b9 j9) (.long x_17)) (k := 143) (j := (b9 j9)) (.long w_20) (Or.inl (by decide))).trans f_34
      have f_57 := (rd_ne (wr hj 142 (b9 j9) (.long x_17)) (k := 143) (j := (b9 j9)) (.long w_20) (Or.inl (by decide))).trans f_35
      have f_58 := (rd_ne (wr hj 142 (b9 j9) (.long x_17)) (k := 143) (j := (b9 j9)) (.long w_20) (Or.inl (by decide))).trans f_36
      have f_59 := hO.put (j := (b9 j9)) (Y := (T (35 * j9 + 34))) (rwj.2 (31, 142, 33, 5) (by decide)).2 (rwj.2 (32, 143, 33, 5) (by decide)).2 (by decide) hx_19
      have fr_60 := fr_37.wr (k := 143) (j := (b9 j9)) (.long w_20) (by unfold WD; omega)
      clear rw_22 fr_37 f_23 f_24 f_25 f_26 f_27 f_28 f_29 f_30 f_31 f_32 f_33 f_34 f_35 f_36 hfr hT hB h28 hR0 hR1 g131 g132 g133 g134 hBz hv29 hv30 hv7 hv8
      generalize (wr (wr hj 142 (b9 j9) (.long x_17)) 143 (b9 j9) (.long w_20)) = hs_61 at *
      refine g_iinc act (gx gp_206 (w := 0x8000000100000100ae09) rfl (by decide) rfl) (a := 1) (i := (1 : Int32)) (n := 174) rfl (by decide) rfl rfl (L2 := [some (.ref 124), some (.int (xi + (1 : Int32)))]) rfl ?_
      have v_62 := iv_addN hxi (show (1 : Int32).toInt = ((1 : Nat) : Int) from by decide) (show (j9 + 1) < 2147483648 by omega)
      refine g_goto act (gx gp_206 (w := 0x6b07) rfl (by decide) rfl) (n := 107) rfl ?_
      exact ih (j9 + 1) (by omega) (by omega) _ _ v_62 rw_44 f_45 f_46 f_47 f_48 f_49 f_50 f_51 f_52 f_53 f_54 f_55 f_56 f_57 f_58 (f_59.cong (fun j _ => by show _ = (if b9 j9 < 5 then upQ (oq T b9 j9) (b9 j9) (T (35 * j9 + 34)) else oq T b9 j9) j; rw [if_pos (by omega)])) fr_60

theorem fin_1 {g0 : GG} {bl : Nat} {xs : Nat → Int32} {l : Launch} {wp : va_W} {p : Program} {e : Env} {R : Room} {s : State} {m : MethodId} {args : Array Value} {below : List Frame} {meth : Method} {c : Code} {Q : State → Prop} {kc0 ks0 kc ks f lam KC KS : Nat} {hs : List CE} {tl : Nat → Int} {nl n N9 : Nat} {ou : Int} {T : Nat → Rat} {b9 : Nat → Nat} {ni : Int32} (hni : ni.toInt = (N9 : Int)) (hN : N9 ≤ 30) (hE : Ends tl nl n ou T b9 N9) {hi1 : Nat} {bz : Nat → Int} (hhi : ou ≠ -1 → hi1 = 48) {ct9 cl9 tt9 tl9 : Int64} (hFc : FR ct9 cl9 (-T 1119)) (htl : 0 < tl9.toInt) (htl9 : tl9.toInt ≤ 256) (hf : 7 ≤ R.frames) (hl : 186 ≤ R.locals) (hc : kc ≤ R.cells + kc0) (hsl : ks ≤ R.slots + ks0) (act : Act SSX TBL (gp g0 wp) CLS bl xs D_206 p l s m args meth c) (hEnd : EndN SSX TBL (gp g0 wp) CLS D_206 p l e R s m args below meth c Q kc0 ks0 f lam KC KS (POF hs tl nl n ou)) (hk1 : kc ≤ KC) (hk2 : ks ≤ KS) : ∀ j9 : Nat, j9 ≤ 5 → ∀ (xi : Int32) (hj : List CE) (fA fB : Nat → Int), xi.toInt = (j9 : Int) → RW hj → QArr hj 139 140 1295 T → IArr hj 141 N9 (bI b9) → rd hj 124 28 = .int ni → QRng hj 131 132 0 24 (facA tl nl n ou) → QRng hj 131 132 24 hi1 (facA tl nl n ou) → ALng hj 131 48 → ALng hj 132 48 → ALng hj 133 12 → ALng hj 134 12 → IArr hj 141 30 bz → rd hj 124 29 = .long ct9 → rd hj 124 30 = .long cl9 → rd hj 124 7 = .long tt9 → rd hj 124 8 = .long tl9 → LArr hj 142 5 fA → LArr hj 143 5 fB → (∀ j, j < j9 → fA j = 0 ∧ fB j = 1) → FrS WD hs hj → WpN (gp g0 wp) CLS p l e R s m args below meth c Q D_206.2.2.1 kc0 ks0 80 [some (.ref 124), some (.int xi)] (hj, kc, ks) [] := by
  refine dn (fun j9 hj9 ih => ?_)
  intro xi hj fA fB hxi rwj hT hB h28 hR0 hR1 g131 g132 g133 g134 hBz hv29 hv30 hv7 hv8 hA hA2 hz hfr
  refine g_loadI act (gx gp_206 (w := 0x1005102) rfl (by decide) rfl) (a := 1) (n := 81) rfl rfl rfl ?_
  refine g_constI act (gx gp_206 (w := 0x40000002c00000029000000005201) rfl (by decide) rfl) (n := 82) (x := (5 : Int32)) (by decide) rfl ?_
  refine g_icmpGe act (gx gp_206 (w := 0x69005508) rfl (by decide) rfl) (tgt := 105) (n := 85) rfl rfl (fun h3 => ?_) (fun h3 => ?_)
  · simp only [i_le, show (5 : Int32).toInt = 5 from by decide] at h3
    refine g_constI act (gx gp_206 (w := 0x40000000400000001000000006a01) rfl (by decide) rfl) (n := 106) (x := (0 : Int32)) (by decide) rfl ?_
    refine g_storeI act (gx gp_206 (w := 0x1006b10) rfl (by decide) rfl) (a := 1) (n := 107) rfl rfl (L2 := [some (.ref 124), some (.int (0 : Int32))]) rfl ?_
    obtain rfl : j9 = 5 := by omega
    have hO : QArr hj 142 143 5 (oq T b9 0) := (hA.qarr hA2 (fun j hj => (hz j hj).2)).cong (fun j hj => by show ((fA j : Int) : Rat) = 0; rw [(hz j hj).1]; rfl)
    exact fin_2 hni hN hE hhi hFc htl htl9 hf hl hc hsl act hEnd hk1 hk2 0 (by omega) _ hj rfl rwj hT hB h28 hR0 hR1 g131 g132 g133 g134 hBz hv29 hv30 hv7 hv8 hO hfr
  · simp only [i_le, show (5 : Int32).toInt = 5 from by decide] at h3
    refine g_loadA act (gx gp_206 (w := 0x5603) rfl (by decide) rfl) (a := 0) (n := 86) rfl rfl rfl ?_
    refine r_getf act (gx gp_206 (w := 0x30007c9005904) rfl (by decide) rfl) (n := 89) (ci := 9) (j := 31) (N := 39) rfl rfl rfl rwj.1 (by decide) (rwj.2 (31, 142, 33, 5) (by decide)).1 ?_
    refine g_loadI act (gx gp_206 (w := 0x1005a02) rfl (by decide) rfl) (a := 1) (n := 90) rfl rfl rfl ?_
    refine g_constL act (gx gp_206 (w := 0x40000000000000002000000005b01) rfl (by decide) rfl) (n := 91) (x := 0) (by decide) rfl ?_
    refine r_last act (gx gp_206 (w := 0x5c05) rfl (by decide) rfl) (n := 92) (j := j9) rfl (rwj.2 (31, 142, 33, 5) (by decide)).2 hxi (show j9 < 5 by omega) ?_
    have rw_1 := RW.wr (k := 142) (j := j9) (v := .long (0 : Int64)) rwj (Or.inl (by decide))
    have f_2 := hT.ne (k := 142) (j := j9) (v := .long (0 : Int64)) (by decide) (by decide)
    have f_3 := hB.ne (k := 142) (j := j9) (v := .long (0 : Int64)) (by decide)
    have f_4 := (rd_ne hj (k := 142) (j := j9) (.long (0 : Int64)) (Or.inl (by decide))).trans h28
    have f_5 := hR0.ne (k := 142) (j := j9) (v := .long (0 : Int64)) (by decide) (by decide)
    have f_6 := hR1.ne (k := 142) (j := j9) (v := .long (0 : Int64)) (by decide) (by decide)
    have f_7 := g131.ne (k := 142) (j := j9) (v := .long (0 : Int64)) (by decide)
    have f_8 := g132.ne (k := 142) (j := j9) (v := .long (0 : Int64)) (by decide)
    have f_9 := g133.ne (k := 142) (j := j9) (v := .long (0 : Int64)) (by decide)
    have f_10 := g134.ne (k := 142) (j := j9) (v := .long (0 : Int64)) (by decide)
    have f_11 := hBz.ne (k := 142) (j := j9) (v := .long (0 : Int64)) (by decide)
    have f_12 := (rd_ne hj (k := 142) (j := j9) (.long (0 : Int64)) (Or.inl (by decide))).trans hv29
    have f_13 := (rd_ne hj (k := 142) (j := j9) (.long (0 : Int64)) (Or.inl (by decide))).trans hv30
    have f_14 := (rd_ne hj (k := 142) (j := j9) (.long (0 : Int64)) (Or.inl (by decide))).trans hv7
    have f_15 := (rd_ne hj (k := 142) (j := j9) (.long (0 : Int64)) (Or.inl (by decide))).trans hv8
    have f_16 := hA.put (j := j9) (rwj.2 (31, 142, 33, 5) (by decide)).2 (show (0 : Int64).toInt = (0 : Int) from by decide)
    have f_17 := hA2.ne (k := 142) (j := j9) (v := .long (0 : Int64)) (by decide)
    have fr_18 := hfr.wr (k := 142) (j := j9) (.long (0 : Int64)) (by unfold WD; omega)
    clear rwj hfr hT hB h28 hR0 hR1 g131 g132 g133 g134 hBz hv29 hv30 hv7 hv8 hA hA2
    generalize (wr hj 142 j9 (.long (0 : Int64))) = hs_19 at *
    refine g_loadA act (gx gp_206 (w := 0x5d03) rfl (by decide) rfl) (a := 0) (n := 93) rfl rfl rfl ?_
    refine r_getf act (gx gp_206 (w := 0x3000809006004) rfl (by decide) rfl) (n := 96) (ci := 9) (j := 32) (N := 39) rfl rfl rfl rw_1.1 (by decide) (rw_1.2 (32, 143, 33, 5) (by decide)).1 ?_
    refine g_loadI act (gx gp_206 (w := 0x1006102) rfl (by decide) rfl) (a := 1) (n := 97) rfl rfl rfl ?_
    refine g_constL act (gx gp_206 (w := 0x4000000000000000a000000006201) rfl (by decide) rfl) (n := 98) (x := 1) (by decide) rfl ?_
    refine r_last act (gx gp_206 (w := 0x6305) rfl (by decide) rfl) (n := 99) (j := j9) rfl (rw_1.2 (32, 143, 33, 5) (by decide)).2 hxi (show j9 < 5 by omega) ?_
    have rw_20 := RW.wr (k := 143) (j := j9) (v := .long (1 : Int64)) rw_1 (Or.inl (by decide))
    have f_21 := f_2.ne (k := 143) (j := j9) (v := .long (1 : Int64)) (by decide) (by decide)
    have f_22 := f_3.ne (k := 143) (j := j9) (v := .long (1 : Int64)) (by decide)
    have f_23 := (rd_ne hs_19 (k := 143) (j := j9) (.long (1 : Int64)) (Or.inl (by decide))).trans f_4
    have f_24 := f_5.ne (k := 143) (j := j9) (v := .long (1 : Int64)) (by decide) (by decide)
    have f_25 := f_6.ne (k := 143) (j := j9) (v := .long (1 : Int64)) (by decide) (by decide)
    have f_26 := f_7.ne (k := 143) (j := j9) (v := .long (1 : Int64)) (by decide)
    have f_27 := f_8.ne (k := 143) (j := j9) (v := .long (1 : Int64)) (by decide)
    have f_28 := f_9.ne (k := 143) (j := j9) (v := .long (1 : Int64)) (by decide)
    have f_29 := f_10.ne (k := 143) (j := j9) (v := .long (1 : Int64)) (by decide)
    have f_30 := f_11.ne (k := 143) (j := j9) (v := .long (1 : Int64)) (by decide)
    have f_31 := (rd_ne hs_19 (k := 143) (j := j9) (.long (1 : Int64)) (Or.inl (by decide))).trans f_12
    have f_32 := (rd_ne hs_19 (k := 143) (j := j9) (.long (1 : Int64)) (Or.inl (by decide))).trans f_13
    have f_33 := (rd_ne hs_19 (k := 143) (j := j9) (.long (1 : Int64)) (Or.inl (by decide))).trans f_14
    have f_34 := (rd_ne hs_19 (k := 143) (j := j9) (.long (1 : Int64)) (Or.inl (by decide))).trans f_15
    have f_35 := f_16.ne (k := 143) (j := j9) (v := .long (1 : Int64)) (by decide)
    have f_36 := f_17.put (j := j9) (rw_1.2 (32, 143, 33, 5) (by decide)).2 (show (1 : Int64).toInt = (1 : Int) from by decide)
    have fr_37 := fr_18.wr (k := 143) (j := j9) (.long (1 : Int64)) (by unfold WD; omega)
    clear rw_1 fr_18 f_2 f_3 f_4 f_5 f_6 f_7 f_8 f_9 f_10 f_11 f_12 f_13 f_14 f_15 f_16 f_17
    generalize (wr hs_19 143 j9 (.long (1 : Int64))) = hs_38 at *
    refine g_iinc act (gx gp_206 (w := 0x80000001000001006609) rfl (by decide) rfl) (a := 1) (i := (1 : Int32)) (n := 102) rfl (by decide) rfl rfl (L2 := [some (.ref 124), some (.int (xi + (1 : Int32)))]) rfl ?_
    have v_39 := iv_addN hxi (show (1 : Int32).toInt = ((1 : Nat) : Int) from by decide) (show (j9 + 1) < 2147483648 by omega)
    refine g_goto act (gx gp_206 (w := 0x5007) rfl (by decide) rfl) (n := 80) rfl ?_
    exact ih (j9 + 1) (by omega) (by omega) _ _ _ _ v_39 rw_20 f_21 f_22 f_23 f_24 f_25 f_26 f_27 f_28 f_29 f_30 f_31 f_32 f_33 f_34 f_35 f_36 (fun j h2 => by unfold upI; split <;> first | exact ⟨rfl, rfl⟩ | exact hz j (by omega)) fr_37

theorem fin_0 {g0 : GG} {bl : Nat} {xs : Nat → Int32} {l : Launch} {wp : va_W} {p : Program} {e : Env} {R : Room} {s : State} {m : MethodId} {args : Array Value} {below : List Frame} {meth : Method} {c : Code} {Q : State → Prop} {kc0 ks0 kc ks f lam KC KS : Nat} {hs : List CE} {tl : Nat → Int} {nl n N9 : Nat} {ou : Int} {T : Nat → Rat} {b9 : Nat → Nat} {ni : Int32} (hni : ni.toInt = (N9 : Int)) (hN : N9 ≤ 30) (hE : Ends tl nl n ou T b9 N9) {hi1 : Nat} {bz : Nat → Int} (hhi : ou ≠ -1 → hi1 = 48) (hf : 7 ≤ R.frames) (hl : 186 ≤ R.locals) (hc : kc ≤ R.cells + kc0) (hsl : ks ≤ R.slots + ks0) (act : Act SSX TBL (gp g0 wp) CLS bl xs D_206 p l s m args meth c) (hEnd : EndN SSX TBL (gp g0 wp) CLS D_206 p l e R s m args below meth c Q kc0 ks0 f lam KC KS (POF hs tl nl n ou)) (hk1 : kc ≤ KC) (hk2 : ks ≤ KS) (xi : Int32) (hj : List CE) (fA fB : Nat → Int) : RW hj → QArr hj 139 140 1295 T → IArr hj 141 N9 (bI b9) → rd hj 124 28 = .int ni → QRng hj 131 132 0 24 (facA tl nl n ou) → QRng hj 131 132 24 hi1 (facA tl nl n ou) → ALng hj 131 48 → ALng hj 132 48 → ALng hj 133 12 → ALng hj 134 12 → IArr hj 141 30 bz → LArr hj 142 5 fA → LArr hj 143 5 fB → FrS WD hs hj → WpN (gp g0 wp) CLS p l e R s m args below meth c Q D_206.2.2.1 kc0 ks0 41 [some (.ref 124), some (.int xi)] (hj, kc, ks) [] := by
  intro rwj hT hB h28 hR0 hR1 g131 g132 g133 g134 hBz hA hA2 hfr
  obtain ⟨D, hPD, hD9, hD1, hD2, hD3, hD4⟩ := hE
  have hD0 : D ≠ 0 := by obtain ⟨a, b, c, -, -, -, -, q⟩ := hPD; exact q
  have e99 : ((99000 : Nat) : Rat) = 99000 := rfl
  refine g_loadA act (gx gp_206 (w := 0x2a03) rfl (by decide) rfl) (a := 0) (n := 42) rfl rfl rfl ?_
  refine g_loadA act (gx gp_206 (w := 0x2b03) rfl (by decide) rfl) (a := 0) (n := 43) rfl rfl rfl ?_
  refine r_getf act (gx gp_206 (w := 0x3000649002e04) rfl (by decide) rfl) (n := 46) (ci := 9) (j := 25) (N := 39) rfl rfl rfl rwj.1 (by decide) (rwj.2 (25, 139, 33, 1295) (by decide)).1 ?_
  refine g_constI act (gx gp_206 (w := 0x4000022fc000022f9000000003101) rfl (by decide) rfl) (n := 49) (x := (1119 : Int32)) (by decide) rfl ?_
  obtain ⟨x_1, w_4, e_2, e_5, hx_3⟩ := hT 1119 (by omega)
  refine r_lald act (gx gp_206 (w := 0x320d) rfl (by decide) rfl) (n := 50) (j := 1119) rfl (rwj.2 (25, 139, 33, 1295) (by decide)).2 (show (1119 : Int32).toInt = ((1119 : Nat) : Int) from by decide) (show 1119 < 1295 by omega) (v := .long x_1) e_2 ?_
  refine g_lneg act (gx gp_206 (w := 0x3325) rfl (by decide) rfl) (n := 51) rfl ?_
  refine g_loadA act (gx gp_206 (w := 0x3403) rfl (by decide) rfl) (a := 0) (n := 52) rfl rfl rfl ?_
  refine r_getf act (gx gp_206 (w := 0x3000689003704) rfl (by decide) rfl) (n := 55) (ci := 9) (j := 26) (N := 39) rfl rfl rfl rwj.1 (by decide) (rwj.2 (26, 140, 33, 1295) (by decide)).1 ?_
  refine g_constI act (gx gp_206 (w := 0x4000022fc000022f9000000003a01) rfl (by decide) rfl) (n := 58) (x := (1119 : Int32)) (by decide) rfl ?_
  refine r_lald act (gx gp_206 (w := 0x3b0d) rfl (by decide) rfl) (n := 59) (j := 1119) rfl (rwj.2 (26, 140, 33, 1295) (by decide)).2 (show (1119 : Int32).toInt = ((1119 : Nat) : Int) from by decide) (show 1119 < 1295 by omega) (v := .long w_4) e_5 ?_
  refine n_call tb_pres act hEnd (gx (P := G_call) gp_206 (w := 0xa00000000000081c530000da003e0f) rfl (by decide) rfl) (d' := D_218) rfl (as := [.ref 124, .long (-x_1), .long w_4]) (rest := []) (b_isQ rwj (FR.ngS hx_3 (cost_sm hD0 hD9 hD1 hD2 hD3)) (Sml.neg (cost_sm hD0 hD9 hD1 hD2 hD3))) (show (3 : Nat) = fb 0xa00000000000081c530000da003e0f % 16 by decide) (by show (5 : Nat) ≤ 7; decide) (fun _ => ⟨_, _, rfl, _, shp_at rwj.1, Or.inr (show fb 0xa00000000000081c530000da003e0f >>> 68 = 10 by decide)⟩) (by omega) (by show 8 + (7 + 11) + 29 ≤ R.locals; omega) (by show (0 : Nat) ≤ 8; decide) (by show kc + 0 ≤ _; omega) (by show ks + 0 ≤ _; omega) (fun r9 hs_11 hpo hr9 => ?_) (fun x9 hs9 hx9 hpo => ?_)
  · obtain rfl : r9 = none := hr9.elim (fun q => q.2) (fun q => absurd rfl q.1)
    obtain ⟨-, t_12, w_13, e_14, e_15, hF_16, fr_17⟩ := hpo
    have rw_18 := rwj.fr fr_17 W0_rw
    have f_19 := hT.fr (fun j9 _ => ⟨fr_17.2.2 139 j9 (by unfold W0; omega), fr_17.2.2 140 j9 (by unfold W0; omega)⟩)
    have f_20 := hB.fr (fun j9 _ => fr_17.2.2 141 j9 (by unfold W0; omega))
    have f_21 := rd_fr fr_17 h28 (by unfold W0; omega)
    have f_22 := hR0.fr (fun j9 _ _ => ⟨fr_17.2.2 131 j9 (by unfold W0; omega), fr_17.2.2 132 j9 (by unfold W0; omega)⟩)
    have f_23 := hR1.fr (fun j9 _ _ => ⟨fr_17.2.2 131 j9 (by unfold W0; omega), fr_17.2.2 132 j9 (by unfold W0; omega)⟩)
    have f_24 := g131.fr (fun j9 _ => fr_17.2.2 131 j9 (by unfold W0; omega))
    have f_25 := g132.fr (fun j9 _ => fr_17.2.2 132 j9 (by unfold W0; omega))
    have f_26 := g133.fr (fun j9 _ => fr_17.2.2 133 j9 (by unfold W0; omega))
    have f_27 := g134.fr (fun j9 _ => fr_17.2.2 134 j9 (by unfold W0; omega))
    have f_28 := hBz.fr (fun j9 _ => fr_17.2.2 141 j9 (by unfold W0; omega))
    have f_29 := hA.fr (fun j9 _ => fr_17.2.2 142 j9 (by unfold W0; omega))
    have f_30 := hA2.fr (fun j9 _ => fr_17.2.2 143 j9 (by unfold W0; omega))
    have fr_31 := hfr.tr (fr_17.mono (fun k9 j9 h9 => by unfold W0 at h9; unfold WD; omega))
    clear rwj hT hB h28 hR0 hR1 g131 g132 g133 g134 hBz hA hA2 hfr
    show WpN (gp g0 wp) CLS p l e R s m args below meth c Q D_206.2.2.1 kc0 ks0 62 [some (.ref 124), some (.int xi)] (hs_11, kc, ks) []
    refine g_loadA act (gx gp_206 (w := 0x3f03) rfl (by decide) rfl) (a := 0) (n := 63) rfl rfl rfl ?_
    refine g_loadA act (gx gp_206 (w := 0x4003) rfl (by decide) rfl) (a := 0) (n := 64) rfl rfl rfl ?_
    refine r_getf act (gx gp_206 (w := 0x20001c9004304) rfl (by decide) rfl) (n := 67) (ci := 9) (j := 7) (N := 39) rfl rfl rfl rw_18.1 (by decide) (v := .long t_12) e_14 ?_
    refine r_putf act (gx gp_206 (w := 0x2000749004613) rfl (by decide) rfl) (n := 70) (ci := 9) (j := 29) (N := 39) rfl rfl rfl rw_18.1 (by decide) (Or.inr (Or.inr (Or.inl ⟨rfl, _, rfl⟩))) ?_
    have rw_32 := RW.wr (k := 124) (j := 29) (v := .long t_12) rw_18 (Or.inr (by decide))
    have f_33 := f_19.ne (k := 124) (j := 29) (v := .long t_12) (by decide) (by decide)
    have f_34 := f_20.ne (k := 124) (j := 29) (v := .long t_12) (by decide)
    have f_35 := (rd_ne hs_11 (k := 124) (j := 29) (.long t_12) (Or.inr (by decide))).trans f_21
    have f_36 := f_22.ne (k := 124) (j := 29) (v := .long t_12) (by decide) (by decide)
    have f_37 := f_23.ne (k := 124) (j := 29) (v := .long t_12) (by decide) (by decide)
    have f_38 := f_24.ne (k := 124) (j := 29) (v := .long t_12) (by decide)
    have f_39 := f_25.ne (k := 124) (j := 29) (v := .long t_12) (by decide)
    have f_40 := f_26.ne (k := 124) (j := 29) (v := .long t_12) (by decide)
    have f_41 := f_27.ne (k := 124) (j := 29) (v := .long t_12) (by decide)
    have f_42 := f_28.ne (k := 124) (j := 29) (v := .long t_12) (by decide)
    have f_43 := f_29.ne (k := 124) (j := 29) (v := .long t_12) (by decide)
    have f_44 := f_30.ne (k := 124) (j := 29) (v := .long t_12) (by decide)
    have f_45 := (rd_ne hs_11 (k := 124) (j := 29) (.long t_12) (Or.inr (by decide))).trans e_14
    have f_46 := (rd_ne hs_11 (k := 124) (j := 29) (.long t_12) (Or.inr (by decide))).trans e_15
    have f_47 := rd_same (j := 29) (v := .long t_12) rw_18.1
    have fr_48 := fr_31.wr (k := 124) (j := 29) (.long t_12) (by unfold WD; omega)
    clear rw_18 fr_31 f_19 f_20 f_21 f_22 f_23 f_24 f_25 f_26 f_27 f_28 f_29 f_30 e_14 e_15
    generalize (wr hs_11 124 29 (.long t_12)) = hs_49 at *
    refine g_loadA act (gx gp_206 (w := 0x4703) rfl (by decide) rfl) (a := 0) (n := 71) rfl rfl rfl ?_
    refine g_loadA act (gx gp_206 (w := 0x4803) rfl (by decide) rfl) (a := 0) (n := 72) rfl rfl rfl ?_
    refine r_getf act (gx gp_206 (w := 0x2000209004b04) rfl (by decide) rfl) (n := 75) (ci := 9) (j := 8) (N := 39) rfl rfl rfl rw_32.1 (by decide) (v := .long w_13) f_46 ?_
    refine r_putf act (gx gp_206 (w := 0x2000789004e13) rfl (by decide) rfl) (n := 78) (ci := 9) (j := 30) (N := 39) rfl rfl rfl rw_32.1 (by decide) (Or.inr (Or.inr (Or.inl ⟨rfl, _, rfl⟩))) ?_
    have rw_50 := RW.wr (k := 124) (j := 30) (v := .long w_13) rw_32 (Or.inr (by decide))
    have f_51 := f_33.ne (k := 124) (j := 30) (v := .long w_13) (by decide) (by decide)
    have f_52 := f_34.ne (k := 124) (j := 30) (v := .long w_13) (by decide)
    have f_53 := (rd_ne hs_49 (k := 124) (j := 30) (.long w_13) (Or.inr (by decide))).trans f_35
    have f_54 := f_36.ne (k := 124) (j := 30) (v := .long w_13) (by decide) (by decide)
    have f_55 := f_37.ne (k := 124) (j := 30) (v := .long w_13) (by decide) (by decide)
    have f_56 := f_38.ne (k := 124) (j := 30) (v := .long w_13) (by decide)
    have f_57 := f_39.ne (k := 124) (j := 30) (v := .long w_13) (by decide)
    have f_58 := f_40.ne (k := 124) (j := 30) (v := .long w_13) (by decide)
    have f_59 := f_41.ne (k := 124) (j := 30) (v := .long w_13) (by decide)
    have f_60 := f_42.ne (k := 124) (j := 30) (v := .long w_13) (by decide)
    have f_61 := f_43.ne (k := 124) (j := 30) (v := .long w_13) (by decide)
    have f_62 := f_44.ne (k := 124) (j := 30) (v := .long w_13) (by decide)
    have f_63 := (rd_ne hs_49 (k := 124) (j := 30) (.long w_13) (Or.inr (by decide))).trans f_45
    have f_64 := (rd_ne hs_49 (k := 124) (j := 30) (.long w_13) (Or.inr (by decide))).trans f_46
    have f_65 := (rd_ne hs_49 (k := 124) (j := 30) (.long w_13) (Or.inr (by decide))).trans f_47
    have f_66 := rd_same (j := 30) (v := .long w_13) rw_32.1
    have fr_67 := fr_48.wr (k := 124) (j := 30) (.long w_13) (by unfold WD; omega)
    clear rw_32 fr_48 f_33 f_34 f_35 f_36 f_37 f_38 f_39 f_40 f_41 f_42 f_43 f_44 f_45 f_46 f_47
    generalize (wr hs_49 124 30 (.long w_13)) = hs_68 at *
    refine g_constI act (gx gp_206 (w := 0x40000000400000001000000004f01) rfl (by decide) rfl) (n := 79) (x := (0 : Int32)) (by decide) rfl ?_
    refine g_storeI act (gx gp_206 (w := 0x1005010) rfl (by decide) rfl) (a := 1) (n := 80) rfl rfl (L2 := [some (.ref 124), some (.int (0 : Int32))]) rfl ?_
    exact fin_1 hni hN ⟨D, hPD, hD9, hD1, hD2, hD3, hD4⟩ hhi hF_16 hF_16.pos (by have q := hF_16.2; have q2 := Bd.den (L := 256) (X := 99000) (q := -T 1119) ⟨⟨D, by omega, hD9, by rw [Rat.mul_neg]; exact hD1.neg⟩, by constructor <;> grind⟩; omega) hf hl hc hsl act hEnd hk1 hk2 0 (by omega) _ _ _ _ rfl rw_50 f_51 f_52 f_53 f_54 f_55 f_56 f_57 f_58 f_59 f_60 f_65 f_66 f_63 f_64 f_61 f_62 (fun j h => absurd h (by omega)) fr_67
  · exact absurd hpo.1 (by omega)

theorem bz_nn {T : Nat → Rat} {bz : Nat → Int} {r : Nat} {S : Nat → RS9} {gd : Nat} {ct : Nat → Rat} (h : TIf T bz r S gd ct) {x : Nat} (hx : x < r + 1) : 0 ≤ bz x := by
  obtain ⟨t1, t2, t3, t4, t5, t6, t7⟩ := h
  by_cases z : x = r
  · rw [z, t7]; omega
  · rw [t6 x (by omega)]; split <;> omega

theorem b_finds {g0 : GG} {bl : Nat} {xs : Nat → Int32} {l : Launch} {hs : List CE} {tl wl dm lm em cp : Nat → Int} {oi : Int32} {nl n ng : Nat} {ou : Int} (hoi : oi.toInt = ou) (hn0 : tl 0 = (n : Int) + 1) (hnl : tl 2 = (nl : Int)) (hng : tl 3 = (ng : Int)) (hG : NG tl nl n ou) (hn5 : ng ≤ 5) (hat : ∀ g, g < ng → 0 ≤ tl (17 + g) ∧ tl (17 + g) ≤ (n : Int)) (hdm : ∀ j, 0 ≤ dm j ∧ dm j ≤ 220) (hlm : ∀ j, 0 ≤ lm j ∧ lm j ≤ 100001) (hem : ∀ j, 0 ≤ em j ∧ em j ≤ 100001) (hcp : ∀ j, 0 ≤ cp j ∧ cp j ≤ 200) (hwl : ∀ g, g < ng → 0 ≤ wl (12 + g) ∧ wl (12 + g) ≤ 99) (rw0 : RW hs) (hTo : IArr hs 125 46 tl) (hW : IArr hs 127 39 wl) (hD : IArr hs 135 4 dm) (hLi : IArr hs 136 6 lm) (hEm : IArr hs 137 6 em) (hCp : IArr hs 138 5 cp) (h24 : rd hs 124 24 = .int oi) {bz : Nat → Int} (hB : IArr hs 141 30 bz) (h131 : ALng hs 131 48) (h132 : ALng hs 132 48) (h133 : ALng hs 133 12) (h134 : ALng hs 134 12) (h139 : ALng hs 139 1295) (h140 : ALng hs 140 1295) (h142 : ALng hs 142 5) (h143 : ALng hs 143 5) : BodyN SSX TBL g0 CLS bl xs l D_206 7 186 0 0 [.ref 124] hs (POF hs tl nl n ou) := by
  intro wp p e R s m args below meth c Q kc0 ks0 kc ks act hf hl hc hsl hEnd
  have hLd : Laid tl dm lm em cp nl n ng ou (facA tl nl n ou) := ⟨hG, hn5, hat, hdm, hlm, hem, hcp, fun j hj => if_pos hj, fun _ j h1 _ => if_neg (by omega)⟩
  have hG2 := hG
  obtain ⟨hn1, hn3, hq6, hN9, hC9, ho9⟩ := hG2
  show WpN (gp g0 wp) CLS p l e R s m args below meth c Q D_206.2.2.1 kc0 ks0 0 [some (.ref 124), none] (hs, kc, ks) []
  refine g_loadA act (gx gp_206 (w := 0x103) rfl (by decide) rfl) (a := 0) (n := 1) rfl rfl rfl ?_
  refine g_loadA act (gx gp_206 (w := 0x203) rfl (by decide) rfl) (a := 0) (n := 2) rfl rfl rfl ?_
  refine r_getf act (gx gp_206 (w := 0x609000504) rfl (by decide) rfl) (n := 5) (ci := 9) (j := 24) (N := 39) rfl rfl rfl rw0.1 (by decide) (v := .int oi) h24 ?_
  refine n_call tb_pres act hEnd (gx (P := G_call) gp_206 (w := 0xa000000000000808220000e700080f) rfl (by decide) rfl) (d' := D_231) rfl (as := [.ref 124, .int oi]) (rest := []) (b_all hoi hn0 hnl hG rw0 hTo h131 h132 h133 h134) (show (2 : Nat) = fb 0xa000000000000808220000e700080f % 16 by decide) (by show (2 : Nat) ≤ 2; decide) (fun _ => ⟨_, _, rfl, _, shp_at rw0.1, Or.inr (show fb 0xa000000000000808220000e700080f >>> 68 = 10 by decide)⟩) (by omega) (by show 8 + (2 + 11) + 148 ≤ R.locals; omega) (by show (0 : Nat) ≤ 8; decide) (by show kc + 0 ≤ _; omega) (by show ks + 0 ≤ _; omega) (fun r9 hs_8 hpo hr9 => ?_) (fun x9 hs9 hx9 hpo => ?_)
  · obtain rfl : r9 = none := hr9.elim (fun q => q.2) (fun q => absurd rfl q.1)
    obtain ⟨-, hR_1, hR_2, h_3, h_4, h_5, h_6, fr_9⟩ := hpo
    have rw_10 := rw0.fr fr_9 WA_rw
    have f_11 := hTo.fr (fun j9 _ => fr_9.2.2 125 j9 (by unfold WA; omega))
    have f_12 := hW.fr (fun j9 _ => fr_9.2.2 127 j9 (by unfold WA; omega))
    have f_13 := hD.fr (fun j9 _ => fr_9.2.2 135 j9 (by unfold WA; omega))
    have f_14 := hLi.fr (fun j9 _ => fr_9.2.2 136 j9 (by unfold WA; omega))
    have f_15 := hEm.fr (fun j9 _ => fr_9.2.2 137 j9 (by unfold WA; omega))
    have f_16 := hCp.fr (fun j9 _ => fr_9.2.2 138 j9 (by unfold WA; omega))
    have f_17 := rd_fr fr_9 h24 (by unfold WA; omega)
    have f_18 := hB.fr (fun j9 _ => fr_9.2.2 141 j9 (by unfold WA; omega))
    have f_19 := h139.fr (fun j9 _ => fr_9.2.2 139 j9 (by unfold WA; omega))
    have f_20 := h140.fr (fun j9 _ => fr_9.2.2 140 j9 (by unfold WA; omega))
    have f_21 := h142.fr (fun j9 _ => fr_9.2.2 142 j9 (by unfold WA; omega))
    have f_22 := h143.fr (fun j9 _ => fr_9.2.2 143 j9 (by unfold WA; omega))
    have fr_23 := (FrS.rf WD hs).tr (fr_9.mono (fun k9 j9 h9 => by unfold WA at h9; unfold WD; omega))
    have hR_7 := facR1 hR_2
    clear hTo hW hD hLi hEm hCp h24 hB h131 h132 h133 h134 h139 h140 h142 h143
    show WpN (gp g0 wp) CLS p l e R s m args below meth c Q D_206.2.2.1 kc0 ks0 8 [some (.ref 124), none] (hs_8, kc, ks) []
    refine g_loadA act (gx gp_206 (w := 0x903) rfl (by decide) rfl) (a := 0) (n := 9) rfl rfl rfl ?_
    refine n_call tb_pres act hEnd (gx (P := G_call) gp_206 (w := 0xa000000000000810110000ea000c0f) rfl (by decide) rfl) (d' := D_234) rfl (as := [.ref 124]) (rest := []) (b_rows (nn := n + 1) (lam9 := lamA tl nl n ou) (ct := fun g => ((wl (12 + g) : Int) : Rat)) hoi (by omega) (by omega) hnl hq6 (by omega) hng hn5 (fun g hg => by have := hat g hg; omega) hdm hlm hem hcp (laid_F hLd).1 (laid_F hLd).2 (lam_ok hG).1 (lam_ok hG).2.1 (fun z => if_neg z) (fun g _ => rfl) hwl rw_10 f_11 f_12 f_13 f_14 f_15 f_16 hR_1 hR_7 f_17 f_18 f_19 f_20) (show (1 : Nat) = fb 0xa000000000000810110000ea000c0f % 16 by decide) (by show (1 : Nat) ≤ 4; decide) (fun _ => ⟨_, _, rfl, _, shp_at rw_10.1, Or.inr (show fb 0xa000000000000810110000ea000c0f >>> 68 = 10 by decide)⟩) (by omega) (by show 8 + (4 + 11) + 163 ≤ R.locals; omega) (by show (0 : Nat) ≤ 8; decide) (by show kc + 0 ≤ _; omega) (by show ks + 0 ≤ _; omega) (fun r9 hs_32 hpo hr9 => ?_) (fun x9 hs9 hx9 hpo => ?_)
    · obtain rfl : r9 = none := hr9.elim (fun q => q.2) (fun q => absurd rfl q.1)
      obtain ⟨-, T_24, bz_25, ri_26, hA_27, hb_28, hI_29, h8_30, hri_31, fr_33⟩ := hpo
      have rw_34 := rw_10.fr fr_33 WC_rw
      have f_35 := f_11.fr (fun j9 _ => fr_33.2.2 125 j9 (by unfold WC; omega))
      have f_36 := f_12.fr (fun j9 _ => fr_33.2.2 127 j9 (by unfold WC; omega))
      have f_37 := f_13.fr (fun j9 _ => fr_33.2.2 135 j9 (by unfold WC; omega))
      have f_38 := f_14.fr (fun j9 _ => fr_33.2.2 136 j9 (by unfold WC; omega))
      have f_39 := f_15.fr (fun j9 _ => fr_33.2.2 137 j9 (by unfold WC; omega))
      have f_40 := f_16.fr (fun j9 _ => fr_33.2.2 138 j9 (by unfold WC; omega))
      have f_41 := rd_fr fr_33 f_17 (by unfold WC; omega)
      have f_42 := f_21.fr (fun j9 _ => fr_33.2.2 142 j9 (by unfold WC; omega))
      have f_43 := f_22.fr (fun j9 _ => fr_33.2.2 143 j9 (by unfold WC; omega))
      have f_44 := hR_1.fr (fun j9 _ _ => ⟨fr_33.2.2 131 j9 (by unfold WC; omega), fr_33.2.2 132 j9 (by unfold WC; omega)⟩)
      have f_45 := hR_7.fr (fun j9 _ _ => ⟨fr_33.2.2 131 j9 (by unfold WC; omega), fr_33.2.2 132 j9 (by unfold WC; omega)⟩)
      have f_46 := h_3.fr (fun j9 _ => fr_33.2.2 131 j9 (by unfold WC; omega))
      have f_47 := h_4.fr (fun j9 _ => fr_33.2.2 132 j9 (by unfold WC; omega))
      have f_48 := h_5.fr (fun j9 _ => fr_33.2.2 133 j9 (by unfold WC; omega))
      have f_49 := h_6.fr (fun j9 _ => fr_33.2.2 134 j9 (by unfold WC; omega))
      have fr_50 := fr_23.tr (fr_33.mono (fun k9 j9 h9 => by unfold WC at h9; unfold WD; omega))
      clear rw_10 f_11 f_12 f_13 f_14 f_15 f_16 f_17 f_18 f_19 f_20 f_21 f_22 hR_1 hR_7 h_3 h_4 h_5 h_6 fr_23
      show WpN (gp g0 wp) CLS p l e R s m args below meth c Q D_206.2.2.1 kc0 ks0 12 [some (.ref 124), none] (hs_32, kc, ks) []
      refine g_loadA act (gx gp_206 (w := 0xd03) rfl (by decide) rfl) (a := 0) (n := 13) rfl rfl rfl ?_
      refine n_call tb_pres act hEnd (gx (P := G_call) gp_206 (w := 0xa000000000000c08110000be00100f) rfl (by decide) rfl) (d' := D_190) rfl (as := [.ref 124]) (rest := []) (b_comes rw_34 hA_27) (show (1 : Nat) = fb 0xa000000000000c08110000be00100f % 16 by decide) (by show (1 : Nat) ≤ 2; decide) (fun _ => ⟨_, _, rfl, _, shp_at rw_34.1, Or.inr (show fb 0xa000000000000c08110000be00100f >>> 68 = 10 by decide)⟩) (by omega) (by show 8 + (2 + 11) + 24 ≤ R.locals; omega) (by show (0 : Nat) ≤ 8; decide) (by show kc + 0 ≤ _; omega) (by show ks + 0 ≤ _; omega) (fun r9 h3 hpo hr9 => ?_) (fun x9 hs9 hx9 hpo => ?_)
      · obtain ⟨-, rfl, c2, C2, rfl, y1, y2, y3, y4⟩ := hpo
        show WpN (gp g0 wp) CLS p l e R s m args below meth c Q D_206.2.2.1 kc0 ks0 16 [some (.ref 124), none] (hs_32, kc, ks) [.int c2]
        refine g_storeI act (gx gp_206 (w := 0x1001110) rfl (by decide) rfl) (a := 1) (n := 17) rfl rfl (L2 := [some (.ref 124), some (.int c2)]) rfl ?_
        have hcc := can_t hLd hI_29
        have hSy := sys_t (cost := fun g => if g < ng then wl (12 + g) else 0) hLd (fun g => by show 0 ≤ (if g < ng then wl (12 + g) else 0) ∧ (if g < ng then wl (12 + g) else 0) ≤ 99; split; exact hwl g (by assumption); omega) (fun g hg => by show _ = (((if g < ng then wl (12 + g) else 0) : Int) : Rat); rw [if_pos hg]) hI_29
        have hN28 := hSy.1.2.2.1
        have hfr9 := fr_50
        refine finds_loop (hs := hs_32) (N9 := ng + (fl ou nl).length + 1) (bi_ok hSy) (by omega) hri_31 h8_30 act hEnd (by omega) (by omega) (by omega) (by omega) (fun T9 b9 hj ci hRI hno rwj hT9 hB9 hfw => ?_) T_24 (fun i => (bz_25 i).toNat) (RI.first hcc) hs_32 c2 C2 rw_34 hA_27 (fun x hx => by
          obtain ⟨xx, z1, z2⟩ := hb_28 x (by omega)
          have z3 := hcc.1 x hx
          refine ⟨xx, z1, ?_⟩
          rw [z2]
          show bz_25 x = (((bz_25 x).toNat : Nat) : Int)
          have z4 : (bz_25 x).toNat < 34 ∨ (100 ≤ (bz_25 x).toNat ∧ (bz_25 x).toNat < 200) := z3
          have z5 := bz_nn hI_29 (show x < ng + (fl ou nl).length + 1 from hx)
          omega) (FrS.rf _ _) y1 y2 y3 y4
        have hE := ends_t (cost := fun g => if g < ng then wl (12 + g) else 0) hLd (fun g => by show 0 ≤ (if g < ng then wl (12 + g) else 0) ∧ (if g < ng then wl (12 + g) else 0) ≤ 99; split; exact hwl g (by assumption); omega) (fun g hg => by show _ = (((if g < ng then wl (12 + g) else 0) : Int) : Rat); rw [if_pos hg]) hI_29 hRI
        obtain ⟨fA, hA⟩ := LArr.any (ALng.fr f_42 (fun j9 _ => hfw.2.2 142 j9 (by unfold W2 W1; omega)))
        obtain ⟨fB, hA2⟩ := LArr.any (ALng.fr f_43 (fun j9 _ => hfw.2.2 143 j9 (by unfold W2 W1; omega)))
        refine n_ints (k := 141) (N := 30) (rwj.2 (27, 141, 32, 30) (by decide)).2 (fun hint => ?_)
        obtain ⟨bz9, hbz9⟩ := IArr.start hint
        exact fin_0 (N9 := ng + (fl ou nl).length + 1) hri_31 (by omega) hE (fun z => if_neg z) (by omega) (by omega) (by omega) (by omega) act hEnd (by omega) (by omega) ci hj fA fB rwj hT9 hB9 ((hfw.2.2 124 28 (by unfold W2 W1; omega)).trans h8_30) (f_44.fr (fun j9 _ _ => ⟨hfw.2.2 131 j9 (by unfold W2 W1; omega), hfw.2.2 132 j9 (by unfold W2 W1; omega)⟩)) (f_45.fr (fun j9 _ _ => ⟨hfw.2.2 131 j9 (by unfold W2 W1; omega), hfw.2.2 132 j9 (by unfold W2 W1; omega)⟩)) (f_46.fr (fun j9 _ => hfw.2.2 131 j9 (by unfold W2 W1; omega))) (f_47.fr (fun j9 _ => hfw.2.2 132 j9 (by unfold W2 W1; omega))) (f_48.fr (fun j9 _ => hfw.2.2 133 j9 (by unfold W2 W1; omega))) (f_49.fr (fun j9 _ => hfw.2.2 134 j9 (by unfold W2 W1; omega))) hbz9 hA hA2 (hfr9.tr (hfw.mono (fun k9 j9 h9 => by unfold W2 W1 at h9; unfold WD; omega)))
      · exact absurd hpo.1 (by omega)
    · exact absurd hpo.1 (by omega)
  · exact absurd hpo.1 (by omega)
