/-! remember, given that a full list can lose its first change. -/
def RemP : Prop := ∀ (g0 : GG) (bl : Nat) (xs : Nat → Int32) (l : Launch) (hs : List CE) (R : List Nat) (k : Nat) (n9 : Int32), TYg g0 → HTy KC R hs → InvC R hs → R[k]? = some 401 → rd hs k 1 = .int n9 → n9.toInt = 10 → BodyN SSX TBL g0 CLS bl xs l D_300 3 90 0 0 [.ref k, .int 0] hs (fun kd r h2 => kd = 0 ∧ (∃ x : Nat, r = some (.ref x)) ∧ LSX R hs h2 ∧ InvL R h2 ∧ ∃ n2 : Int32, rd h2 k 1 = .int n2 ∧ n2.toInt ≤ 9)
theorem b_siz {g0 : GG} {bl : Nat} {xs : Nat → Int32} {l : Launch} {hs : List CE} {k : Nat} {n9 : Int32} (hk : shp hs k = some (10, 3)) (e1 : rd hs k 1 = .int n9) : BodyN SSX TBL g0 CLS bl xs l D_301 0 0 0 0 [.ref k] hs (fun kd r h2 => kd = 0 ∧ hs = h2 ∧ r = some (.int n9)) := by
  intro wp p e R s m args below meth c Q kc0 ks0 kc ks act hf hl hc hsl hEnd
  show WpN (gp g0 wp) CLS p l e R s m args below meth c Q D_301.2.2.1 kc0 ks0 0 [some (.ref k)] (hs, kc, ks) []
  refine g_loadA act (gx gp_301 (w := 0x103) rfl (by decide) rfl) (a := 0) (n := 1) rfl rfl rfl ?_
  refine r_getf act (gx gp_301 (w := 0x4a000404) rfl (by decide) rfl) (n := 4) (ci := 10) (j := 1) (N := 3) rfl rfl rfl hk (by decide) (v := .int n9) e1 ?_
  exact g_retI hEnd (gx gp_301 (w := 0x2f) rfl (by decide) rfl) ⟨rfl, rfl, rfl⟩ (by show kc ≤ kc + 0; omega) (by show ks ≤ ks + 0; omega)

theorem sh_51 (hRem : RemP) : SemC KC InvC ch_51 := by
  refine ⟨D_51, rfl, rfl, fun g0 bl xs l hs R0 σ as hTY hT hInv hlen hE hA hRg => ?_⟩
  obtain ⟨v0, S0, rfl, m0, v1, S1, rfl, m1, hz⟩ := hA
  have hz : S1 = [] := hz
  subst hz
  obtain ⟨kp, rfl, hkp, -⟩ := (m0.rf3 rfl).one rfl
  have hkp : R0[kp]? = some 1 := hkp
  obtain ⟨ke, rc, rfl, hke, hrc0, hrc⟩ := m1.rf3 rfl
  obtain ⟨r20, r24⟩ : 20 ≤ rc ∧ rc ≤ 24 := by
    have hrc : (Nat.beq 20 rc || (Nat.beq 21 rc || (Nat.beq 22 rc || (Nat.beq 23 rc || (Nat.beq 24 rc || false))))) = true := by
      have h9 : inG KC 1000 rc = true := hrc
      have h8 : ([20, 21, 22, 23, 24] : List Nat).any (fun x => Nat.beq x rc) = true := h9
      exact h8
    rcases (Bool.or_eq_true _ _).mp hrc with h | h
    · have := Nat.eq_of_beq_eq_true h; omega
    rcases (Bool.or_eq_true _ _).mp h with h | h
    · have := Nat.eq_of_beq_eq_true h; omega
    rcases (Bool.or_eq_true _ _).mp h with h | h
    · have := Nat.eq_of_beq_eq_true h; omega
    rcases (Bool.or_eq_true _ _).mp h with h | h
    · have := Nat.eq_of_beq_eq_true h; omega
    rcases (Bool.or_eq_true _ _).mp h with h | h
    · have := Nat.eq_of_beq_eq_true h; omega
    · cases h
  obtain ⟨d5, hd5, -, hb30⟩ := sc30_0 (handsB_KC invC_KC)
  obtain rfl : D_30 = d5 := Option.some.inj ((show mdx 30 = some D_30 from rfl).symm.trans hd5)
  obtain ⟨k, e_k, rk⟩ := ty_ref (r2 := 401) (j := 4) hT hkp (by decide) (by decide) (Or.inl rfl) rfl (by decide)
  have hk : shp hs k = some (10, 3) := ty_shp hT rk (by decide) rfl rfl
  obtain ⟨n9, m9, e1, -, n0, n10, -⟩ := hInv.2.2 k rk
  have hlen : hs.length + 3 ≤ 6999999999999 := hlen
  intro wp p e R s m args below meth c Q kc0 ks0 kc ks act hf hl hc hsl hEnd
  have hf : 5 ≤ R.frames := hf
  have hl : 120 ≤ R.locals := hl
  have hc : kc + 3 ≤ R.cells + kc0 := hc
  have hsl : ks + 11 * 3 ≤ R.slots + ks0 := hsl
  have hTY : TYg (gp g0 wp) := hTY
  have t21 : ∀ (R1 : List Nat) (h1 : List CE), HX KC InvC R0 hs R1 h1 → h1.length ≤ hs.length → (∀ q ∈ KC.2.2, rd h1 q.2.1 q.2.2 = rd hs q.2.1 q.2.2) → (∃ n1 : Int32, rd h1 k 1 = .int n1 ∧ n1.toInt ≤ 9) → WpN (gp g0 wp) CLS p l e R s m args below meth c Q D_51.2.2.1 kc0 ks0 21 [some (.ref kp), some (.ref ke)] (h1, kc, ks) [] := by
    intro R1 h1 hX ln1 rg1 hn1
    obtain ⟨n1, e11, h19⟩ := hn1
    have hkp1 := hX.2.1 kp 1 hkp
    obtain ⟨k1, e_k1, rk1⟩ := ty_ref (r2 := 401) (j := 4) hX.1 hkp1 (by decide) (by decide) (Or.inl rfl) rfl (by decide)
    obtain rfl := hX.2.2.2.2.1 k k1 (hX.2.1 _ _ rk) rk1
    refine g_loadA act (gx gp_51 (w := 0x1603) rfl (by decide) rfl) (a := 0) (n := 22) rfl rfl rfl ?_
    refine r_getf act (gx gp_51 (w := 0x3000100001904) rfl (by decide) rfl) (n := 25) (ci := 0) (j := 4) (N := 7) rfl rfl rfl (ty_shp hX.1 hkp1 (by decide) rfl rfl) (by decide) (v := .ref k) e_k1 ?_
    refine g_loadA act (gx gp_51 (w := 0x1001a03) rfl (by decide) rfl) (a := 1) (n := 26) rfl rfl rfl ?_
    refine n_call tb_pres act hEnd (gx (P := G_call) gp_51 (w := 0xb000000000000c0822000125001d0f) rfl (by decide) rfl) (d' := D_293) rfl (f' := 4) (lam' := 87) (mc := 1) (ms := 11) (as := [.ref k, .ref ke]) (rest := []) (b_addL (n9 := n1) (hs := h1) hTY (by omega) hX.1 hX.2.2.2 rk1 e11 h19 (hX.2.1 _ _ hke) r20 r24) (show (2 : Nat) = fb 0xb000000000000c0822000125001d0f % 16 by decide) (by show (2 : Nat) ≤ 2; decide) (fun _ => ⟨_, _, rfl, _, shp_at (ty_shp hX.1 rk1 (by decide) (a := 10) (b := 3) rfl rfl), Or.inr (show fb 0xb000000000000c0822000125001d0f >>> 68 = 11 by decide)⟩) (by omega) (by show 8 + (2 + 11) + 87 ≤ R.locals; omega) (by show (0 : Nat) ≤ 8; decide) (by show kc + 1 ≤ _; omega) (by show ks + 11 ≤ _; omega) (fun r9 h2 hpo hr9 => ?_) (fun x9 hs9 hx9 hpo => ?_)
    · obtain ⟨-, rfl, R2, hX2, ln2, rg2⟩ := hpo
      have ln2 : h2.length ≤ h1.length + 1 := ln2
      have rg2 : ∀ q ∈ KC.2.2, rd h2 q.2.1 q.2.2 = rd h1 q.2.1 q.2.2 := rg2
      have hY := hX.tr hX2
      have hkp2 := hY.2.1 kp 1 hkp
      show WpN (gp g0 wp) CLS p l e R s m args below meth c Q D_51.2.2.1 kc0 ks0 29 [some (.ref kp), some (.ref ke)] (h2, kc + 1, ks + 11) [.int 1]
      refine g_pop act (gx gp_51 (w := 0x1e3f) rfl (by decide) rfl) (n := 30) rfl rfl ?_
      refine g_loadA act (gx gp_51 (w := 0x1f03) rfl (by decide) rfl) (a := 0) (n := 31) rfl rfl rfl ?_
      obtain ⟨y0, y1, y2, y3, y4, y5, y6, ⟨e0, a0, b0⟩, ⟨e1, a1, b1⟩, ⟨e2, a2, b2⟩, ⟨e3, a3, b3⟩, ⟨e4, a4, b4⟩, ⟨e5, a5, b5⟩, ⟨e6, a6, b6⟩⟩ := rg7 hY.1
      have hRq : RgM KC h2 R2 7 (fun s => match s with | 0 => y0.toInt | 1 => y1.toInt | 2 => y2.toInt | 3 => y3.toInt | 4 => y4.toInt | 5 => y5.toInt | 6 => y6.toInt | _ => 0) ch_51.2.1.2.2 := fun i q a hi ha => by
        match i, hi, ha with
        | 0, hi, ha => cases hi; cases ha; show VM _ _ _ _ _ _ _ (rd _ 54 0); rw [e0]; exact Or.inr (Or.inl ⟨rfl, _, rfl, by decide, (Int.add_zero _).symm⟩)
        | 1, hi, ha => cases hi; cases ha; show VM _ _ _ _ _ _ _ (rd _ 54 6); rw [e1]; exact Or.inr (Or.inl ⟨rfl, _, rfl, by decide, (Int.add_zero _).symm⟩)
        | 2, hi, ha => cases hi; cases ha; show VM _ _ _ _ _ _ _ (rd _ 54 8); rw [e2]; exact Or.inr (Or.inl ⟨rfl, _, rfl, by decide, (Int.add_zero _).symm⟩)
        | 3, hi, ha => cases hi; cases ha; show VM _ _ _ _ _ _ _ (rd _ 54 9); rw [e3]; exact Or.inr (Or.inl ⟨rfl, _, rfl, by decide, (Int.add_zero _).symm⟩)
        | 4, hi, ha => cases hi; cases ha; show VM _ _ _ _ _ _ _ (rd _ 77 1); rw [e4]; exact Or.inr (Or.inr (Or.inl ⟨rfl, _, rfl, by decide, rfl⟩))
        | 5, hi, ha => cases hi; cases ha; show VM _ _ _ _ _ _ _ (rd _ 77 3); rw [e5]; exact Or.inr (Or.inl ⟨rfl, _, rfl, by decide, (Int.add_zero _).symm⟩)
        | 6, hi, ha => cases hi; cases ha; show VM _ _ _ _ _ _ _ (rd _ 54 7); rw [e6]; exact Or.inr (Or.inl ⟨rfl, _, rfl, by decide, (Int.add_zero _).symm⟩)
        | i + 7, hi, _ => cases hi
      refine n_call tb_pres act hEnd (gx (P := G_call) gp_51 (w := 0x10000000000008081100001e00220f) rfl (by decide) rfl) (d' := D_30) rfl (f' := 0) (lam' := 0) (mc := 0) (ms := 0) (as := [.ref kp]) (rest := []) (hb30 (gp g0 wp) bl xs l h2 R2 (fun s => match s with | 0 => y0.toInt | 1 => y1.toInt | 2 => y2.toInt | 3 => y3.toInt | 4 => y4.toInt | 5 => y5.toInt | 6 => y6.toInt | _ => 0) [.ref kp] hTY hY.1 hY.2.2.2 (by show h2.length + 0 ≤ _; omega) (fun s hs9 => by
        match s, hs9 with
        | 0, _ => exact ⟨a0, b0, fun h => by cases h⟩
        | 1, _ => exact ⟨a1, b1, fun h => by cases h⟩
        | 2, _ => exact ⟨a2, b2, fun h => by cases h⟩
        | 3, _ => exact ⟨a3, b3, fun h => by cases h⟩
        | 4, _ => exact ⟨a4, b4, fun h => by cases h⟩
        | 5, _ => exact ⟨a5, b5, fun h => by cases h⟩
        | 6, _ => exact ⟨a6, b6, fun h => by cases h⟩
        | s + 7, h => exact absurd h (by show ¬ (s + 7 < 7); omega)) ⟨_, _, rfl, Or.inr (Or.inr (Or.inr (Or.inl ⟨rfl, kp, 1, rfl, hkp2, by decide, by decide⟩))), rfl⟩ hRq) (show (1 : Nat) = fb 0x10000000000008081100001e00220f % 16 by decide) (by show (1 : Nat) ≤ 2; decide) (fun _ => ⟨_, _, rfl, _, shp_at (ty_shp hY.1 hkp2 (by decide) (a := 0) (b := 7) rfl rfl), Or.inr (show fb 0x10000000000008081100001e00220f >>> 68 = 1 by decide)⟩) (by omega) (by show 8 + (2 + 11) + 0 ≤ R.locals; omega) (by show (0 : Nat) ≤ 8; decide) (by show kc + 1 + 0 ≤ _; omega) (by show ks + 11 + 0 ≤ _; omega) (fun r9 h3 hpo hr9 => ?_) (fun x9 hs9 hx9 hpo => ?_)
      · obtain rfl : r9 = none := hr9.elim (fun q => q.2) (fun q => absurd rfl q.1)
        obtain ⟨R3, σ3, pt, t1, t2, t3, t5, t4, t6, t7, t9, t8⟩ := hpo
        obtain rfl : pt = _ := List.mem_singleton.mp t1
        have ln3 : h3.length ≤ h2.length + 0 := t5
        have rg3 : ∀ q ∈ KC.2.2, rd h3 q.2.1 q.2.2 = rd hs q.2.1 q.2.2 := fun q hq => by
          rw [← rg1 q hq, ← rg2 q hq]
          obtain ⟨i, hi⟩ := List.getElem?_of_mem hq
          match i, hi with
          | 0, hi => exact vm_same (hRq 0 q _ hi rfl) (t8 0 q _ hi rfl) (Or.inl rfl) rfl rfl (t4 0 (by decide))
          | 1, hi => exact vm_same (hRq 1 q _ hi rfl) (t8 1 q _ hi rfl) (Or.inl rfl) rfl rfl (t4 1 (by decide))
          | 2, hi => exact vm_same (hRq 2 q _ hi rfl) (t8 2 q _ hi rfl) (Or.inl rfl) rfl rfl (t4 2 (by decide))
          | 3, hi => exact vm_same (hRq 3 q _ hi rfl) (t8 3 q _ hi rfl) (Or.inl rfl) rfl rfl (t4 3 (by decide))
          | 4, hi => exact vm_same (hRq 4 q _ hi rfl) (t8 4 q _ hi rfl) (Or.inr rfl) rfl rfl (t4 4 (by decide))
          | 5, hi => exact vm_same (hRq 5 q _ hi rfl) (t8 5 q _ hi rfl) (Or.inl rfl) rfl rfl (t4 5 (by decide))
          | 6, hi => exact vm_same (hRq 6 q _ hi rfl) (t8 6 q _ hi rfl) (Or.inl rfl) rfl rfl (t4 6 (by decide))
          | i + 7, hi => cases hi
        show WpN (gp g0 wp) CLS p l e R s m args below meth c Q D_51.2.2.1 kc0 ks0 34 [some (.ref kp), some (.ref ke)] (h3, kc + 1, ks + 11) []
        exact g_retV hEnd (gx gp_51 (w := 0x18) rfl (by decide) rfl) (po_void (by decide) (by decide) (hY.tr t3) (by show h3.length ≤ hs.length + 3; omega) hE hRg rg3) (by show kc + 1 ≤ kc + 3; omega) (by show ks + 11 ≤ ks + 11 * 3; omega)
      · obtain ⟨R3, σ3, pt, t1, t2, -⟩ := hpo
        obtain rfl : pt = _ := List.mem_singleton.mp t1
        exact absurd t2 (by show ¬ (0 = 1 + x9); omega)
    · exact absurd hpo.1 (by omega)
  show WpN (gp g0 wp) CLS p l e R s m args below meth c Q D_51.2.2.1 kc0 ks0 0 [some (.ref kp), some (.ref ke)] (hs, kc, ks) []
  refine g_loadA act (gx gp_51 (w := 0x103) rfl (by decide) rfl) (a := 0) (n := 1) rfl rfl rfl ?_
  refine r_getf act (gx gp_51 (w := 0x3000100000404) rfl (by decide) rfl) (n := 4) (ci := 0) (j := 4) (N := 7) rfl rfl rfl (ty_shp hT hkp (by decide) rfl rfl) (by decide) (v := .ref k) e_k ?_
  refine n_call tb_pres act hEnd (gx (P := G_call) gp_51 (w := 0xb000000000000c041100012d00070f) rfl (by decide) rfl) (d' := D_301) rfl (f' := 0) (lam' := 0) (mc := 0) (ms := 0) (as := [.ref k]) (rest := []) (b_siz hk e1) (show (1 : Nat) = fb 0xb000000000000c041100012d00070f % 16 by decide) (by show (1 : Nat) ≤ 1; decide) (fun _ => ⟨_, _, rfl, _, shp_at hk, Or.inr (show fb 0xb000000000000c041100012d00070f >>> 68 = 11 by decide)⟩) (by omega) (by show 8 + (1 + 11) + 0 ≤ R.locals; omega) (by show (0 : Nat) ≤ 8; decide) (by show kc + 0 ≤ _; omega) (by show ks + 0 ≤ _; omega) (fun r9 hs9 hpo hr9 => ?_) (fun x9 hs9 hx9 hpo => ?_)
  · obtain ⟨-, rfl, rfl⟩ := hpo
    show WpN (gp g0 wp) CLS p l e R s m args below meth c Q D_51.2.2.1 kc0 ks0 7 [some (.ref kp), some (.ref ke)] (hs, kc, ks) [.int n9]
    refine g_constI act (gx gp_51 (w := 0x40000005400000051000000000901) rfl (by decide) rfl) (n := 9) (x := (10 : Int32)) (by decide) rfl ?_
    refine g_icmpLt act (gx gp_51 (w := 0x15000c20) rfl (by decide) rfl) (tgt := 21) (n := 12) rfl rfl (fun h3 => ?_) (fun h3 => ?_)
    · simp only [i_lt, show (10 : Int32).toInt = 10 from by decide] at h3
      exact t21 R0 hs ⟨hT, fun _ _ h => h, fun _ _ _ _ => rfl, hInv⟩ (by omega) (fun _ _ => rfl) ⟨n9, e1, by omega⟩
    · simp only [i_lt, show (10 : Int32).toInt = 10 from by decide] at h3
      refine g_loadA act (gx gp_51 (w := 0xd03) rfl (by decide) rfl) (a := 0) (n := 13) rfl rfl rfl ?_
      refine r_getf act (gx gp_51 (w := 0x3000100001004) rfl (by decide) rfl) (n := 16) (ci := 0) (j := 4) (N := 7) rfl rfl rfl (ty_shp hT hkp (by decide) rfl rfl) (by decide) (v := .ref k) e_k ?_
      refine g_constI act (gx gp_51 (w := 0x40000000400000001000000001101) rfl (by decide) rfl) (n := 17) (x := (0 : Int32)) (by decide) rfl ?_
      refine n_call tb_pres act hEnd (gx (P := G_call) gp_51 (w := 0xb000000000000c102200012c00140f) rfl (by decide) rfl) (d' := D_300) rfl (f' := 3) (lam' := 90) (mc := 0) (ms := 0) (as := [.ref k, .int (0 : Int32)]) (rest := []) (hRem (gp g0 wp) bl xs l hs R0 k n9 hTY hT hInv rk e1 (by omega)) (show (2 : Nat) = fb 0xb000000000000c102200012c00140f % 16 by decide) (by show (2 : Nat) ≤ 4; decide) (fun _ => ⟨_, _, rfl, _, shp_at hk, Or.inr (show fb 0xb000000000000c102200012c00140f >>> 68 = 11 by decide)⟩) (by omega) (by show 8 + (4 + 11) + 90 ≤ R.locals; omega) (by show (0 : Nat) ≤ 8; decide) (by show kc + 0 ≤ _; omega) (by show ks + 0 ≤ _; omega) (fun r9 h1 hpo hr9 => ?_) (fun x9 hs9 hx9 hpo => ?_)
      · obtain ⟨-, ⟨x, rfl⟩, hLS, hL1, n2, e1b, n29⟩ := hpo
        show WpN (gp g0 wp) CLS p l e R s m args below meth c Q D_51.2.2.1 kc0 ks0 20 [some (.ref kp), some (.ref ke)] (h1, kc, ks) [.ref x]
        refine g_pop act (gx gp_51 (w := 0x153f) rfl (by decide) rfl) (n := 21) rfl rfl ?_
        exact t21 R0 h1 (lsx_hx hLS hInv hL1) (by rw [hLS.2.2]; exact Nat.le_refl _) (lsx_rg hLS) ⟨n2, e1b, n29⟩
      · exact absurd hpo.1 (by omega)
  · exact absurd hpo.1 (by omega)

