/-! The loop of finds: it turns until no column helps, and it ends. -/
def rowT (T : Nat → Rat) (i j : Nat) : Rat := T (35 * i + j)
def golT (T : Nat → Rat) (k j : Nat) : Rat := T (35 * (30 + k) + j)
def upB (b : Nat → Nat) (r s : Nat) : Nat → Nat := fun x => if x = r then s else b x
theorem tu_row {T : Nat → Rat} {r s N9 i j : Nat} (hN : N9 ≤ 30) (hi : i < N9) (hj : j < 35) : rowT (tuT T r s N9 37) i j = if i = r then rowT T r j / rowT T r s else rowT T i j - rowT T i s * (rowT T r j / rowT T r s) := by
  unfold rowT tuT
  have e1 : (35 * i + j) / 35 = i := by omega
  have e2 : (35 * i + j) % 35 = j := by omega
  rw [e1, e2, Rat.div_def]
  by_cases q : i = r
  · rw [if_pos q, if_pos q, q]
  · rw [if_neg q, if_neg q, if_pos ⟨Or.inl hi, by omega⟩]; grind
theorem tu_gol {T : Nat → Rat} {r s N9 k j : Nat} (hr : r < 30) (hk : k < 7) (hj : j < 35) : golT (tuT T r s N9 37) k j = golT T k j - golT T k s * (rowT T r j / rowT T r s) := by
  unfold golT rowT tuT
  have e1 : (35 * (30 + k) + j) / 35 = 30 + k := by omega
  have e2 : (35 * (30 + k) + j) % 35 = j := by omega
  rw [e1, e2, Rat.div_def, if_neg (by omega), if_pos ⟨Or.inr (by omega), by omega⟩]; grind
theorem piv_of {T : Nat → Rat} {b : Nat → Nat} {N9 s r : Nat} (hN : N9 ≤ 30) (hs : s < 34) (hl : lng (fun k => golT T k s)) (hq : ∀ q, q < s → ¬ lng (fun k => golT T k q)) (hB : Best T b s N9 r) : Piv N9 (rowT T) (golT T) b (rowT (tuT T r s N9 37)) (golT (tuT T r s N9 37)) (upB b r s) s r := by
  obtain ⟨h1, h2, h3⟩ := hB
  refine ⟨hs, hl, hq, h1, h2, fun i hi hp => ?_, fun i j hi hj => tu_row hN hi hj, fun k j hk hj => tu_gol (by omega) hk hj, fun i hi => rfl⟩
  have := h3 i hi hp
  unfold rt at this
  unfold rowT
  rw [Rat.div_def, Rat.div_def]
  exact this
/-- what is to be known of all tableaus that come: small numbers, and that a helping column has a positive number -/
def BIok (N9 : Nat) (BI : (Nat → Rat) → (Nat → Nat) → Prop) : Prop :=
  (∀ T b, BI T b → Can N9 (rowT T) (golT T) b) ∧
  (∀ T b C, BI T b → C < 34 → lng (fun k => golT T k C) → SmG T C N9 ∧ ∃ x, x < N9 ∧ 0 < T (35 * x + C)) ∧
  (∀ T b s r, BI T b → Piv N9 (rowT T) (golT T) b (rowT (tuT T r s N9 37)) (golT (tuT T r s N9 37)) (upB b r s) s r → Sm3 T r s N9 ∧ BI (tuT T r s N9 37) (upB b r s))
/-- no run of turns is endless: what holds if it holds after every turn, holds -/
theorem bi_ind {N9 : Nat} {BI : (Nat → Rat) → (Nat → Nat) → Prop} (hBI : BIok N9 BI) {PP : (Nat → Rat) → (Nat → Nat) → Prop} (hstep : ∀ T b, BI T b → (∀ s r, Piv N9 (rowT T) (golT T) b (rowT (tuT T r s N9 37)) (golT (tuT T r s N9 37)) (upB b r s) s r → PP (tuT T r s N9 37) (upB b r s)) → PP T b) : ∀ T b, BI T b → PP T b := by
  intro T b h0
  refine Classical.byContradiction (fun hno => ?_)
  have nx : ∀ q : (Nat → Rat) × (Nat → Nat), BI q.1 q.2 ∧ ¬ PP q.1 q.2 → ∃ z : Nat × Nat, Piv N9 (rowT q.1) (golT q.1) q.2 (rowT (tuT q.1 z.2 z.1 N9 37)) (golT (tuT q.1 z.2 z.1 N9 37)) (upB q.2 z.2 z.1) z.1 z.2 ∧ BI (tuT q.1 z.2 z.1 N9 37) (upB q.2 z.2 z.1) ∧ ¬ PP (tuT q.1 z.2 z.1 N9 37) (upB q.2 z.2 z.1) := by
    intro q ⟨h1, h2⟩
    refine Classical.byContradiction (fun hn => h2 (hstep _ _ h1 (fun s r hp => Classical.byContradiction (fun hq => hn ⟨(s, r), hp, (hBI.2.2 _ _ _ _ h1 hp).2, hq⟩))))
  let Z : Type := { q : (Nat → Rat) × (Nat → Nat) // BI q.1 q.2 ∧ ¬ PP q.1 q.2 }
  let ch : Z → Nat × Nat := fun q => Classical.choose (nx q.1 q.2)
  have hch : ∀ q : Z, _ := fun q => Classical.choose_spec (nx q.1 q.2)
  let st : Z → Z := fun q => ⟨(tuT q.1.1 (ch q).2 (ch q).1 N9 37, upB q.1.2 (ch q).2 (ch q).1), (hch q).2⟩
  let sq : Nat → Z := fun n => Nat.rec (motive := fun _ => Z) ⟨(T, b), h0, hno⟩ (fun _ z => st z) n
  exact bland (R := N9) (TT := fun n => rowT (sq n).1.1) (GG := fun n => golT (sq n).1.1) (bb := fun n => (sq n).1.2) (ss := fun n => (ch (sq n)).1) (rr := fun n => (ch (sq n)).2) (hBI.1 _ _ h0) (fun n => (hch (sq n)).1)
set_option maxHeartbeats 1000000 in
theorem finds_step {g0 : GG} {bl : Nat} {xs : Nat → Int32} {l : Launch} {wp : va_W} {p : Program} {e : Env} {R : Room} {s : State} {m : MethodId} {args : Array Value} {below : List Frame} {meth : Method} {c : Code} {Q : State → Prop} {kc0 ks0 kc ks f lam KC KS : Nat} {hs : List CE} {BI : (Nat → Rat) → (Nat → Nat) → Prop} {N9 : Nat} {ni : Int32} {PO : Nat → Option Value → List CE → Prop} (hBI : BIok N9 BI) (hN : N9 ≤ 30) (hni : ni.toInt = (N9 : Int)) (hnr : rd hs 124 28 = .int ni) (act : Act SSX TBL (gp g0 wp) CLS bl xs D_206 p l s m args meth c) (hEnd : EndN SSX TBL (gp g0 wp) CLS D_206 p l e R s m args below meth c Q kc0 ks0 f lam KC KS PO) (hf : 6 ≤ R.frames) (hl : 164 ≤ R.locals) (hc : kc ≤ R.cells + kc0) (hsl : ks ≤ R.slots + ks0)
    (KE : ∀ (T : Nat → Rat) (b9 : Nat → Nat) (hj : List CE) (ci : Int32), BI T b9 → (∀ q, q < 34 → ¬ lng (fun k => golT T k q)) → RW hj → TabR hj T → BasR hj b9 N9 → FrS W2 hs hj → WpN (gp g0 wp) CLS p l e R s m args below meth c Q D_206.2.2.1 kc0 ks0 41 [some (.ref 124), some (.int ci)] (hj, kc, ks) []) (T : Nat → Rat) (b9 : Nat → Nat) (hbi0 : BI T b9)
    (hK : ∀ s' r', Piv N9 (rowT T) (golT T) b9 (rowT (tuT T r' s' N9 37)) (golT (tuT T r' s' N9 37)) (upB b9 r' s') s' r' → BI (tuT T r' s' N9 37) (upB b9 r' s') → ∀ (hj : List CE) (ci : Int32) (Cn : Nat), RW hj → TabR hj (tuT T r' s' N9 37) → BasR hj (upB b9 r' s') N9 → FrS W2 hs hj → ci.toInt = (Cn : Int) → Cn ≤ 34 → (∀ q, q < Cn → ¬ lng (fun k => golT (tuT T r' s' N9 37) k q)) → (Cn < 34 → lng (fun k => golT (tuT T r' s' N9 37) k Cn)) → WpN (gp g0 wp) CLS p l e R s m args below meth c Q D_206.2.2.1 kc0 ks0 17 [some (.ref 124), some (.int ci)] (hj, kc, ks) [])
    (hj : List CE) (ci : Int32) (Cn : Nat) (rwj : RW hj) (hTj : TabR hj T) (hBj : BasR hj b9 N9) (hfr : FrS W2 hs hj) (hci : ci.toInt = (Cn : Int)) (hcn : Cn ≤ 34) (hc1 : ∀ q, q < Cn → ¬ lng (fun k => golT T k q)) (hc2 : Cn < 34 → lng (fun k => golT T k Cn)) : WpN (gp g0 wp) CLS p l e R s m args below meth c Q D_206.2.2.1 kc0 ks0 17 [some (.ref 124), some (.int ci)] (hj, kc, ks) [] := by
  refine g_loadI act (gx gp_206 (w := 0x1001202) rfl (by decide) rfl) (a := 1) (n := 18) rfl rfl rfl ?_
  refine g_constI act (gx gp_206 (w := 0x40000011400000111000000001401) rfl (by decide) rfl) (n := 20) (x := (34 : Int32)) (by decide) rfl ?_
  refine g_icmpGe act (gx gp_206 (w := 0x29001708) rfl (by decide) rfl) (tgt := 41) (n := 23) rfl rfl (fun h3 => ?_) (fun h3 => ?_)
  · simp only [i_le, show (34 : Int32).toInt = 34 from by decide] at h3
    exact KE T b9 hj _ hbi0 (fun q hq => hc1 q (by omega)) rwj hTj hBj hfr
  · simp only [i_le, show (34 : Int32).toInt = 34 from by decide] at h3
    refine g_loadA act (gx gp_206 (w := 0x1803) rfl (by decide) rfl) (a := 0) (n := 24) rfl rfl rfl ?_
    refine g_loadA act (gx gp_206 (w := 0x1903) rfl (by decide) rfl) (a := 0) (n := 25) rfl rfl rfl ?_
    refine g_loadI act (gx gp_206 (w := 0x1001a02) rfl (by decide) rfl) (a := 1) (n := 26) rfl rfl rfl ?_
    have hGC := hBI.2.1 T b9 Cn hbi0 (by omega) (hc2 (by omega))
    have hnrj : rd hj 124 28 = .int ni := (hfr.2.2 124 28 (by unfold W2 W1; omega)).trans hnr
    refine n_call tb_pres act hEnd (gx (P := G_call) gp_206 (w := 0xa000000000000c28220000d6001d0f) rfl (by decide) rfl) (d' := D_214) rfl (as := [.ref 124, .int ci]) (rest := [.ref 124]) (b_goes rwj hTj hci hni hnrj hN (by omega) hBj hGC.1) (show (2 : Nat) = fb 0xa000000000000c28220000d6001d0f % 16 by decide) (by show (2 : Nat) ≤ 10; decide) (fun _ => ⟨_, _, rfl, _, shp_at rwj.1, Or.inr (show fb 0xa000000000000c28220000d6001d0f >>> 68 = 10 by decide)⟩) (by omega) (by show 8 + (10 + 11) + 87 ≤ R.locals; omega) (by show (1 : Nat) ≤ 8; decide) (by show kc + 0 ≤ _; omega) (by show ks + 0 ≤ _; omega) (fun r9 h1 hpo hr9 => ?_) (fun x9 hs9 hx9 hpo => ?_)
    · obtain ⟨-, hfg, hgo⟩ := hpo
      have hgo2 := hgo.resolve_right (fun hno => by obtain ⟨x, hx, hx2⟩ := hGC.2; exact hno x hx hx2)
      clear hgo
      obtain ⟨bi, B, rfl, hbi, hBB⟩ := hgo2
      have hpiv := piv_of hN (show Cn < 34 by omega) (hc2 (by omega)) hc1 hBB
      have hS := hBI.2.2 T b9 Cn B hbi0 hpiv
      have rwg := rwj.fr hfg W0_rw
      have hTg : TabR h1 T := hTj.fr (fun k9 j9 h9 => hfg.2.2 k9 j9 (by unfold W0; omega))
      have hnrg : rd h1 124 28 = .int ni := (hfg.2.2 124 28 (by unfold W0; omega)).trans hnrj
      show WpN (gp g0 wp) CLS p l e R s m args below meth c Q D_206.2.2.1 kc0 ks0 29 [some (.ref 124), some (.int ci)] (h1, kc, ks) [.int bi, .ref 124]
      refine g_loadI act (gx gp_206 (w := 0x1001e02) rfl (by decide) rfl) (a := 1) (n := 30) rfl rfl rfl ?_
      refine n_call tb_pres act hEnd (gx (P := G_call) gp_206 (w := 0xa0000000000008103300011d00210f) rfl (by decide) rfl) (d' := D_285) rfl (as := [.ref 124, .int bi, .int ci]) (rest := []) (b_turns rwg hTg hbi hci hni hnrg hN (by have := hBB.1; omega) (by omega) hBB.2.1 hS.1) (show (3 : Nat) = fb 0xa0000000000008103300011d00210f % 16 by decide) (by show (3 : Nat) ≤ 4; decide) (fun _ => ⟨_, _, rfl, _, shp_at rwg.1, Or.inr (show fb 0xa0000000000008103300011d00210f >>> 68 = 10 by decide)⟩) (by omega) (by show 8 + (4 + 11) + 141 ≤ R.locals; omega) (by show (0 : Nat) ≤ 8; decide) (by show kc + 0 ≤ _; omega) (by show ks + 0 ≤ _; omega) (fun r9 h2 hpo hr9 => ?_) (fun x9 hs9 hx9 hpo => ?_)
      · obtain rfl : r9 = none := hr9.elim (fun q => q.2) (fun q => absurd rfl q.1)
        obtain ⟨-, hT2, hf2, hb2⟩ := hpo
        have rw2 := rwg.fr hf2 (fun q hq z => W2_rw q hq (z.elim Or.inl (fun y => Or.inr y.1)))
        show WpN (gp g0 wp) CLS p l e R s m args below meth c Q D_206.2.2.1 kc0 ks0 33 [some (.ref 124), some (.int ci)] (h2, kc, ks) []
        refine g_loadA act (gx gp_206 (w := 0x2203) rfl (by decide) rfl) (a := 0) (n := 34) rfl rfl rfl ?_
        refine n_call tb_pres act hEnd (gx (P := G_call) gp_206 (w := 0xa000000000000c08110000be00250f) rfl (by decide) rfl) (d' := D_190) rfl (as := [.ref 124]) (rest := []) (b_comes rw2 hT2) (show (1 : Nat) = fb 0xa000000000000c08110000be00250f % 16 by decide) (by show (1 : Nat) ≤ 2; decide) (fun _ => ⟨_, _, rfl, _, shp_at rw2.1, Or.inr (show fb 0xa000000000000c08110000be00250f >>> 68 = 10 by decide)⟩) (by omega) (by show 8 + (2 + 11) + 24 ≤ R.locals; omega) (by show (0 : Nat) ≤ 8; decide) (by show kc + 0 ≤ _; omega) (by show ks + 0 ≤ _; omega) (fun r9 h3 hpo hr9 => ?_) (fun x9 hs9 hx9 hpo => ?_)
        · obtain ⟨-, rfl, c2, C2, rfl, y1, y2, y3, y4⟩ := hpo
          show WpN (gp g0 wp) CLS p l e R s m args below meth c Q D_206.2.2.1 kc0 ks0 37 [some (.ref 124), some (.int ci)] (h2, kc, ks) [.int c2]
          refine g_storeI act (gx gp_206 (w := 0x1002610) rfl (by decide) rfl) (a := 1) (n := 38) rfl rfl (L2 := [some (.ref 124), some (.int c2)]) rfl ?_
          refine g_goto act (gx gp_206 (w := 0x1107) rfl (by decide) rfl) (n := 17) rfl ?_
          exact hK Cn B hpiv hS.2 h2 c2 C2 rw2 hT2 (fun x hx => by
            unfold upB
            by_cases q : x = B
            · rw [if_pos q, q]; exact ⟨ci, hb2, hci⟩
            · rw [if_neg q]
              obtain ⟨bx, z1, z2⟩ := hBj x hx
              exact ⟨bx, ((hf2.2.2 141 x (by unfold W1; omega)).trans (hfg.2.2 141 x (by unfold W0; omega))).trans z1, z2⟩) (hfr.tr ((hfg.mono (fun k j h => Or.inl (Or.inr (Or.inr h)))).tr (hf2.mono (fun k j h => h.elim Or.inl (fun y => Or.inr y.1))))) y1 y2 y3 y4
        · exact absurd hpo.1 (by omega)
      · exact absurd hpo.1 (by omega)
    · exact absurd hpo.1 (by omega)
theorem finds_loop {g0 : GG} {bl : Nat} {xs : Nat → Int32} {l : Launch} {wp : va_W} {p : Program} {e : Env} {R : Room} {s : State} {m : MethodId} {args : Array Value} {below : List Frame} {meth : Method} {c : Code} {Q : State → Prop} {kc0 ks0 kc ks f lam KC KS : Nat} {hs : List CE} {BI : (Nat → Rat) → (Nat → Nat) → Prop} {N9 : Nat} {ni : Int32} {PO : Nat → Option Value → List CE → Prop} (hBI : BIok N9 BI) (hN : N9 ≤ 30) (hni : ni.toInt = (N9 : Int)) (hnr : rd hs 124 28 = .int ni) (act : Act SSX TBL (gp g0 wp) CLS bl xs D_206 p l s m args meth c) (hEnd : EndN SSX TBL (gp g0 wp) CLS D_206 p l e R s m args below meth c Q kc0 ks0 f lam KC KS PO) (hf : 6 ≤ R.frames) (hl : 164 ≤ R.locals) (hc : kc ≤ R.cells + kc0) (hsl : ks ≤ R.slots + ks0)
    (KE : ∀ (T : Nat → Rat) (b9 : Nat → Nat) (hj : List CE) (ci : Int32), BI T b9 → (∀ q, q < 34 → ¬ lng (fun k => golT T k q)) → RW hj → TabR hj T → BasR hj b9 N9 → FrS W2 hs hj → WpN (gp g0 wp) CLS p l e R s m args below meth c Q D_206.2.2.1 kc0 ks0 41 [some (.ref 124), some (.int ci)] (hj, kc, ks) []) (T : Nat → Rat) (b9 : Nat → Nat) (hbi0 : BI T b9)
    (hj : List CE) (ci : Int32) (Cn : Nat) (rwj : RW hj) (hTj : TabR hj T) (hBj : BasR hj b9 N9) (hfr : FrS W2 hs hj) (hci : ci.toInt = (Cn : Int)) (hcn : Cn ≤ 34) (hc1 : ∀ q, q < Cn → ¬ lng (fun k => golT T k q)) (hc2 : Cn < 34 → lng (fun k => golT T k Cn)) : WpN (gp g0 wp) CLS p l e R s m args below meth c Q D_206.2.2.1 kc0 ks0 17 [some (.ref 124), some (.int ci)] (hj, kc, ks) [] :=
  bi_ind hBI (PP := fun T b9 => ∀ (hj : List CE) (ci : Int32) (Cn : Nat), RW hj → TabR hj T → BasR hj b9 N9 → FrS W2 hs hj → ci.toInt = (Cn : Int) → Cn ≤ 34 → (∀ q, q < Cn → ¬ lng (fun k => golT T k q)) → (Cn < 34 → lng (fun k => golT T k Cn)) → WpN (gp g0 wp) CLS p l e R s m args below meth c Q D_206.2.2.1 kc0 ks0 17 [some (.ref 124), some (.int ci)] (hj, kc, ks) []) (fun T b9 h0 hK => finds_step hBI hN hni hnr act hEnd hf hl hc hsl KE T b9 h0 (fun s' r' hp _ => hK s' r' hp)) T b9 hbi0 hj ci Cn rwj hTj hBj hfr hci hcn hc1 hc2
