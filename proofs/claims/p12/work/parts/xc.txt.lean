/-! The class reads a text, exactly. -/
/-- the reader between two readings: its text, its length, the last error -/
def RD0 (hs : List CE) (tx : Nat → Int) (L ec ep : Int) : Prop := shp hs 54 = some (5, 11) ∧ shp hs 55 = some (34, 700) ∧ rd hs 54 3 = .ref 55 ∧ rd hs 54 4 = .ref 56 ∧ TXB hs tx ∧ (∃ x : Int32, rd hs 54 0 = .int x ∧ x.toInt = L) ∧ (∃ x : Int32, rd hs 54 1 = .int x ∧ x.toInt = ec) ∧ (∃ x : Int32, rd hs 54 2 = .int x ∧ x.toInt = ep) ∧ (∃ x : Int32, rd hs 54 7 = .int x) ∧ (∃ x : Int32, rd hs 54 8 = .int x) ∧ (∃ x : Int32, rd hs 54 10 = .int x) ∧ 0 ≤ L ∧ L ≤ 700
theorem cell_eq {hs h2 : List CE} {k : Nat} {q : Nat × Nat} (h : shp hs k = some q) (e1 : shp h2 k = shp hs k) (e2 : ∀ j, rd h2 k j = rd hs k j) : h2[k]? = hs[k]? := by
  rw [shp_at h, shp_at (e1.trans h)]
  exact congrArg (fun z => some (_, _, z)) (funext e2)
theorem WKF_54 {g k j : Nat} (h : WKF g k j) : k = 54 ∨ (g ≤ k ∧ k ≤ g + 16) ∨ (56 ≤ k ∧ k ≤ 72) := by
  rcases h with (h | h) | h
  · unfold WKr at h; omega
  · unfold WGr at h; omega
  · unfold WFr at h; omega
theorem WKF_0 {g j : Nat} (hg : 148 ≤ g) (h : WKF g 54 j) : j = 1 ∨ j = 2 ∨ (7 ≤ j ∧ j ≤ 10) := by
  rcases h with (h | h) | h
  · unfold WKr at h; omega
  · unfold WGr at h; omega
  · unfold WFr at h; omega
theorem nl5 {o : Int} {nl : Nat} (h : o ≤ (nl : Int) - 1) (h6 : nl ≤ 6) : o ≤ 5 := by omega
theorem CutOK.pos {fv : Nat → Int} {nl n : Nat} {z : Int} (h : CutOK fv nl z n) (hn : 1 ≤ n) : 1 ≤ nl := by
  obtain ⟨l, l1, -⟩ := h (fun x => x == 0) rfl ⟨1, hn, rfl⟩
  omega
theorem CutOK.of {fv fv2 : Nat → Int} {nl n : Nat} {z : Int} (h : CutOK fv nl z n) (h6 : nl ≤ 6) (e : ∀ j, 5 ≤ j → j < 17 → fv2 j = fv j) : CutOK fv2 nl z n := fun U u0 ux => by
  obtain ⟨l, l1, l2, l3⟩ := h U u0 ux
  exact ⟨l, l1, l2, by rw [e (5 + l) (by omega) (by omega), e (11 + l) (by omega) (by omega)]; exact l3⟩
theorem TXB.cell {hs h2 : List CE} {tx : Nat → Int} (h : TXB hs tx) (e : h2[55]? = hs[55]?) : TXB h2 tx := fun j hj => by
  obtain ⟨x, q⟩ := h j hj
  exact ⟨x, (rd_of e j).trans q.1, q.2⟩
theorem FLS.cell {hs h2 : List CE} (h : FLS hs 56) (e : ∀ k, 56 ≤ k → k ≤ 72 → h2[k]? = hs[k]?) : FLS h2 56 := by
  obtain ⟨h0, h1, ⟨a1, a2, a3⟩, ⟨s1, s2, s3⟩, r1, r2, r3⟩ := h
  have r : ∀ k, 56 ≤ k → k ≤ 72 → ∀ j, rd h2 k j = rd hs k j := fun k q1 q2 j => rd_of (e k q1 q2) j
  have s : ∀ k, 56 ≤ k → k ≤ 72 → shp h2 k = shp hs k := fun k q1 q2 => shp_eqc (e k q1 q2)
  exact ⟨h0, (s _ (by decide) (by decide)).trans h1, ⟨(r _ (by decide) (by decide) _).trans a1, (r _ (by decide) (by decide) _).trans a2, (r _ (by decide) (by decide) _).trans a3⟩, ⟨(s _ (by decide) (by decide)).trans s1, (s _ (by decide) (by decide)).trans s2, (s _ (by decide) (by decide)).trans s3⟩, fun i hi => ⟨(r _ (by decide) (by decide) _).trans (r1 i hi).1, (s _ (by omega) (by omega)).trans (r1 i hi).2⟩, fun i hi => ⟨(r _ (by decide) (by decide) _).trans (r2 i hi).1, (s _ (by omega) (by omega)).trans (r2 i hi).2⟩, fun i hi => ⟨(r _ (by decide) (by decide) _).trans (r3 i hi).1, (s _ (by omega) (by omega)).trans (r3 i hi).2⟩⟩
theorem newc (hs : List CE) (c : CE) : (hs ++ [c])[hs.length]? = some c := by rw [List.getElem?_append_right (Nat.le_refl _), Nat.sub_self]; rfl
theorem shp_newc (hs : List CE) (c : CE) : shp (hs ++ [c]) hs.length = some (c.1, c.2.1) := by
  unfold shp
  rw [newc]
  rfl
theorem rd_newc (hs : List CE) (c : CE) (j : Nat) : rd (hs ++ [c]) hs.length j = c.2.2 j := by
  unfold rd
  rw [newc]
theorem dv_4 : ∀ j, j < 5 → dv (ftX 4 j) = .int 0 := by
  intro j hj
  rcases (show j = 0 ∨ j = 1 ∨ j = 2 ∨ j = 3 ∨ j = 4 by omega) with rfl | rfl | rfl | rfl | rfl <;> rfl

section CRDT
variable {g0 : GG} {bl : Nat} {xs : Nat → Int32} {l : Launch} {hs : List CE} {tx : Nat → Int} {L ec ep : Int}

theorem cx_readText (hTY9 : TYg g0) (h148 : 148 ≤ hs.length) (hlen : hs.length + 40 ≤ 6999999999999) (hD : RD0 hs tx L ec ep) (hF : FLS hs 56) : BodyN SSX TBL g0 CLS bl xs l D_134 12 212 730 8050 [.ref 54] hs (fun kd r h2 => (kd = 0 ∧ r = some (.ref hs.length) ∧ (∃ (s2 o2 : Int) (F2 : Nat → Nat → Int32) (fv2 gv2 : Nat → Int) (nl ng nr n : Nat), sText tx L = (0, s2, (fv2, upI gv2 38 o2), nl, ng, nr) ∧ GIM h2 hs.length F2 ∧ REL F2 fv2 gv2 o2 ∧ fv2 0 = (n : Int) + 1 ∧ 1 ≤ n ∧ n ≤ 3 ∧ 1 ≤ fv2 1 ∧ fv2 1 ≤ 4 ∧ fv2 2 = (nl : Int) ∧ nl ≤ 6 ∧ fv2 3 = (ng : Int) ∧ ng ≤ 5 ∧ fv2 4 = (nr : Int) ∧ nr ≤ 6 ∧ -1 ≤ o2 ∧ o2 ≤ 5 ∧ LRG fv2 nl ∧ CutOK fv2 nl (-1) n) ∧ RD0 h2 tx 0 0 (-1) ∧ h2.length = hs.length + 17 ∧ FLS h2 56 ∧ ∀ k, k < hs.length → k ≠ 54 → ¬ (56 ≤ k ∧ k ≤ 72) → h2[k]? = hs[k]?) ∨ (kd = 3 ∧ r = none ∧ (sText tx L).1 ≠ 0 ∧ RD0 h2 tx 0 (sText tx L).1 (sText tx L).2.1 ∧ h2.length = hs.length + 17 ∧ FLS h2 56 ∧ ∀ k, k < hs.length → k ≠ 54 → ¬ (56 ≤ k ∧ k ≤ 72) → h2[k]? = hs[k]?)) := by
  intro wp p e R sW m args below meth cW Q kc0 ks0 kc ks act hf hl hc hsl hEnd
  have hf : 12 ≤ R.frames := hf
  have hl : 212 ≤ R.locals := hl
  have hTY : TYg (gp g0 wp) := hTY9
  obtain ⟨s54, s55, r3, r4, hT, ⟨xL, e0, qL⟩, ⟨x1, e1, q1⟩, ⟨x2, e2, q2⟩, ⟨x7, e7⟩, ⟨x8, e8⟩, ⟨x10, e10⟩, hL0, hL7⟩ := hD
  show WpN (gp g0 wp) CLS p l e R sW m args below meth cW Q D_134.2.2.1 kc0 ks0 0 [some (.ref 54)] (hs, kc, ks) []
  refine g_loadA act (gx gp_134 (w := 0x103) rfl (by decide) rfl) (a := 0) (n := 1) rfl rfl rfl ?_
  refine g_loadA act (gx gp_134 (w := 0x203) rfl (by decide) rfl) (a := 0) (n := 2) rfl rfl rfl ?_
  refine r_getf act (gx gp_134 (w := 0x5000504) rfl (by decide) rfl) (n := 5) (ci := 5) (j := 0) (N := 11) rfl rfl rfl s54 (by decide) (v := .int xL) e0 ?_
  refine r_putf act (gx gp_134 (w := 0x185000813) rfl (by decide) rfl) (n := 8) (ci := 5) (j := 6) (N := 11) rfl rfl rfl s54 (by decide) (Or.inl ⟨rfl, _, rfl⟩) ?_
  refine g_loadA act (gx gp_134 (w := 0x903) rfl (by decide) rfl) (a := 0) (n := 9) rfl rfl rfl ?_
  refine g_constI act (gx gp_134 (w := 0x40000000400000001000000000a01) rfl (by decide) rfl) (n := 10) (x := (0 : Int32)) (by decide) rfl ?_
  refine r_putf act (gx gp_134 (w := 0x5000d13) rfl (by decide) rfl) (n := 13) (ci := 5) (j := 0) (N := 11) rfl rfl rfl ((shp_wr _ _ _ _ _).trans s54) (by decide) (Or.inl ⟨rfl, _, rfl⟩) ?_
  refine g_loadA act (gx gp_134 (w := 0xe03) rfl (by decide) rfl) (a := 0) (n := 14) rfl rfl rfl ?_
  refine g_constI act (gx gp_134 (w := 0x40000000400000001000000000f01) rfl (by decide) rfl) (n := 15) (x := (0 : Int32)) (by decide) rfl ?_
  refine r_putf act (gx gp_134 (w := 0x245001213) rfl (by decide) rfl) (n := 18) (ci := 5) (j := 9) (N := 11) rfl rfl rfl ((shp_wr _ _ _ _ _).trans ((shp_wr _ _ _ _ _).trans s54)) (by decide) (Or.inl ⟨rfl, _, rfl⟩) ?_
  have a54 : shp (wr (wr (wr hs 54 6 (.int xL)) 54 0 (.int (0 : Int32))) 54 9 (.int (0 : Int32))) 54 = some (5, 11) := (shp_wr _ _ _ _ _).trans ((shp_wr _ _ _ _ _).trans ((shp_wr _ _ _ _ _).trans s54))
  have aln : (wr (wr (wr hs 54 6 (.int xL)) 54 0 (.int (0 : Int32))) 54 9 (.int (0 : Int32))).length = hs.length := by rw [wr_len, wr_len, wr_len]
  have akp : ∀ k, k ≠ 54 → (wr (wr (wr hs 54 6 (.int xL)) 54 0 (.int (0 : Int32))) 54 9 (.int (0 : Int32)))[k]? = hs[k]? := fun k hk => (wr_ne (fun z => hk z.symm)).trans ((wr_ne (fun z => hk z.symm)).trans (wr_ne (fun z => hk z.symm)))
  have b9 : rd (wr (wr (wr hs 54 6 (.int xL)) 54 0 (.int (0 : Int32))) 54 9 (.int (0 : Int32))) 54 9 = .int 0 := rd_same ((shp_wr _ _ _ _ _).trans ((shp_wr _ _ _ _ _).trans s54))
  have b0 : rd (wr (wr (wr hs 54 6 (.int xL)) 54 0 (.int (0 : Int32))) 54 9 (.int (0 : Int32))) 54 0 = .int 0 := (rd_ne _ _ (Or.inr (by decide))).trans (rd_same ((shp_wr _ _ _ _ _).trans s54))
  have b6 : rd (wr (wr (wr hs 54 6 (.int xL)) 54 0 (.int (0 : Int32))) 54 9 (.int (0 : Int32))) 54 6 = .int xL := (rd_ne _ _ (Or.inr (by decide))).trans ((rd_ne _ _ (Or.inr (by decide))).trans (rd_same s54))
  have b1 := (rd_ne (wr (wr hs 54 6 (.int xL)) 54 0 (.int (0 : Int32))) (k := 54) (j := 9) (.int (0 : Int32)) (Or.inr (by decide))).trans ((rd_ne (wr hs 54 6 (.int xL)) (k := 54) (j := 0) (.int (0 : Int32)) (Or.inr (by decide))).trans ((rd_ne hs (k := 54) (j := 6) (.int xL) (Or.inr (by decide))).trans e1))
  have b2 := (rd_ne (wr (wr hs 54 6 (.int xL)) 54 0 (.int (0 : Int32))) (k := 54) (j := 9) (.int (0 : Int32)) (Or.inr (by decide))).trans ((rd_ne (wr hs 54 6 (.int xL)) (k := 54) (j := 0) (.int (0 : Int32)) (Or.inr (by decide))).trans ((rd_ne hs (k := 54) (j := 6) (.int xL) (Or.inr (by decide))).trans e2))
  have b3 := (rd_ne (wr (wr hs 54 6 (.int xL)) 54 0 (.int (0 : Int32))) (k := 54) (j := 9) (.int (0 : Int32)) (Or.inr (by decide))).trans ((rd_ne (wr hs 54 6 (.int xL)) (k := 54) (j := 0) (.int (0 : Int32)) (Or.inr (by decide))).trans ((rd_ne hs (k := 54) (j := 6) (.int xL) (Or.inr (by decide))).trans r3))
  have b4 := (rd_ne (wr (wr hs 54 6 (.int xL)) 54 0 (.int (0 : Int32))) (k := 54) (j := 9) (.int (0 : Int32)) (Or.inr (by decide))).trans ((rd_ne (wr hs 54 6 (.int xL)) (k := 54) (j := 0) (.int (0 : Int32)) (Or.inr (by decide))).trans ((rd_ne hs (k := 54) (j := 6) (.int xL) (Or.inr (by decide))).trans r4))
  have b7 := (rd_ne (wr (wr hs 54 6 (.int xL)) 54 0 (.int (0 : Int32))) (k := 54) (j := 9) (.int (0 : Int32)) (Or.inr (by decide))).trans ((rd_ne (wr hs 54 6 (.int xL)) (k := 54) (j := 0) (.int (0 : Int32)) (Or.inr (by decide))).trans ((rd_ne hs (k := 54) (j := 6) (.int xL) (Or.inr (by decide))).trans e7))
  have b8 := (rd_ne (wr (wr hs 54 6 (.int xL)) 54 0 (.int (0 : Int32))) (k := 54) (j := 9) (.int (0 : Int32)) (Or.inr (by decide))).trans ((rd_ne (wr hs 54 6 (.int xL)) (k := 54) (j := 0) (.int (0 : Int32)) (Or.inr (by decide))).trans ((rd_ne hs (k := 54) (j := 6) (.int xL) (Or.inr (by decide))).trans e8))
  have b10 := (rd_ne (wr (wr hs 54 6 (.int xL)) 54 0 (.int (0 : Int32))) (k := 54) (j := 9) (.int (0 : Int32)) (Or.inr (by decide))).trans ((rd_ne (wr hs 54 6 (.int xL)) (k := 54) (j := 0) (.int (0 : Int32)) (Or.inr (by decide))).trans ((rd_ne hs (k := 54) (j := 6) (.int xL) (Or.inr (by decide))).trans e10))
  generalize (wr (wr (wr hs 54 6 (.int xL)) 54 0 (.int (0 : Int32))) 54 9 (.int (0 : Int32))) = h3 at *
  refine g_loadA act (gx gp_134 (w := 0x1303) rfl (by decide) rfl) (a := 0) (n := 19) rfl rfl rfl ?_
  refine r_new act (gx gp_134 (w := 0x12000004001628) rfl (by decide) rfl) (ci := 4) (N := 18) rfl rfl (by omega) (by omega) (by omega) (n := 22) rfl ?_
  refine g_dup act (gx gp_134 (w := 0x1722) rfl (by decide) rfl) (n := 23) rfl rfl ?_
  refine n_call tb_pres act hEnd (gx (P := G_call) gp_134 (w := 0x8041100005e001a0f) rfl (by decide) rfl) (d' := D_94) rfl (f' := 1) (lam' := 12) (mc := 20) (ms := 220) (as := [.ref h3.length]) (rest := [.ref h3.length, .ref 54]) (cx_grid (g := h3.length) hTY (by omega) (by rw [List.length_append]; rfl) (shp_newc _ _) (fun j hj => (rd_newc _ _ j).trans (dv_4 j hj)) (by omega)) (show (1 : Nat) = fb 0x8041100005e001a0f % 16 by decide) (by show (1 : Nat) ≤ 1; decide) (fun _ => ⟨_, _, rfl, _, shp_at (shp_newc h3 _), Or.inl (show fb 0x8041100005e001a0f >>> 68 = 0 by decide)⟩) (by omega) (by show 8 + (1 + 11) + 12 ≤ R.locals; omega) (by show (2 : Nat) ≤ 8; decide) (by show kc + 1 + 20 ≤ _; omega) (by show ks + 18 + 220 ≤ _; omega) (fun r9 h5 hpo hr9 => ?_) (fun x9 hs9 hx9 hpo => ?_)
  · obtain rfl : r9 = none := hr9.elim (fun q => q.2) (fun q => absurd rfl q.1)
    obtain ⟨-, -, hG5, ln5, kp5⟩ := hpo
    show WpN (gp g0 wp) CLS p l e R sW m args below meth cW Q D_134.2.2.1 kc0 ks0 26 [some (.ref 54)] (h5, kc + 1 + 20, ks + 18 + 220) [.ref h3.length, .ref 54]
    have kq : ∀ k, k < h3.length → h5[k]? = h3[k]? := fun k hk => (kp5 k hk).trans (app_at9 hk)
    have c54 := kq 54 (by omega)
    have d54 := (shp_eqc c54).trans a54
    refine r_putf act (gx gp_134 (w := 0x3000145001d13) rfl (by decide) rfl) (n := 29) (ci := 5) (j := 5) (N := 11) rfl rfl rfl d54 (by decide) (Or.inr (Or.inr (Or.inr ⟨rfl, Or.inr ⟨_, rfl⟩⟩))) ?_
    have g5 : rd (wr h5 54 5 (.ref h3.length)) 54 5 = .ref h3.length := rd_same d54
    have c0 := (rd_ne h5 (k := 54) (j := 5) (.ref h3.length) (Or.inr (by decide))).trans ((rd_of c54 0).trans b0)
    have c1 := (rd_ne h5 (k := 54) (j := 5) (.ref h3.length) (Or.inr (by decide))).trans ((rd_of c54 1).trans b1)
    have c2 := (rd_ne h5 (k := 54) (j := 5) (.ref h3.length) (Or.inr (by decide))).trans ((rd_of c54 2).trans b2)
    have c3 := (rd_ne h5 (k := 54) (j := 5) (.ref h3.length) (Or.inr (by decide))).trans ((rd_of c54 3).trans b3)
    have c4 := (rd_ne h5 (k := 54) (j := 5) (.ref h3.length) (Or.inr (by decide))).trans ((rd_of c54 4).trans b4)
    have c6 := (rd_ne h5 (k := 54) (j := 5) (.ref h3.length) (Or.inr (by decide))).trans ((rd_of c54 6).trans b6)
    have c7 := (rd_ne h5 (k := 54) (j := 5) (.ref h3.length) (Or.inr (by decide))).trans ((rd_of c54 7).trans b7)
    have c8 := (rd_ne h5 (k := 54) (j := 5) (.ref h3.length) (Or.inr (by decide))).trans ((rd_of c54 8).trans b8)
    have c9 := (rd_ne h5 (k := 54) (j := 5) (.ref h3.length) (Or.inr (by decide))).trans ((rd_of c54 9).trans b9)
    have c10 := (rd_ne h5 (k := 54) (j := 5) (.ref h3.length) (Or.inr (by decide))).trans ((rd_of c54 10).trans b10)
    have hGh := hG5.n54 (j := 5) (v := .ref h3.length)
    have kp0 : ∀ k, k < hs.length → k ≠ 54 → (wr h5 54 5 (.ref h3.length))[k]? = hs[k]? := fun k hk h54 => (wr_ne (fun z => h54 z.symm)).trans ((kq k (by omega)).trans (akp k h54))
    have ln0 : (wr h5 54 5 (.ref h3.length)).length = hs.length + 17 := by rw [wr_len, ln5, aln]
    have s54h : shp (wr h5 54 5 (.ref h3.length)) 54 = some (5, 11) := (shp_wr _ _ _ _ _).trans d54
    generalize (wr h5 54 5 (.ref h3.length)) = h0 at *
    obtain ⟨g, eg⟩ : ∃ g, g = h3.length := ⟨_, rfl⟩
    rw [← eg] at g5 hGh
    have gh : g = hs.length := eg.trans aln
    have hg0 : g = 37 ∨ 148 ≤ g := by omega
    have s55h : shp h0 55 = some (34, 700) := (shp_eqc (kp0 55 (by omega) (by decide))).trans s55
    have hTh : TXB h0 tx := hT.cell (kp0 55 (by omega) (by decide))
    have hFh : FLS h0 56 := hF.cell (fun k q1 q2 => kp0 k (by omega) (by omega))
    have rwH : RWC h0 g := ⟨s54h, s55h, c3, c4, g5⟩
    have hR0 := F00_rel
    have hWF : ∀ k j, WKF g k j → WFr 56 k j ∨ k < 56 ∨ 56 + 16 < k := fun k j z => by
      rcases z with (z | z) | z
      · unfold WKr at z; omega
      · unfold WGr at z; omega
      · exact Or.inl z
    have ln9 : ∀ h : List CE, FrS (WKF g) h0 h → h.length = hs.length + 17 := fun h f => f.1.trans ln0
    have kp9 : ∀ h : List CE, FrS (WKF g) h0 h → ∀ k, k < hs.length → k ≠ 54 → ¬ (56 ≤ k ∧ k ≤ 72) → h[k]? = hs[k]? := fun h f k hk h54 h72 => by
      have e0 := kp0 k hk h54
      have hc : ∃ q, shp h0 k = some q := by
        unfold shp
        rw [e0, List.getElem?_eq_getElem hk]
        exact ⟨_, rfl⟩
      obtain ⟨q, hq⟩ := hc
      exact (cell_eq hq (f.2.1 k) (fun j => f.2.2 k j (fun z => by have := WKF_54 z; omega))).trans e0
    have fin9 : ∀ (h : List CE) (k s A P ec ep : Int), CRD h tx g L k s A P ec ep → FrS (WKF g) h0 h → RD0 h tx 0 ec ep := fun h k s A P ec ep hD f => by
      obtain ⟨⟨r1, r2, r3, r4, -⟩, tt, ⟨y1, f1, g1⟩, ⟨y2, f2, g2⟩, -, ⟨y7, f7, -⟩, ⟨y8, f8, -⟩, -, ⟨y10, f10, -⟩, -⟩ := hD
      exact ⟨r1, r2, r3, r4, tt, ⟨0, (f.2.2 54 0 (fun z => by have := WKF_0 (by omega) z; omega)).trans c0, rfl⟩, ⟨y1, f1, g1⟩, ⟨y2, f2, g2⟩, ⟨y7, f7⟩, ⟨y8, f8⟩, ⟨y10, f10⟩, by decide, by decide⟩
    refine g_loadA act (gx gp_134 (w := 0x1e03) rfl (by decide) rfl) (a := 0) (n := 30) rfl rfl rfl ?_
    refine n_call tb_pres act hEnd (gx (P := G_call) gp_134 (w := 0x60000000000008081100007700210f) rfl (by decide) rfl) (d' := D_119) rfl (f' := 1) (lam' := 22) (mc := 0) (ms := 0) (as := [.ref 54]) (rest := []) (cx_advance (show CRD h0 tx g L (Int32.toInt x7) (Int32.toInt x8) ((0 : Nat) : Int) (Int32.toInt x10) ec ep from ⟨rwH, hTh, ⟨_, c1, q1⟩, ⟨_, c2, q2⟩, ⟨_, c6, qL⟩, ⟨_, c7, (rfl : Int32.toInt x7 = _)⟩, ⟨_, c8, (rfl : Int32.toInt x8 = _)⟩, ⟨_, c9, (show (0 : Int32).toInt = ((0 : Nat) : Int) from by decide)⟩, ⟨_, c10, (rfl : Int32.toInt x10 = _)⟩, by omega, by omega, by omega, by omega⟩)) (show (1 : Nat) = fb 0x60000000000008081100007700210f % 16 by decide) (by show (1 : Nat) ≤ 2; decide) (fun _ => ⟨_, _, rfl, _, shp_at rwH.1, Or.inr (show fb 0x60000000000008081100007700210f >>> 68 = 6 by decide)⟩) (by omega) (by show 8 + (2 + 11) + 22 ≤ R.locals; omega) (by show (0 : Nat) ≤ 8; decide) (by show kc + 1 + 20 + 0 ≤ _; omega) (by show ks + 18 + 220 + 0 ≤ _; omega) (fun r9 hp0 hpo hr9 => ?_) (fun x9 hs9 hx9 hpo => ?_)
    · obtain rfl : r9 = none := hr9.elim (fun q => q.2) (fun q => absurd rfl q.1)
      obtain ⟨-, -, hC0, fr0⟩ := hpo
      have ft0 := (FrS.rf (WKF g) h0).tr (fr0.mono (fun _ _ h9 => Or.inl (Or.inl h9)))
      have hF0 := hFh.frW fr0
      have hG0 := hGh.frW fr0 (fun k9 j9 h9 => by unfold WKr at h9; omega)
      have hcc0 := hC0
      obtain ⟨⟨rwZ, hTZ, ⟨x1Z, e1Z, a1Z⟩, ⟨x2Z, e2Z, a2Z⟩, ⟨x6Z, e6Z, a6Z⟩, ⟨x7Z, e7Z, a7Z⟩, ⟨x8Z, e8Z, a8Z⟩, ⟨x9Z, e9Z, a9Z⟩, ⟨x10Z, e10Z, a10Z⟩, q1Z, q2Z, q3Z, q4Z⟩, qsZ, qtZ⟩ := hcc0
      show WpN (gp g0 wp) CLS p l e R sW m args below meth cW Q D_134.2.2.1 kc0 ks0 33 [some (.ref 54)] (hp0, kc + 1 + 20, ks + 18 + 220) []
      refine g_loadA act (gx gp_134 (w := 0x2203) rfl (by decide) rfl) (a := 0) (n := 34) rfl rfl rfl ?_
      refine n_call tb_pres act hEnd (gx (P := G_call) gp_134 (w := 0x60000000000008041100008500250f) rfl (by decide) rfl) (d' := D_133) rfl (f' := 10) (lam' := 165) (mc := 5) (ms := 55) (as := [.ref 54]) (rest := []) (cx_readSizes hG0 hR0 hC0) (show (1 : Nat) = fb 0x60000000000008041100008500250f % 16 by decide) (by show (1 : Nat) ≤ 1; decide) (fun _ => ⟨_, _, rfl, _, shp_at rwZ.1, Or.inr (show fb 0x60000000000008041100008500250f >>> 68 = 6 by decide)⟩) (by omega) (by show 8 + (1 + 11) + 165 ≤ R.locals; omega) (by show (0 : Nat) ≤ 8; decide) (by show kc + 1 + 20 + 5 ≤ _; omega) (by show ks + 18 + 220 + 55 ≤ _; omega) (fun r9 hp1 hpo hr9 => ?_) (fun x9 hs9 hx9 hpo => ?_)
      · obtain rfl : r9 = none := hr9.elim (fun q => q.2) (fun q => absurd rfl q.1)
        obtain ⟨-, -, s1, P1, a, b, F1, hh1, ha1, ha2, hb1, hb2, hC1, hG1, hR1, fr1⟩ := hpo.resolve_right (fun z => absurd z.1 (by decide))
        have ft1 := ft0.tr (fr1.mono (fun _ _ h9 => Or.inl h9))
        have hF1 := hF0.frK hg0 fr1
        have hT1 := txt_go hh1
        obtain ⟨fv1, ef1⟩ : ∃ f : Nat → Int, f = upI (upI (fun _ => 0) 0 a) 1 b := ⟨_, rfl⟩
        rw [← ef1] at hT1 hR1
        have f0 : fv1 0 = a := by rw [ef1]; rfl
        have f1 : fv1 1 = b := by rw [ef1]; rfl
        have f2 : fv1 2 = ((0 : Nat) : Int) := by rw [ef1]; rfl
        have f3 : fv1 3 = ((0 : Nat) : Int) := by rw [ef1]; rfl
        have f4 : fv1 4 = ((0 : Nat) : Int) := by rw [ef1]; rfl
        obtain ⟨n, en⟩ : ∃ n : Nat, n = (a - 1).toNat := ⟨_, rfl⟩
        have hnI : a = (n : Int) + 1 := by omega
        rw [← en] at hT1
        have hcc1 := hC1
        obtain ⟨⟨rw_u2, hT_u2, ⟨x1_u2, e1_u2, a1_u2⟩, ⟨x2_u2, e2_u2, a2_u2⟩, ⟨x6_u2, e6_u2, a6_u2⟩, ⟨x7_u2, e7_u2, a7_u2⟩, ⟨x8_u2, e8_u2, a8_u2⟩, ⟨x9_u2, e9_u2, a9_u2⟩, ⟨x10_u2, e10_u2, a10_u2⟩, q1_u2, q2_u2, q3_u2, q4_u2⟩, qs_u2, qt_u2⟩ := hcc1
        have qv_u2 := tkE_le (T := tx) (L := L) (s := s1) (by omega)
        show WpN (gp g0 wp) CLS p l e R sW m args below meth cW Q D_134.2.2.1 kc0 ks0 37 [some (.ref 54)] (hp1, kc + 1 + 20 + 5, ks + 18 + 220 + 55) []
        refine g_loadA act (gx gp_134 (w := 0x2603) rfl (by decide) rfl) (a := 0) (n := 38) rfl rfl rfl ?_
        refine n_call tb_pres act hEnd (gx (P := G_call) gp_134 (w := 0x60000000000008181100007e00290f) rfl (by decide) rfl) (d' := D_126) rfl (f' := 11) (lam' := 187) (mc := 49) (ms := 539) (as := [.ref 54]) (rest := []) (cx_readLines (by omega) (by omega) f2 hG1 hR1 hC1) (show (1 : Nat) = fb 0x60000000000008181100007e00290f % 16 by decide) (by show (1 : Nat) ≤ 6; decide) (fun _ => ⟨_, _, rfl, _, shp_at rw_u2.1, Or.inr (show fb 0x60000000000008181100007e00290f >>> 68 = 6 by decide)⟩) (by omega) (by show 8 + (6 + 11) + 187 ≤ R.locals; omega) (by show (0 : Nat) ≤ 8; decide) (by show kc + 1 + 20 + 5 + 49 ≤ _; omega) (by show ks + 18 + 220 + 55 + 539 ≤ _; omega) (fun r9 hp2 hpo hr9 => ?_) (fun x9 hs9 hx9 hpo => ?_)
        · obtain rfl : r9 = none := hr9.elim (fun q => q.2) (fun q => absurd rfl q.1)
          obtain ⟨-, -, s2, P2, F2, fv2, gv2, nl, hh2, hC2, hG2, hR2, hnl6, hnl2, hk0, hk1, hk3, hk4, hrg2, fr2⟩ := hpo.resolve_right (fun z => absurd z.1 (by decide))
          have ft2 := ft1.tr (fr2.mono (fun _ _ h9 => Or.inl h9))
          have hF2 := hF1.frK hg0 fr2
          have hT2 := hT1.trans (bod_go hh2)
          have hcc2 := hC2
          obtain ⟨⟨rw_u3, hT_u3, ⟨x1_u3, e1_u3, a1_u3⟩, ⟨x2_u3, e2_u3, a2_u3⟩, ⟨x6_u3, e6_u3, a6_u3⟩, ⟨x7_u3, e7_u3, a7_u3⟩, ⟨x8_u3, e8_u3, a8_u3⟩, ⟨x9_u3, e9_u3, a9_u3⟩, ⟨x10_u3, e10_u3, a10_u3⟩, q1_u3, q2_u3, q3_u3, q4_u3⟩, qs_u3, qt_u3⟩ := hcc2
          have qv_u3 := tkE_le (T := tx) (L := L) (s := s2) (by omega)
          show WpN (gp g0 wp) CLS p l e R sW m args below meth cW Q D_134.2.2.1 kc0 ks0 41 [some (.ref 54)] (hp2, kc + 1 + 20 + 5 + 49, ks + 18 + 220 + 55 + 539) []
          refine g_loadA act (gx gp_134 (w := 0x2a03) rfl (by decide) rfl) (a := 0) (n := 42) rfl rfl rfl ?_
          refine n_call tb_pres act hEnd (gx (P := G_call) gp_134 (w := 0x600000000000080811000078002d0f) rfl (by decide) rfl) (d' := D_120) rfl (f' := 9) (lam' := 142) (mc := 2) (ms := 22) (as := [.ref 54]) (rest := []) (cx_checkCon (n9 := n) hF2 hG2 hR2 hnl2 hnl6 (hk0.trans (f0.trans hnI)) (by omega) (by omega) hrg2 hC2) (show (1 : Nat) = fb 0x600000000000080811000078002d0f % 16 by decide) (by show (1 : Nat) ≤ 2; decide) (fun _ => ⟨_, _, rfl, _, shp_at rw_u3.1, Or.inr (show fb 0x600000000000080811000078002d0f >>> 68 = 6 by decide)⟩) (by omega) (by show 8 + (2 + 11) + 142 ≤ R.locals; omega) (by show (0 : Nat) ≤ 8; decide) (by show kc + 1 + 20 + 5 + 49 + 2 ≤ _; omega) (by show ks + 18 + 220 + 55 + 539 + 22 ≤ _; omega) (fun r9 hp3 hpo hr9 => ?_) (fun x9 hs9 hx9 hpo => ?_)
          · obtain rfl : r9 = none := hr9.elim (fun q => q.2) (fun q => absurd rfl q.1)
            obtain ⟨-, -, hbe, hcut, hC3, hG3, hF3, fr3⟩ := hpo.resolve_right (fun z => absurd z.1 (by decide))
            have ft3 := ft2.tr fr3
            obtain ⟨s3, es3⟩ : ∃ z : Int, z = s2 := ⟨_, rfl⟩
            obtain ⟨P3, eP3⟩ : ∃ z : Int, z = P2 := ⟨_, rfl⟩
            rw [← es3, ← eP3] at hC3
            have hT3 := hT2.trans ((mid_go hbe).trans (con_go hcut))
            rw [← es3] at hT3
            have hcc3 := hC3
            obtain ⟨⟨rw_u4, hT_u4, ⟨x1_u4, e1_u4, a1_u4⟩, ⟨x2_u4, e2_u4, a2_u4⟩, ⟨x6_u4, e6_u4, a6_u4⟩, ⟨x7_u4, e7_u4, a7_u4⟩, ⟨x8_u4, e8_u4, a8_u4⟩, ⟨x9_u4, e9_u4, a9_u4⟩, ⟨x10_u4, e10_u4, a10_u4⟩, q1_u4, q2_u4, q3_u4, q4_u4⟩, qs_u4, qt_u4⟩ := hcc3
            have qv_u4 := tkE_le (T := tx) (L := L) (s := s3) (by omega)
            show WpN (gp g0 wp) CLS p l e R sW m args below meth cW Q D_134.2.2.1 kc0 ks0 45 [some (.ref 54)] (hp3, kc + 1 + 20 + 5 + 49 + 2, ks + 18 + 220 + 55 + 539 + 22) []
            refine g_loadA act (gx gp_134 (w := 0x2e03) rfl (by decide) rfl) (a := 0) (n := 46) rfl rfl rfl ?_
            refine n_call tb_pres act hEnd (gx (P := G_call) gp_134 (w := 0x60000000000008141100007d00310f) rfl (by decide) rfl) (d' := D_125) rfl (f' := 11) (lam' := 185) (mc := 30) (ms := 330) (as := [.ref 54]) (rest := []) (cx_readGens (by omega) (by omega) (by rw [hk3, f3]) hG3 hR2 hC3) (show (1 : Nat) = fb 0x60000000000008141100007d00310f % 16 by decide) (by show (1 : Nat) ≤ 5; decide) (fun _ => ⟨_, _, rfl, _, shp_at rw_u4.1, Or.inr (show fb 0x60000000000008141100007d00310f >>> 68 = 6 by decide)⟩) (by omega) (by show 8 + (5 + 11) + 185 ≤ R.locals; omega) (by show (0 : Nat) ≤ 8; decide) (by show kc + 1 + 20 + 5 + 49 + 2 + 30 ≤ _; omega) (by show ks + 18 + 220 + 55 + 539 + 22 + 330 ≤ _; omega) (fun r9 hp4 hpo hr9 => ?_) (fun x9 hs9 hx9 hpo => ?_)
            · obtain rfl : r9 = none := hr9.elim (fun q => q.2) (fun q => absurd rfl q.1)
              obtain ⟨-, -, s4, P4, F4, fv4, gv4, ng, hh4, hC4, hG4, hR4, hng6, hng2, hkp4, fr4⟩ := hpo.resolve_right (fun z => absurd z.1 (by decide))
              have ft4 := ft3.tr (fr4.mono (fun _ _ h9 => Or.inl h9))
              have hF4 := hF3.frK hg0 fr4
              have hT4 := hT3.trans (tl1_go hh4)
              have k40 := hkp4 0 (by omega)
              have k41 := hkp4 1 (by omega)
              have k42 := hkp4 2 (by omega)
              have k44 := hkp4 4 (by omega)
              have hcc4 := hC4
              obtain ⟨⟨rw_u5, hT_u5, ⟨x1_u5, e1_u5, a1_u5⟩, ⟨x2_u5, e2_u5, a2_u5⟩, ⟨x6_u5, e6_u5, a6_u5⟩, ⟨x7_u5, e7_u5, a7_u5⟩, ⟨x8_u5, e8_u5, a8_u5⟩, ⟨x9_u5, e9_u5, a9_u5⟩, ⟨x10_u5, e10_u5, a10_u5⟩, q1_u5, q2_u5, q3_u5, q4_u5⟩, qs_u5, qt_u5⟩ := hcc4
              have qv_u5 := tkE_le (T := tx) (L := L) (s := s4) (by omega)
              show WpN (gp g0 wp) CLS p l e R sW m args below meth cW Q D_134.2.2.1 kc0 ks0 49 [some (.ref 54)] (hp4, kc + 1 + 20 + 5 + 49 + 2 + 30, ks + 18 + 220 + 55 + 539 + 22 + 330) []
              refine g_loadA act (gx gp_134 (w := 0x3203) rfl (by decide) rfl) (a := 0) (n := 50) rfl rfl rfl ?_
              refine n_call tb_pres act hEnd (gx (P := G_call) gp_134 (w := 0x60000000000008101100007c00350f) rfl (by decide) rfl) (d' := D_124) rfl (f' := 11) (lam' := 185) (mc := 570) (ms := 6270) (as := [.ref 54]) (rest := []) (cx_readDems (by omega) (by omega) (by omega) (by omega) hG4 hR4 hC4) (show (1 : Nat) = fb 0x60000000000008101100007c00350f % 16 by decide) (by show (1 : Nat) ≤ 4; decide) (fun _ => ⟨_, _, rfl, _, shp_at rw_u5.1, Or.inr (show fb 0x60000000000008101100007c00350f >>> 68 = 6 by decide)⟩) (by omega) (by show 8 + (4 + 11) + 185 ≤ R.locals; omega) (by show (0 : Nat) ≤ 8; decide) (by show kc + 1 + 20 + 5 + 49 + 2 + 30 + 570 ≤ _; omega) (by show ks + 18 + 220 + 55 + 539 + 22 + 330 + 6270 ≤ _; omega) (fun r9 hp5 hpo hr9 => ?_) (fun x9 hs9 hx9 hpo => ?_)
              · obtain rfl : r9 = none := hr9.elim (fun q => q.2) (fun q => absurd rfl q.1)
                obtain ⟨-, -, s5, P5, F5, gv5, hh5, hC5, hG5, hR5, fr5⟩ := hpo.resolve_right (fun z => absurd z.1 (by decide))
                have ft5 := ft4.tr (fr5.mono (fun _ _ h9 => Or.inl h9))
                have hF5 := hF4.frK hg0 fr5
                have hT5 := hT4.trans (tl2_go hh5)
                have hcc5 := hC5
                obtain ⟨⟨rw_u6, hT_u6, ⟨x1_u6, e1_u6, a1_u6⟩, ⟨x2_u6, e2_u6, a2_u6⟩, ⟨x6_u6, e6_u6, a6_u6⟩, ⟨x7_u6, e7_u6, a7_u6⟩, ⟨x8_u6, e8_u6, a8_u6⟩, ⟨x9_u6, e9_u6, a9_u6⟩, ⟨x10_u6, e10_u6, a10_u6⟩, q1_u6, q2_u6, q3_u6, q4_u6⟩, qs_u6, qt_u6⟩ := hcc5
                have qv_u6 := tkE_le (T := tx) (L := L) (s := s5) (by omega)
                show WpN (gp g0 wp) CLS p l e R sW m args below meth cW Q D_134.2.2.1 kc0 ks0 53 [some (.ref 54)] (hp5, kc + 1 + 20 + 5 + 49 + 2 + 30 + 570, ks + 18 + 220 + 55 + 539 + 22 + 330 + 6270) []
                refine g_loadA act (gx gp_134 (w := 0x3603) rfl (by decide) rfl) (a := 0) (n := 54) rfl rfl rfl ?_
                refine n_call tb_pres act hEnd (gx (P := G_call) gp_134 (w := 0x60000000000008181100008300390f) rfl (by decide) rfl) (d' := D_131) rfl (f' := 11) (lam' := 187) (mc := 49) (ms := 539) (as := [.ref 54]) (rest := []) (cx_readRigs (by omega) (by omega) (by omega) hG5 hR5 hC5) (show (1 : Nat) = fb 0x60000000000008181100008300390f % 16 by decide) (by show (1 : Nat) ≤ 6; decide) (fun _ => ⟨_, _, rfl, _, shp_at rw_u6.1, Or.inr (show fb 0x60000000000008181100008300390f >>> 68 = 6 by decide)⟩) (by omega) (by show 8 + (6 + 11) + 187 ≤ R.locals; omega) (by show (0 : Nat) ≤ 8; decide) (by show kc + 1 + 20 + 5 + 49 + 2 + 30 + 570 + 49 ≤ _; omega) (by show ks + 18 + 220 + 55 + 539 + 22 + 330 + 6270 + 539 ≤ _; omega) (fun r9 hp6 hpo hr9 => ?_) (fun x9 hs9 hx9 hpo => ?_)
                · obtain rfl : r9 = none := hr9.elim (fun q => q.2) (fun q => absurd rfl q.1)
                  obtain ⟨-, -, s6, P6, F6, fv6, gv6, nr, hh6, hC6, hG6, hR6, hnr6, hnr2, hkp6, hgv6, fr6⟩ := hpo.resolve_right (fun z => absurd z.1 (by decide))
                  have ft6 := ft5.tr (fr6.mono (fun _ _ h9 => Or.inl h9))
                  have hF6 := hF5.frK hg0 fr6
                  have hT6 := hT5.trans (tl3_go hh6)
                  have i0 := hkp6 0 (by omega)
                  have i1 := hkp6 1 (by omega)
                  have i2 := hkp6 2 (by omega)
                  have i3 := hkp6 3 (by omega)
                  have hrg6 : LRG fv6 nl := hrg2.of hnl6 (by omega) (fun j q1 q2 => (hkp6 j (by omega)).trans (hkp4 j (by omega)))
                  have hcc6 := hC6
                  obtain ⟨⟨rw_u7, hT_u7, ⟨x1_u7, e1_u7, a1_u7⟩, ⟨x2_u7, e2_u7, a2_u7⟩, ⟨x6_u7, e6_u7, a6_u7⟩, ⟨x7_u7, e7_u7, a7_u7⟩, ⟨x8_u7, e8_u7, a8_u7⟩, ⟨x9_u7, e9_u7, a9_u7⟩, ⟨x10_u7, e10_u7, a10_u7⟩, q1_u7, q2_u7, q3_u7, q4_u7⟩, qs_u7, qt_u7⟩ := hcc6
                  have qv_u7 := tkE_le (T := tx) (L := L) (s := s6) (by omega)
                  show WpN (gp g0 wp) CLS p l e R sW m args below meth cW Q D_134.2.2.1 kc0 ks0 57 [some (.ref 54)] (hp6, kc + 1 + 20 + 5 + 49 + 2 + 30 + 570 + 49, ks + 18 + 220 + 55 + 539 + 22 + 330 + 6270 + 539) []
                  refine g_loadA act (gx gp_134 (w := 0x3a03) rfl (by decide) rfl) (a := 0) (n := 58) rfl rfl rfl ?_
                  refine n_call tb_pres act hEnd (gx (P := G_call) gp_134 (w := 0x600000000000080411000082003d0f) rfl (by decide) rfl) (d' := D_130) rfl (f' := 10) (lam' := 165) (mc := 3) (ms := 33) (as := [.ref 54]) (rest := []) (cx_readOut (n9 := n) hF6 hG6 hR6 (by omega) hnl6 (i0.trans (k40.trans (hk0.trans (f0.trans hnI)))) (by omega) (by omega) hrg6 rfl (hcut.pos (by omega)) hC6) (show (1 : Nat) = fb 0x600000000000080411000082003d0f % 16 by decide) (by show (1 : Nat) ≤ 1; decide) (fun _ => ⟨_, _, rfl, _, shp_at rw_u7.1, Or.inr (show fb 0x600000000000080411000082003d0f >>> 68 = 6 by decide)⟩) (by omega) (by show 8 + (1 + 11) + 165 ≤ R.locals; omega) (by show (0 : Nat) ≤ 8; decide) (by show kc + 1 + 20 + 5 + 49 + 2 + 30 + 570 + 49 + 3 ≤ _; omega) (by show ks + 18 + 220 + 55 + 539 + 22 + 330 + 6270 + 539 + 33 ≤ _; omega) (fun r9 hp7 hpo hr9 => ?_) (fun x9 hs9 hx9 hpo => ?_)
                  · obtain rfl : r9 = none := hr9.elim (fun q => q.2) (fun q => absurd rfl q.1)
                    obtain ⟨-, -, s7, P7, o2, F7, hh7, hC7, hG7, hR7, ho2, hF7, fr7⟩ := hpo.resolve_right (fun z => absurd z.1 (by decide))
                    have ft7 := ft6.tr fr7
                    have hT7 := hT6.trans (tl4_go hh7)
                    have hcc7 := hC7
                    obtain ⟨⟨rw_u8, hT_u8, ⟨x1_u8, e1_u8, a1_u8⟩, ⟨x2_u8, e2_u8, a2_u8⟩, ⟨x6_u8, e6_u8, a6_u8⟩, ⟨x7_u8, e7_u8, a7_u8⟩, ⟨x8_u8, e8_u8, a8_u8⟩, ⟨x9_u8, e9_u8, a9_u8⟩, ⟨x10_u8, e10_u8, a10_u8⟩, q1_u8, q2_u8, q3_u8, q4_u8⟩, qs_u8, qt_u8⟩ := hcc7
                    have qv_u8 := tkE_le (T := tx) (L := L) (s := s7) (by omega)
                    show WpN (gp g0 wp) CLS p l e R sW m args below meth cW Q D_134.2.2.1 kc0 ks0 61 [some (.ref 54)] (hp7, kc + 1 + 20 + 5 + 49 + 2 + 30 + 570 + 49 + 3, ks + 18 + 220 + 55 + 539 + 22 + 330 + 6270 + 539 + 33) []
                    refine g_loadA act (gx gp_134 (w := 0x3e03) rfl (by decide) rfl) (a := 0) (n := 62) rfl rfl rfl ?_
                    refine r_getf act (gx gp_134 (w := 0x1c5004104) rfl (by decide) rfl) (n := 65) (ci := 5) (j := 7) (N := 11) rfl rfl rfl rw_u8.1 (by decide) (v := .int x7_u8) e7_u8 ?_
                    refine g_constI act (gx gp_134 (w := 0x40000001c00000019000000004201) rfl (by decide) rfl) (n := 66) (x := (3 : Int32)) (by decide) rfl ?_
                    refine g_icmpEq act (gx gp_134 (w := 0x4e00452e) rfl (by decide) rfl) (tgt := 78) (n := 69) rfl rfl (fun h19 => ?_) (fun h19 => ?_)
                    · simp only [i_eq, show (3 : Int32).toInt = 3 from by decide] at h19
                      refine g_loadA act (gx gp_134 (w := 0x4f03) rfl (by decide) rfl) (a := 0) (n := 79) rfl rfl rfl ?_
                      refine g_constI act (gx gp_134 (w := 0x40000000400000001000000005001) rfl (by decide) rfl) (n := 80) (x := (0 : Int32)) (by decide) rfl ?_
                      refine r_putf act (gx gp_134 (w := 0x45005313) rfl (by decide) rfl) (n := 83) (ci := 5) (j := 1) (N := 11) rfl rfl rfl rw_u8.1 (by decide) (Or.inl ⟨rfl, _, rfl⟩) ?_
                      have rw_10 := RWC.wr54 (j := 1) (v := .int (0 : Int32)) rw_u8 (by decide)
                      have f_11 := hT_u8.ne (k := 54) (j := 1) (v := .int (0 : Int32)) (by decide)
                      have f_13 := (rd_ne hp7 (k := 54) (j := 1) (.int (0 : Int32)) (Or.inr (by decide))).trans e2_u8
                      have f_14 := (rd_ne hp7 (k := 54) (j := 1) (.int (0 : Int32)) (Or.inr (by decide))).trans e6_u8
                      have f_15 := (rd_ne hp7 (k := 54) (j := 1) (.int (0 : Int32)) (Or.inr (by decide))).trans e7_u8
                      have f_16 := (rd_ne hp7 (k := 54) (j := 1) (.int (0 : Int32)) (Or.inr (by decide))).trans e8_u8
                      have f_17 := (rd_ne hp7 (k := 54) (j := 1) (.int (0 : Int32)) (Or.inr (by decide))).trans e9_u8
                      have f_18 := (rd_ne hp7 (k := 54) (j := 1) (.int (0 : Int32)) (Or.inr (by decide))).trans e10_u8
                      have f_19 := hG7.n54 (j := 1) (v := .int (0 : Int32))
                      have f_20 := rd_same (j := 1) (v := .int (0 : Int32)) rw_u8.1
                      have fr_21 := ft7.wr (k := 54) (j := 1) (.int (0 : Int32)) (Or.inl (Or.inl (by unfold WKr; omega)))
                      have f_9 := hF7.frW ((FrS.rf WKr _).wr (k := 54) (j := 1) (.int (0 : Int32)) (by unfold WKr; omega))
                      clear rw_u8 hT_u8 e1_u8 e2_u8 e6_u8 e7_u8 e8_u8 e9_u8 e10_u8 hG7 ft7
                      generalize (wr hp7 54 1 (.int (0 : Int32))) = hs_22 at *
                      refine g_loadA act (gx gp_134 (w := 0x5403) rfl (by decide) rfl) (a := 0) (n := 84) rfl rfl rfl ?_
                      refine g_constI act (gx gp_134 (w := 0x3fffffffbfffffff9000000005501) rfl (by decide) rfl) (n := 85) (x := (-1 : Int32)) (by decide) rfl ?_
                      refine r_putf act (gx gp_134 (w := 0x85005813) rfl (by decide) rfl) (n := 88) (ci := 5) (j := 2) (N := 11) rfl rfl rfl rw_10.1 (by decide) (Or.inl ⟨rfl, _, rfl⟩) ?_
                      have rw_24 := RWC.wr54 (j := 2) (v := .int (-1 : Int32)) rw_10 (by decide)
                      have f_25 := f_11.ne (k := 54) (j := 2) (v := .int (-1 : Int32)) (by decide)
                      have f_27 := (rd_ne hs_22 (k := 54) (j := 2) (.int (-1 : Int32)) (Or.inr (by decide))).trans f_14
                      have f_28 := (rd_ne hs_22 (k := 54) (j := 2) (.int (-1 : Int32)) (Or.inr (by decide))).trans f_15
                      have f_29 := (rd_ne hs_22 (k := 54) (j := 2) (.int (-1 : Int32)) (Or.inr (by decide))).trans f_16
                      have f_30 := (rd_ne hs_22 (k := 54) (j := 2) (.int (-1 : Int32)) (Or.inr (by decide))).trans f_17
                      have f_31 := (rd_ne hs_22 (k := 54) (j := 2) (.int (-1 : Int32)) (Or.inr (by decide))).trans f_18
                      have f_32 := f_19.n54 (j := 2) (v := .int (-1 : Int32))
                      have f_33 := (rd_ne hs_22 (k := 54) (j := 2) (.int (-1 : Int32)) (Or.inr (by decide))).trans f_20
                      have f_34 := rd_same (j := 2) (v := .int (-1 : Int32)) rw_10.1
                      have fr_35 := fr_21.wr (k := 54) (j := 2) (.int (-1 : Int32)) (Or.inl (Or.inl (by unfold WKr; omega)))
                      have f_23 := f_9.frW ((FrS.rf WKr _).wr (k := 54) (j := 2) (.int (-1 : Int32)) (by unfold WKr; omega))
                      clear rw_10 f_11 f_13 f_14 f_15 f_16 f_17 f_18 f_19 f_20 fr_21
                      generalize (wr hs_22 54 2 (.int (-1 : Int32))) = hs_36 at *
                      refine g_loadA act (gx gp_134 (w := 0x5903) rfl (by decide) rfl) (a := 0) (n := 89) rfl rfl rfl ?_
                      refine r_getf act (gx gp_134 (w := 0x3000145005c04) rfl (by decide) rfl) (n := 92) (ci := 5) (j := 5) (N := 11) rfl rfl rfl rw_24.1 (by decide) (v := .ref g) rw_24.2.2.2.2 ?_
                      have hD9 := (show CRD hs_36 tx g L (tkK tx L s7) s7 (tkE tx L s7) P7 0 (-1) from ⟨rw_24, f_25, ⟨_, f_33, (by have q9 := (show (0 : Int32).toInt = ((0 : Nat) : Int) from by decide); omega)⟩, ⟨_, f_34, (by have q9 := (show (-1 : Int32).toInt = (-1 : Int) from by decide); omega)⟩, ⟨_, f_27, a6_u8⟩, ⟨_, f_28, a7_u8⟩, ⟨_, f_29, a8_u8⟩, ⟨_, f_30, a9_u8⟩, ⟨_, f_31, a10_u8⟩, by omega, by omega, by omega, by omega⟩)
                      have y0 := hT7.trans (fin_go (by have q9 := (tkK_end (T := tx) (L := L) (s := s7)).mp (by omega); exact q9))
                      have hF8 := f_23
                      have hG8 := f_32
                      subst gh
                      exact g_retA hEnd (gx gp_134 (w := 0x31) rfl (by decide) rfl) (Or.inr ⟨_, rfl⟩) (Or.inl ⟨rfl, rfl, ⟨_, _, _, _, _, _, _, _, n, y0, hG8, hR7, by omega, by omega, by omega, by omega, by omega, by omega, hnl6, by omega, hng6, hnr2, hnr6, ho2.elim (fun q => by rw [q]; decide) (fun q => Int.le_trans (by decide) q.1), ho2.elim (fun q => by rw [q]; decide) (fun q => nl5 q.2 hnl6), hrg6, hcut.of hnl6 (fun j q1 q2 => (hkp6 j (by omega)).trans (hkp4 j (by omega)))⟩, fin9 _ _ _ _ _ _ _ hD9 fr_35, ln9 _ fr_35, hF8, kp9 _ fr_35⟩) (by show kc + 1 + 20 + 5 + 49 + 2 + 30 + 570 + 49 + 3 ≤ kc + 730; omega) (by show ks + 18 + 220 + 55 + 539 + 22 + 330 + 6270 + 539 + 33 ≤ ks + 8050; omega)
                    · simp only [i_eq, show (3 : Int32).toInt = 3 from by decide] at h19
                      refine g_loadA act (gx gp_134 (w := 0x4603) rfl (by decide) rfl) (a := 0) (n := 70) rfl rfl rfl ?_
                      refine g_constI act (gx gp_134 (w := 0x40000000c00000009000000004701) rfl (by decide) rfl) (n := 71) (x := (1 : Int32)) (by decide) rfl ?_
                      refine g_loadA act (gx gp_134 (w := 0x4803) rfl (by decide) rfl) (a := 0) (n := 72) rfl rfl rfl ?_
                      refine r_getf act (gx gp_134 (w := 0x205004b04) rfl (by decide) rfl) (n := 75) (ci := 5) (j := 8) (N := 11) rfl rfl rfl rw_u8.1 (by decide) (v := .int x8_u8) e8_u8 ?_
                      refine n_call tb_pres act hEnd (gx (P := G_call) gp_134 (w := 0x600000000000080c33000088004e0f) rfl (by decide) rfl) (d' := D_136) rfl (f' := 8) (lam' := 120) (mc := 1) (ms := 11) (as := [.ref 54, .int (1 : Int32), .int x8_u8]) (rest := []) (cx_refuse (c1 := (1 : Int32)) (c2 := x8_u8) (show CRD hp7 tx g L (tkK tx L s7) s7 (tkE tx L s7) P7 ec ep from ⟨rw_u8, hT_u8, ⟨_, e1_u8, a1_u8⟩, ⟨_, e2_u8, a2_u8⟩, ⟨_, e6_u8, a6_u8⟩, ⟨_, e7_u8, a7_u8⟩, ⟨_, e8_u8, a8_u8⟩, ⟨_, e9_u8, a9_u8⟩, ⟨_, e10_u8, a10_u8⟩, by omega, by omega, by omega, by omega⟩)) (show (3 : Nat) = fb 0x600000000000080c33000088004e0f % 16 by decide) (by show (3 : Nat) ≤ 3; decide) (fun _ => ⟨_, _, rfl, _, shp_at rw_u8.1, Or.inr (show fb 0x600000000000080c33000088004e0f >>> 68 = 6 by decide)⟩) (by omega) (by show 8 + (3 + 11) + 120 ≤ R.locals; omega) (by show (0 : Nat) ≤ 8; decide) (by show kc + 1 + 20 + 5 + 49 + 2 + 30 + 570 + 49 + 3 + 1 ≤ _; omega) (by show ks + 18 + 220 + 55 + 539 + 22 + 330 + 6270 + 539 + 33 + 11 ≤ _; omega) (fun r9 h3 hpo hr9 => ?_) (fun x9 hs9 hx9 hpo => ?_)
                      · obtain rfl : r9 = none := hr9.elim (fun q => q.2) (fun q => absurd rfl q.1)
                        exact absurd hpo.1 (by decide)
                      · obtain ⟨hk_c37, -, hD_c37, fr_c37⟩ := hpo
                        rw [(show (1 : Int32).toInt = ((1 : Nat) : Int) from by decide), a8_u8] at hD_c37
                        have hE_c37 : ER hs9 tx g L ((1 : Nat) : Int) s7 := ⟨_, _, _, _, hD_c37⟩
                        have ft_c37 := ft7.tr (fr_c37.mono (fun _ _ h9 => Or.inl (Or.inl h9)))
                        have y0 := hT7.trans (fin_no (nl := nl) (ng := ng) (nr := nr) (d := (fv6, upI gv6 38 o2)) (tk_lt (tx := tx) (L := L) (s := s7) (by omega)))
                        have y1 : (sText tx L).1 = 1 := by rw [y0]; rfl
                        have y2 : (sText tx L).2.1 = s7 := by rw [y0]; rfl
                        have hn9 : (1 : Int) ≠ 0 := by decide
                        have hF8 := hF7.frW fr_c37
                        obtain ⟨kE, sE, AE, PE9, hD9⟩ := hE_c37
                        refine Or.inr ⟨rfl, Or.inr ⟨by omega, rfl, by rw [y1]; exact hn9, by rw [y1, y2]; exact fin9 _ _ _ _ _ _ _ hD9 ft_c37, ln9 _ ft_c37, hF8, kp9 _ ft_c37⟩, by show kc + 1 + 20 + 5 + 49 + 2 + 30 + 570 + 49 + 3 + 1 ≤ kc + 730; omega, by show ks + 18 + 220 + 55 + 539 + 22 + 330 + 6270 + 539 + 33 + 11 ≤ ks + 8050; omega⟩
                  · obtain ⟨hk9, -, hn9, hE9, fr7⟩ := hpo.resolve_left (fun z => absurd z.1 (by omega))
                    have ft7 := ft6.tr fr7
                    have hF7 := hF6.fr fr7 (fun k9 j9 h9 => hWF k9 j9 h9)
                    obtain ⟨y1, y2⟩ := tl4_bad (nl := nl) (n := n) (ng := ng) (nr := nr) hn9
                    rw [← hT6] at y1 y2
                    obtain ⟨kE, sE, AE, PE9, hD9⟩ := hE9
                    refine Or.inr ⟨rfl, Or.inr ⟨by omega, rfl, by rw [y1]; exact hn9, by rw [y1, y2]; exact fin9 _ _ _ _ _ _ _ hD9 ft7, ln9 _ ft7, hF7, kp9 _ ft7⟩, by show kc + 1 + 20 + 5 + 49 + 2 + 30 + 570 + 49 + 3 ≤ kc + 730; omega, by show ks + 18 + 220 + 55 + 539 + 22 + 330 + 6270 + 539 + 33 ≤ ks + 8050; omega⟩
                · obtain ⟨hk9, -, hn9, hE9, fr6⟩ := hpo.resolve_left (fun z => absurd z.1 (by omega))
                  have ft6 := ft5.tr (fr6.mono (fun _ _ h9 => Or.inl h9))
                  have hF6 := hF5.frK hg0 fr6
                  obtain ⟨y1, y2⟩ := tl3_bad (n := n) (nl := nl) (ng := ng) hn9
                  rw [← hT5] at y1 y2
                  obtain ⟨kE, sE, AE, PE9, hD9⟩ := hE9
                  refine Or.inr ⟨rfl, Or.inr ⟨by omega, rfl, by rw [y1]; exact hn9, by rw [y1, y2]; exact fin9 _ _ _ _ _ _ _ hD9 ft6, ln9 _ ft6, hF6, kp9 _ ft6⟩, by show kc + 1 + 20 + 5 + 49 + 2 + 30 + 570 + 49 ≤ kc + 730; omega, by show ks + 18 + 220 + 55 + 539 + 22 + 330 + 6270 + 539 ≤ ks + 8050; omega⟩
              · obtain ⟨hk9, -, hn9, hE9, fr5⟩ := hpo.resolve_left (fun z => absurd z.1 (by omega))
                have ft5 := ft4.tr (fr5.mono (fun _ _ h9 => Or.inl h9))
                have hF5 := hF4.frK hg0 fr5
                obtain ⟨y1, y2⟩ := tl2_bad (n := n) (nl := nl) (ng := ng) hn9
                rw [← hT4] at y1 y2
                obtain ⟨kE, sE, AE, PE9, hD9⟩ := hE9
                refine Or.inr ⟨rfl, Or.inr ⟨by omega, rfl, by rw [y1]; exact hn9, by rw [y1, y2]; exact fin9 _ _ _ _ _ _ _ hD9 ft5, ln9 _ ft5, hF5, kp9 _ ft5⟩, by show kc + 1 + 20 + 5 + 49 + 2 + 30 + 570 ≤ kc + 730; omega, by show ks + 18 + 220 + 55 + 539 + 22 + 330 + 6270 ≤ ks + 8050; omega⟩
            · obtain ⟨hk9, -, hn9, hE9, fr4⟩ := hpo.resolve_left (fun z => absurd z.1 (by omega))
              have ft4 := ft3.tr (fr4.mono (fun _ _ h9 => Or.inl h9))
              have hF4 := hF3.frK hg0 fr4
              obtain ⟨y1, y2⟩ := tl1_bad (n := n) (nl := nl) hn9
              rw [← hT3] at y1 y2
              obtain ⟨kE, sE, AE, PE9, hD9⟩ := hE9
              refine Or.inr ⟨rfl, Or.inr ⟨by omega, rfl, by rw [y1]; exact hn9, by rw [y1, y2]; exact fin9 _ _ _ _ _ _ _ hD9 ft4, ln9 _ ft4, hF4, kp9 _ ft4⟩, by show kc + 1 + 20 + 5 + 49 + 2 + 30 ≤ kc + 730; omega, by show ks + 18 + 220 + 55 + 539 + 22 + 330 ≤ ks + 8050; omega⟩
          · obtain ⟨hk9, -, hq9, fr3⟩ := hpo.resolve_left (fun z => absurd z.1 (by omega))
            have ft3 := ft2.tr fr3
            have hF3 := hF2.fr fr3 (fun k9 j9 h9 => hWF k9 j9 h9)
            rcases hq9 with ⟨w1, hE9⟩ | ⟨w1, w2, hE9⟩
            · have y0 := hT2.trans (mid_no (nl := nl) (n := n) (d := (fv2, gv2)) w1)
              have y1 : (sText tx L).1 = 1 := by rw [y0]; rfl
              have y2 : (sText tx L).2.1 = s2 := by rw [y0]; rfl
              have hn9 : (1 : Int) ≠ 0 := by decide
              obtain ⟨kE, sE, AE, PE9, hD9⟩ := hE9
              refine Or.inr ⟨rfl, Or.inr ⟨by omega, rfl, by rw [y1]; exact hn9, by rw [y1, y2]; exact fin9 _ _ _ _ _ _ _ hD9 ft3, ln9 _ ft3, hF3, kp9 _ ft3⟩, by show kc + 1 + 20 + 5 + 49 + 2 ≤ kc + 730; omega, by show ks + 18 + 220 + 55 + 539 + 22 ≤ ks + 8050; omega⟩
            · have y0 := hT2.trans ((mid_go (nl := nl) (n := n) (d := (fv2, gv2)) w1).trans (con_no w2))
              have y1 : (sText tx L).1 = 4 := by rw [y0]; rfl
              have y2 : (sText tx L).2.1 = s2 := by rw [y0]; rfl
              have hn9 : (4 : Int) ≠ 0 := by decide
              obtain ⟨kE, sE, AE, PE9, hD9⟩ := hE9
              refine Or.inr ⟨rfl, Or.inr ⟨by omega, rfl, by rw [y1]; exact hn9, by rw [y1, y2]; exact fin9 _ _ _ _ _ _ _ hD9 ft3, ln9 _ ft3, hF3, kp9 _ ft3⟩, by show kc + 1 + 20 + 5 + 49 + 2 ≤ kc + 730; omega, by show ks + 18 + 220 + 55 + 539 + 22 ≤ ks + 8050; omega⟩
        · obtain ⟨hk9, -, hn9, hE9, fr2⟩ := hpo.resolve_left (fun z => absurd z.1 (by omega))
          have ft2 := ft1.tr (fr2.mono (fun _ _ h9 => Or.inl h9))
          have hF2 := hF1.frK hg0 fr2
          obtain ⟨y1, y2⟩ := bod_bad (n := n) hn9
          rw [← hT1] at y1 y2
          obtain ⟨kE, sE, AE, PE9, hD9⟩ := hE9
          refine Or.inr ⟨rfl, Or.inr ⟨by omega, rfl, by rw [y1]; exact hn9, by rw [y1, y2]; exact fin9 _ _ _ _ _ _ _ hD9 ft2, ln9 _ ft2, hF2, kp9 _ ft2⟩, by show kc + 1 + 20 + 5 + 49 ≤ kc + 730; omega, by show ks + 18 + 220 + 55 + 539 ≤ ks + 8050; omega⟩
      · obtain ⟨hk9, -, hn9, hE9, fr1⟩ := hpo.resolve_left (fun z => absurd z.1 (by omega))
        have ft1 := ft0.tr (fr1.mono (fun _ _ h9 => Or.inl h9))
        have hF1 := hF0.frK hg0 fr1
        obtain ⟨y1, y2⟩ := txt_bad hn9
        have hy := y1
        obtain ⟨kE, sE, AE, PE9, hD9⟩ := hE9
        refine Or.inr ⟨rfl, Or.inr ⟨by omega, rfl, by rw [y1]; exact hn9, by rw [y1, y2]; exact fin9 _ _ _ _ _ _ _ hD9 ft1, ln9 _ ft1, hF1, kp9 _ ft1⟩, by show kc + 1 + 20 + 5 ≤ kc + 730; omega, by show ks + 18 + 220 + 55 ≤ ks + 8050; omega⟩
    · exact absurd hpo.1 (by omega)
  · exact absurd hpo.1 (by omega)

end CRDT
