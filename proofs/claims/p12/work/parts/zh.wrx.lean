/-! The wrappers of what changes the state. -/
section WRX
variable {g0 : GG} {bl : Nat} {xs : Nat → Int32} {l : Launch} {hs : List CE} {PO : Nat → Option Value → List CE → Prop}

theorem wx_append {i1 i2 i3 i4 i5 : Int32} (hb : ∀ g0 : GG, TYg g0 → BodyN SSX TBL g0 CLS bl xs l D_2 8 120 1 11 [.ref 0, .int i1, .int i2, .int i3, .int i4, .int i5] hs PO) (hTY0 : TYg g0) (hk : shp hs 0 = some (0, 7)) (h0 : ∀ r h1, PO 0 r h1 → (∃ x : Int32, r = some (.int x)) ∧ shp h1 146 = some (33, 1)) (hx : ∀ kd r h1, kd ≠ 0 → PO kd r h1 → kd = 1) : BodyN SSX TBL g0 CLS bl xs l D_139 9 145 1 11 [.ref 0, .int i1, .int i2, .int i3, .int i4, .int i5, .ref 146] hs (fun kd r h2 => kd = 0 ∧ ((∃ (x : Int32) (h1 : List CE), r = some (.int 0) ∧ PO 0 (some (.int x)) h1 ∧ h2 = wr h1 146 0 (.long x.toInt64)) ∨ (r = some (.int 1) ∧ PO 1 none h2))) := by
  intro wp p e R sW m args below meth cW Q kc0 ks0 kc ks act hf hl hc hsl hEnd
  have hf : 9 ≤ R.frames := hf
  have hl : 145 ≤ R.locals := hl
  have hTY0 : TYg (gp g0 wp) := hTY0
  show WpN (gp g0 wp) CLS p l e R sW m args below meth cW Q D_139.2.2.1 kc0 ks0 0 [some (.ref 0), some (.int i1), some (.int i2), some (.int i3), some (.int i4), some (.int i5), some (.ref 146), none] (hs, kc, ks) []
  refine g_loadA act (gx gp_139 (w := 0x6000203) rfl (by decide) rfl) (a := 6) (n := 2) rfl rfl rfl ?_
  refine g_constI act (gx gp_139 (w := 0x40000000400000001000000000301) rfl (by decide) rfl) (n := 3) (x := (0 : Int32)) (by decide) rfl ?_
  refine g_loadA act (gx gp_139 (w := 0x403) rfl (by decide) rfl) (a := 0) (n := 4) rfl rfl rfl ?_
  refine g_loadI act (gx gp_139 (w := 0x1000502) rfl (by decide) rfl) (a := 1) (n := 5) rfl rfl rfl ?_
  refine g_loadI act (gx gp_139 (w := 0x2000602) rfl (by decide) rfl) (a := 2) (n := 6) rfl rfl rfl ?_
  refine g_loadI act (gx gp_139 (w := 0x3000702) rfl (by decide) rfl) (a := 3) (n := 7) rfl rfl rfl ?_
  refine g_loadI act (gx gp_139 (w := 0x4000902) rfl (by decide) rfl) (a := 4) (n := 9) rfl rfl rfl ?_
  refine g_loadI act (gx gp_139 (w := 0x5000b02) rfl (by decide) rfl) (a := 5) (n := 11) rfl rfl rfl ?_
  refine n_call tb_pres act hEnd (gx (P := G_call) gp_139 (w := 0x1000000000013c1866000002000e0f) rfl (by decide) rfl) (d' := D_2) rfl (f' := 8) (lam' := 120) (mc := 1) (ms := 11) (as := [.ref 0, .int i1, .int i2, .int i3, .int i4, .int i5]) (rest := [.int (0 : Int32), .ref 146]) (hb _ hTY0) (show (6 : Nat) = fb 0x1000000000013c1866000002000e0f % 16 by decide) (by show (6 : Nat) ≤ 6; decide) (fun _ => ⟨_, _, rfl, _, shp_at hk, Or.inr (show fb 0x1000000000013c1866000002000e0f >>> 68 = 1 by decide)⟩) (by omega) (by show 8 + (6 + 11) + 120 ≤ R.locals; omega) (by show (2 : Nat) ≤ 8; decide) (by show kc + 1 ≤ _; omega) (by show ks + 11 ≤ _; omega) (fun r9 h1 hpo hr9 => ?_) (fun x9 hs9 hx9 hpo => ?_)
  · obtain ⟨⟨x9, rfl⟩, hk2⟩ := h0 _ _ hpo
    show WpN (gp g0 wp) CLS p l e R sW m args below meth cW Q D_139.2.2.1 kc0 ks0 14 [some (.ref 0), some (.int i1), some (.int i2), some (.int i3), some (.int i4), some (.int i5), some (.ref 146), none] (h1, kc + 1, ks + 11) [.int x9, .int (0 : Int32), .ref 146]
    refine g_i2l act (gx gp_139 (w := 0xf2c) rfl (by decide) rfl) (n := 15) rfl ?_
    refine r_last act (gx gp_139 (w := 0x1005) rfl (by decide) rfl) (n := 16) (N := 1) (j := 0) rfl hk2 rfl (by decide) ?_
    refine g_goto act (gx gp_139 (w := 0x1707) rfl (by decide) rfl) (n := 23) rfl ?_
    refine g_constI act (gx gp_139 (w := 0x40000000400000001000000001801) rfl (by decide) rfl) (n := 24) (x := (0 : Int32)) (by decide) rfl ?_
    exact g_retI hEnd (gx gp_139 (w := 0x2f) rfl (by decide) rfl) ⟨rfl, Or.inl ⟨_, _, rfl, hpo, rfl⟩⟩ (by show kc + 1 ≤ kc + 1; omega) (by show ks + 11 ≤ ks + 11; omega)
  · have hk9 := hx _ _ _ (show 1 + x9 ≠ 0 by omega) hpo
    obtain rfl : x9 = 0 := by omega
    refine Or.inl ⟨by decide, ?_⟩
    show WpN (gp g0 wp) CLS p l e R sW m args below meth cW Q D_139.2.2.1 kc0 ks0 19 [some (.ref 0), some (.int i1), some (.int i2), some (.int i3), some (.int i4), some (.int i5), some (.ref 146), none] (hs9, kc + 1, ks + 11) [.ref 7000000000001]
    refine g_storeA act (gx gp_139 (w := 0x700152d) rfl (by decide) rfl) (a := 7) (n := 21) rfl rfl (L2 := [some (.ref 0), some (.int i1), some (.int i2), some (.int i3), some (.int i4), some (.int i5), some (.ref 146), some (.ref 7000000000001)]) rfl ?_
    refine g_constI act (gx gp_139 (w := 0x40000000c00000009000000001601) rfl (by decide) rfl) (n := 22) (x := (1 : Int32)) (by decide) rfl ?_
    exact g_retI hEnd (gx gp_139 (w := 0x2f) rfl (by decide) rfl) ⟨rfl, Or.inr (⟨rfl, hpo⟩)⟩ (by show kc + 1 ≤ kc + 1; omega) (by show ks + 11 ≤ ks + 11; omega)

theorem wx_truncate {i1 : Int32} (hb : ∀ g0 : GG, TYg g0 → BodyN SSX TBL g0 CLS bl xs l D_67 8 120 1 11 [.ref 0, .int i1] hs PO) (hTY0 : TYg g0) (hk : shp hs 0 = some (0, 7)) (h0 : ∀ r h1, PO 0 r h1 → (∃ x : Int32, r = some (.int x)) ∧ shp h1 146 = some (33, 1)) (hx : ∀ kd r h1, kd ≠ 0 → PO kd r h1 → kd = 2) : BodyN SSX TBL g0 CLS bl xs l D_173 9 141 1 11 [.ref 0, .int i1, .ref 146] hs (fun kd r h2 => kd = 0 ∧ ((∃ (x : Int32) (h1 : List CE), r = some (.int 0) ∧ PO 0 (some (.int x)) h1 ∧ h2 = wr h1 146 0 (.long x.toInt64)) ∨ (r = some (.int 1) ∧ PO 2 none h2))) := by
  intro wp p e R sW m args below meth cW Q kc0 ks0 kc ks act hf hl hc hsl hEnd
  have hf : 9 ≤ R.frames := hf
  have hl : 141 ≤ R.locals := hl
  have hTY0 : TYg (gp g0 wp) := hTY0
  show WpN (gp g0 wp) CLS p l e R sW m args below meth cW Q D_173.2.2.1 kc0 ks0 0 [some (.ref 0), some (.int i1), some (.ref 146), none] (hs, kc, ks) []
  refine g_loadA act (gx gp_173 (w := 0x2000103) rfl (by decide) rfl) (a := 2) (n := 1) rfl rfl rfl ?_
  refine g_constI act (gx gp_173 (w := 0x40000000400000001000000000201) rfl (by decide) rfl) (n := 2) (x := (0 : Int32)) (by decide) rfl ?_
  refine g_loadA act (gx gp_173 (w := 0x303) rfl (by decide) rfl) (a := 0) (n := 3) rfl rfl rfl ?_
  refine g_loadI act (gx gp_173 (w := 0x1000402) rfl (by decide) rfl) (a := 1) (n := 4) rfl rfl rfl ?_
  refine n_call tb_pres act hEnd (gx (P := G_call) gp_173 (w := 0x100000000c000c082200004300070f) rfl (by decide) rfl) (d' := D_67) rfl (f' := 8) (lam' := 120) (mc := 1) (ms := 11) (as := [.ref 0, .int i1]) (rest := [.int (0 : Int32), .ref 146]) (hb _ hTY0) (show (2 : Nat) = fb 0x100000000c000c082200004300070f % 16 by decide) (by show (2 : Nat) ≤ 2; decide) (fun _ => ⟨_, _, rfl, _, shp_at hk, Or.inr (show fb 0x100000000c000c082200004300070f >>> 68 = 1 by decide)⟩) (by omega) (by show 8 + (2 + 11) + 120 ≤ R.locals; omega) (by show (2 : Nat) ≤ 8; decide) (by show kc + 1 ≤ _; omega) (by show ks + 11 ≤ _; omega) (fun r9 h1 hpo hr9 => ?_) (fun x9 hs9 hx9 hpo => ?_)
  · obtain ⟨⟨x9, rfl⟩, hk2⟩ := h0 _ _ hpo
    show WpN (gp g0 wp) CLS p l e R sW m args below meth cW Q D_173.2.2.1 kc0 ks0 7 [some (.ref 0), some (.int i1), some (.ref 146), none] (h1, kc + 1, ks + 11) [.int x9, .int (0 : Int32), .ref 146]
    refine g_i2l act (gx gp_173 (w := 0x82c) rfl (by decide) rfl) (n := 8) rfl ?_
    refine r_last act (gx gp_173 (w := 0x905) rfl (by decide) rfl) (n := 9) (N := 1) (j := 0) rfl hk2 rfl (by decide) ?_
    refine g_goto act (gx gp_173 (w := 0xf07) rfl (by decide) rfl) (n := 15) rfl ?_
    refine g_constI act (gx gp_173 (w := 0x40000000400000001000000001001) rfl (by decide) rfl) (n := 16) (x := (0 : Int32)) (by decide) rfl ?_
    exact g_retI hEnd (gx gp_173 (w := 0x2f) rfl (by decide) rfl) ⟨rfl, Or.inl ⟨_, _, rfl, hpo, rfl⟩⟩ (by show kc + 1 ≤ kc + 1; omega) (by show ks + 11 ≤ ks + 11; omega)
  · have hk9 := hx _ _ _ (show 1 + x9 ≠ 0 by omega) hpo
    obtain rfl : x9 = 1 := by omega
    refine Or.inl ⟨by decide, ?_⟩
    show WpN (gp g0 wp) CLS p l e R sW m args below meth cW Q D_173.2.2.1 kc0 ks0 12 [some (.ref 0), some (.int i1), some (.ref 146), none] (hs9, kc + 1, ks + 11) [.ref 7000000000001]
    refine g_storeA act (gx gp_173 (w := 0x3000d2d) rfl (by decide) rfl) (a := 3) (n := 13) rfl rfl (L2 := [some (.ref 0), some (.int i1), some (.ref 146), some (.ref 7000000000001)]) rfl ?_
    refine g_constI act (gx gp_173 (w := 0x40000000c00000009000000000e01) rfl (by decide) rfl) (n := 14) (x := (1 : Int32)) (by decide) rfl ?_
    exact g_retI hEnd (gx gp_173 (w := 0x2f) rfl (by decide) rfl) ⟨rfl, Or.inr (⟨rfl, hpo⟩)⟩ (by show kc + 1 ≤ kc + 1; omega) (by show ks + 11 ≤ ks + 11; omega)

theorem wx_load (hb : ∀ g0 : GG, TYg g0 → BodyN SSX TBL g0 CLS bl xs l D_39 13 232 730 8050 [.ref 0] hs PO) (hTY0 : TYg g0) (hk : shp hs 0 = some (0, 7)) (h0 : ∀ r h1, PO 0 r h1 → (∃ x : Int32, r = some (.int x)) ∧ shp h1 146 = some (33, 1)) (hx : ∀ kd r h1, kd ≠ 0 → PO kd r h1 → kd = 3) : BodyN SSX TBL g0 CLS bl xs l D_154 14 252 730 8050 [.ref 0, .ref 146] hs (fun kd r h2 => kd = 0 ∧ ((∃ (x : Int32) (h1 : List CE), r = some (.int 0) ∧ PO 0 (some (.int x)) h1 ∧ h2 = wr h1 146 0 (.long x.toInt64)) ∨ (r = some (.int 1) ∧ PO 3 none h2))) := by
  intro wp p e R sW m args below meth cW Q kc0 ks0 kc ks act hf hl hc hsl hEnd
  have hf : 14 ≤ R.frames := hf
  have hl : 252 ≤ R.locals := hl
  have hTY0 : TYg (gp g0 wp) := hTY0
  show WpN (gp g0 wp) CLS p l e R sW m args below meth cW Q D_154.2.2.1 kc0 ks0 0 [some (.ref 0), some (.ref 146), none] (hs, kc, ks) []
  refine g_loadA act (gx gp_154 (w := 0x1000103) rfl (by decide) rfl) (a := 1) (n := 1) rfl rfl rfl ?_
  refine g_constI act (gx gp_154 (w := 0x40000000400000001000000000201) rfl (by decide) rfl) (n := 2) (x := (0 : Int32)) (by decide) rfl ?_
  refine g_loadA act (gx gp_154 (w := 0x303) rfl (by decide) rfl) (a := 0) (n := 3) rfl rfl rfl ?_
  refine n_call tb_pres act hEnd (gx (P := G_call) gp_154 (w := 0x100000b000000c041100002700060f) rfl (by decide) rfl) (d' := D_39) rfl (f' := 13) (lam' := 232) (mc := 730) (ms := 8050) (as := [.ref 0]) (rest := [.int (0 : Int32), .ref 146]) (hb _ hTY0) (show (1 : Nat) = fb 0x100000b000000c041100002700060f % 16 by decide) (by show (1 : Nat) ≤ 1; decide) (fun _ => ⟨_, _, rfl, _, shp_at hk, Or.inr (show fb 0x100000b000000c041100002700060f >>> 68 = 1 by decide)⟩) (by omega) (by show 8 + (1 + 11) + 232 ≤ R.locals; omega) (by show (2 : Nat) ≤ 8; decide) (by show kc + 730 ≤ _; omega) (by show ks + 8050 ≤ _; omega) (fun r9 h1 hpo hr9 => ?_) (fun x9 hs9 hx9 hpo => ?_)
  · obtain ⟨⟨x9, rfl⟩, hk2⟩ := h0 _ _ hpo
    show WpN (gp g0 wp) CLS p l e R sW m args below meth cW Q D_154.2.2.1 kc0 ks0 6 [some (.ref 0), some (.ref 146), none] (h1, kc + 730, ks + 8050) [.int x9, .int (0 : Int32), .ref 146]
    refine g_i2l act (gx gp_154 (w := 0x72c) rfl (by decide) rfl) (n := 7) rfl ?_
    refine r_last act (gx gp_154 (w := 0x805) rfl (by decide) rfl) (n := 8) (N := 1) (j := 0) rfl hk2 rfl (by decide) ?_
    refine g_goto act (gx gp_154 (w := 0xe07) rfl (by decide) rfl) (n := 14) rfl ?_
    refine g_constI act (gx gp_154 (w := 0x40000000400000001000000000f01) rfl (by decide) rfl) (n := 15) (x := (0 : Int32)) (by decide) rfl ?_
    exact g_retI hEnd (gx gp_154 (w := 0x2f) rfl (by decide) rfl) ⟨rfl, Or.inl ⟨_, _, rfl, hpo, rfl⟩⟩ (by show kc + 730 ≤ kc + 730; omega) (by show ks + 8050 ≤ ks + 8050; omega)
  · have hk9 := hx _ _ _ (show 1 + x9 ≠ 0 by omega) hpo
    obtain rfl : x9 = 2 := by omega
    refine Or.inl ⟨by decide, ?_⟩
    show WpN (gp g0 wp) CLS p l e R sW m args below meth cW Q D_154.2.2.1 kc0 ks0 11 [some (.ref 0), some (.ref 146), none] (hs9, kc + 730, ks + 8050) [.ref 7000000000001]
    refine g_storeA act (gx gp_154 (w := 0x2000c2d) rfl (by decide) rfl) (a := 2) (n := 12) rfl rfl (L2 := [some (.ref 0), some (.ref 146), some (.ref 7000000000001)]) rfl ?_
    refine g_constI act (gx gp_154 (w := 0x40000000c00000009000000000d01) rfl (by decide) rfl) (n := 13) (x := (1 : Int32)) (by decide) rfl ?_
    exact g_retI hEnd (gx gp_154 (w := 0x2f) rfl (by decide) rfl) ⟨rfl, Or.inr (⟨rfl, hpo⟩)⟩ (by show kc + 730 ≤ kc + 730; omega) (by show ks + 8050 ≤ ks + 8050; omega)

theorem wx_setLimit {i1 i2 : Int32} (hb : ∀ g0 : GG, TYg g0 → BodyN SSX TBL g0 CLS bl xs l D_59 10 182 5 55 [.ref 0, .int i1, .int i2] hs PO) (hTY0 : TYg g0) (hk : shp hs 0 = some (0, 7)) (h0 : ∀ r h1, PO 0 r h1 → (∃ x : Int32, r = some (.int x)) ∧ shp h1 146 = some (33, 1)) (hx : ∀ kd r h1, kd ≠ 0 → PO kd r h1 → kd = 2 ∨ kd = 3) : BodyN SSX TBL g0 CLS bl xs l D_168 11 205 5 55 [.ref 0, .int i1, .int i2, .ref 146] hs (fun kd r h2 => kd = 0 ∧ ((∃ (x : Int32) (h1 : List CE), r = some (.int 0) ∧ PO 0 (some (.int x)) h1 ∧ h2 = wr h1 146 0 (.long x.toInt64)) ∨ (r = some (.int 1) ∧ PO 2 none h2) ∨ (r = some (.int 2) ∧ PO 3 none h2))) := by
  intro wp p e R sW m args below meth cW Q kc0 ks0 kc ks act hf hl hc hsl hEnd
  have hf : 11 ≤ R.frames := hf
  have hl : 205 ≤ R.locals := hl
  have hTY0 : TYg (gp g0 wp) := hTY0
  show WpN (gp g0 wp) CLS p l e R sW m args below meth cW Q D_168.2.2.1 kc0 ks0 0 [some (.ref 0), some (.int i1), some (.int i2), some (.ref 146), none] (hs, kc, ks) []
  refine g_loadA act (gx gp_168 (w := 0x3000103) rfl (by decide) rfl) (a := 3) (n := 1) rfl rfl rfl ?_
  refine g_constI act (gx gp_168 (w := 0x40000000400000001000000000201) rfl (by decide) rfl) (n := 2) (x := (0 : Int32)) (by decide) rfl ?_
  refine g_loadA act (gx gp_168 (w := 0x303) rfl (by decide) rfl) (a := 0) (n := 3) rfl rfl rfl ?_
  refine g_loadI act (gx gp_168 (w := 0x1000402) rfl (by decide) rfl) (a := 1) (n := 4) rfl rfl rfl ?_
  refine g_loadI act (gx gp_168 (w := 0x2000502) rfl (by decide) rfl) (a := 2) (n := 5) rfl rfl rfl ?_
  refine n_call tb_pres act hEnd (gx (P := G_call) gp_168 (w := 0x100001100d000c103300003b00080f) rfl (by decide) rfl) (d' := D_59) rfl (f' := 10) (lam' := 182) (mc := 5) (ms := 55) (as := [.ref 0, .int i1, .int i2]) (rest := [.int (0 : Int32), .ref 146]) (hb _ hTY0) (show (3 : Nat) = fb 0x100001100d000c103300003b00080f % 16 by decide) (by show (3 : Nat) ≤ 4; decide) (fun _ => ⟨_, _, rfl, _, shp_at hk, Or.inr (show fb 0x100001100d000c103300003b00080f >>> 68 = 1 by decide)⟩) (by omega) (by show 8 + (4 + 11) + 182 ≤ R.locals; omega) (by show (2 : Nat) ≤ 8; decide) (by show kc + 5 ≤ _; omega) (by show ks + 55 ≤ _; omega) (fun r9 h1 hpo hr9 => ?_) (fun x9 hs9 hx9 hpo => ?_)
  · obtain ⟨⟨x9, rfl⟩, hk2⟩ := h0 _ _ hpo
    show WpN (gp g0 wp) CLS p l e R sW m args below meth cW Q D_168.2.2.1 kc0 ks0 8 [some (.ref 0), some (.int i1), some (.int i2), some (.ref 146), none] (h1, kc + 5, ks + 55) [.int x9, .int (0 : Int32), .ref 146]
    refine g_i2l act (gx gp_168 (w := 0x92c) rfl (by decide) rfl) (n := 9) rfl ?_
    refine r_last act (gx gp_168 (w := 0xa05) rfl (by decide) rfl) (n := 10) (N := 1) (j := 0) rfl hk2 rfl (by decide) ?_
    refine g_goto act (gx gp_168 (w := 0x1507) rfl (by decide) rfl) (n := 21) rfl ?_
    refine g_constI act (gx gp_168 (w := 0x40000000400000001000000001601) rfl (by decide) rfl) (n := 22) (x := (0 : Int32)) (by decide) rfl ?_
    exact g_retI hEnd (gx gp_168 (w := 0x2f) rfl (by decide) rfl) ⟨rfl, Or.inl ⟨_, _, rfl, hpo, rfl⟩⟩ (by show kc + 5 ≤ kc + 5; omega) (by show ks + 55 ≤ ks + 55; omega)
  · rcases hx _ _ _ (show 1 + x9 ≠ 0 by omega) hpo with hk9 | hk9
    · obtain rfl : x9 = 1 := by omega
      refine Or.inl ⟨by decide, ?_⟩
      show WpN (gp g0 wp) CLS p l e R sW m args below meth cW Q D_168.2.2.1 kc0 ks0 13 [some (.ref 0), some (.int i1), some (.int i2), some (.ref 146), none] (hs9, kc + 5, ks + 55) [.ref 7000000000001]
      refine g_storeA act (gx gp_168 (w := 0x4000f2d) rfl (by decide) rfl) (a := 4) (n := 15) rfl rfl (L2 := [some (.ref 0), some (.int i1), some (.int i2), some (.ref 146), some (.ref 7000000000001)]) rfl ?_
      refine g_constI act (gx gp_168 (w := 0x40000000c00000009000000001001) rfl (by decide) rfl) (n := 16) (x := (1 : Int32)) (by decide) rfl ?_
      exact g_retI hEnd (gx gp_168 (w := 0x2f) rfl (by decide) rfl) ⟨rfl, Or.inr (Or.inl ⟨rfl, hpo⟩)⟩ (by show kc + 5 ≤ kc + 5; omega) (by show ks + 55 ≤ ks + 55; omega)
    · obtain rfl : x9 = 2 := by omega
      refine Or.inl ⟨by decide, ?_⟩
      show WpN (gp g0 wp) CLS p l e R sW m args below meth cW Q D_168.2.2.1 kc0 ks0 17 [some (.ref 0), some (.int i1), some (.int i2), some (.ref 146), none] (hs9, kc + 5, ks + 55) [.ref 7000000000001]
      refine g_storeA act (gx gp_168 (w := 0x400132d) rfl (by decide) rfl) (a := 4) (n := 19) rfl rfl (L2 := [some (.ref 0), some (.int i1), some (.int i2), some (.ref 146), some (.ref 7000000000001)]) rfl ?_
      refine g_constI act (gx gp_168 (w := 0x40000001400000011000000001401) rfl (by decide) rfl) (n := 20) (x := (2 : Int32)) (by decide) rfl ?_
      exact g_retI hEnd (gx gp_168 (w := 0x2f) rfl (by decide) rfl) ⟨rfl, Or.inr (Or.inr (⟨rfl, hpo⟩))⟩ (by show kc + 5 ≤ kc + 5; omega) (by show ks + 55 ≤ ks + 55; omega)

theorem wx_setCost {i1 i2 : Int32} (hb : ∀ g0 : GG, TYg g0 → BodyN SSX TBL g0 CLS bl xs l D_57 10 182 5 55 [.ref 0, .int i1, .int i2] hs PO) (hTY0 : TYg g0) (hk : shp hs 0 = some (0, 7)) (h0 : ∀ r h1, PO 0 r h1 → (∃ x : Int32, r = some (.int x)) ∧ shp h1 146 = some (33, 1)) (hx : ∀ kd r h1, kd ≠ 0 → PO kd r h1 → kd = 2 ∨ kd = 3) : BodyN SSX TBL g0 CLS bl xs l D_166 11 205 5 55 [.ref 0, .int i1, .int i2, .ref 146] hs (fun kd r h2 => kd = 0 ∧ ((∃ (x : Int32) (h1 : List CE), r = some (.int 0) ∧ PO 0 (some (.int x)) h1 ∧ h2 = wr h1 146 0 (.long x.toInt64)) ∨ (r = some (.int 1) ∧ PO 2 none h2) ∨ (r = some (.int 2) ∧ PO 3 none h2))) := by
  intro wp p e R sW m args below meth cW Q kc0 ks0 kc ks act hf hl hc hsl hEnd
  have hf : 11 ≤ R.frames := hf
  have hl : 205 ≤ R.locals := hl
  have hTY0 : TYg (gp g0 wp) := hTY0
  show WpN (gp g0 wp) CLS p l e R sW m args below meth cW Q D_166.2.2.1 kc0 ks0 0 [some (.ref 0), some (.int i1), some (.int i2), some (.ref 146), none] (hs, kc, ks) []
  refine g_loadA act (gx gp_166 (w := 0x3000103) rfl (by decide) rfl) (a := 3) (n := 1) rfl rfl rfl ?_
  refine g_constI act (gx gp_166 (w := 0x40000000400000001000000000201) rfl (by decide) rfl) (n := 2) (x := (0 : Int32)) (by decide) rfl ?_
  refine g_loadA act (gx gp_166 (w := 0x303) rfl (by decide) rfl) (a := 0) (n := 3) rfl rfl rfl ?_
  refine g_loadI act (gx gp_166 (w := 0x1000402) rfl (by decide) rfl) (a := 1) (n := 4) rfl rfl rfl ?_
  refine g_loadI act (gx gp_166 (w := 0x2000502) rfl (by decide) rfl) (a := 2) (n := 5) rfl rfl rfl ?_
  refine n_call tb_pres act hEnd (gx (P := G_call) gp_166 (w := 0x100001100d000c103300003900080f) rfl (by decide) rfl) (d' := D_57) rfl (f' := 10) (lam' := 182) (mc := 5) (ms := 55) (as := [.ref 0, .int i1, .int i2]) (rest := [.int (0 : Int32), .ref 146]) (hb _ hTY0) (show (3 : Nat) = fb 0x100001100d000c103300003900080f % 16 by decide) (by show (3 : Nat) ≤ 4; decide) (fun _ => ⟨_, _, rfl, _, shp_at hk, Or.inr (show fb 0x100001100d000c103300003900080f >>> 68 = 1 by decide)⟩) (by omega) (by show 8 + (4 + 11) + 182 ≤ R.locals; omega) (by show (2 : Nat) ≤ 8; decide) (by show kc + 5 ≤ _; omega) (by show ks + 55 ≤ _; omega) (fun r9 h1 hpo hr9 => ?_) (fun x9 hs9 hx9 hpo => ?_)
  · obtain ⟨⟨x9, rfl⟩, hk2⟩ := h0 _ _ hpo
    show WpN (gp g0 wp) CLS p l e R sW m args below meth cW Q D_166.2.2.1 kc0 ks0 8 [some (.ref 0), some (.int i1), some (.int i2), some (.ref 146), none] (h1, kc + 5, ks + 55) [.int x9, .int (0 : Int32), .ref 146]
    refine g_i2l act (gx gp_166 (w := 0x92c) rfl (by decide) rfl) (n := 9) rfl ?_
    refine r_last act (gx gp_166 (w := 0xa05) rfl (by decide) rfl) (n := 10) (N := 1) (j := 0) rfl hk2 rfl (by decide) ?_
    refine g_goto act (gx gp_166 (w := 0x1507) rfl (by decide) rfl) (n := 21) rfl ?_
    refine g_constI act (gx gp_166 (w := 0x40000000400000001000000001601) rfl (by decide) rfl) (n := 22) (x := (0 : Int32)) (by decide) rfl ?_
    exact g_retI hEnd (gx gp_166 (w := 0x2f) rfl (by decide) rfl) ⟨rfl, Or.inl ⟨_, _, rfl, hpo, rfl⟩⟩ (by show kc + 5 ≤ kc + 5; omega) (by show ks + 55 ≤ ks + 55; omega)
  · rcases hx _ _ _ (show 1 + x9 ≠ 0 by omega) hpo with hk9 | hk9
    · obtain rfl : x9 = 1 := by omega
      refine Or.inl ⟨by decide, ?_⟩
      show WpN (gp g0 wp) CLS p l e R sW m args below meth cW Q D_166.2.2.1 kc0 ks0 13 [some (.ref 0), some (.int i1), some (.int i2), some (.ref 146), none] (hs9, kc + 5, ks + 55) [.ref 7000000000001]
      refine g_storeA act (gx gp_166 (w := 0x4000f2d) rfl (by decide) rfl) (a := 4) (n := 15) rfl rfl (L2 := [some (.ref 0), some (.int i1), some (.int i2), some (.ref 146), some (.ref 7000000000001)]) rfl ?_
      refine g_constI act (gx gp_166 (w := 0x40000000c00000009000000001001) rfl (by decide) rfl) (n := 16) (x := (1 : Int32)) (by decide) rfl ?_
      exact g_retI hEnd (gx gp_166 (w := 0x2f) rfl (by decide) rfl) ⟨rfl, Or.inr (Or.inl ⟨rfl, hpo⟩)⟩ (by show kc + 5 ≤ kc + 5; omega) (by show ks + 55 ≤ ks + 55; omega)
    · obtain rfl : x9 = 2 := by omega
      refine Or.inl ⟨by decide, ?_⟩
      show WpN (gp g0 wp) CLS p l e R sW m args below meth cW Q D_166.2.2.1 kc0 ks0 17 [some (.ref 0), some (.int i1), some (.int i2), some (.ref 146), none] (hs9, kc + 5, ks + 55) [.ref 7000000000001]
      refine g_storeA act (gx gp_166 (w := 0x400132d) rfl (by decide) rfl) (a := 4) (n := 19) rfl rfl (L2 := [some (.ref 0), some (.int i1), some (.int i2), some (.ref 146), some (.ref 7000000000001)]) rfl ?_
      refine g_constI act (gx gp_166 (w := 0x40000001400000011000000001401) rfl (by decide) rfl) (n := 20) (x := (2 : Int32)) (by decide) rfl ?_
      exact g_retI hEnd (gx gp_166 (w := 0x2f) rfl (by decide) rfl) ⟨rfl, Or.inr (Or.inr (⟨rfl, hpo⟩))⟩ (by show kc + 5 ≤ kc + 5; omega) (by show ks + 55 ≤ ks + 55; omega)

theorem wx_setCapacity {i1 i2 : Int32} (hb : ∀ g0 : GG, TYg g0 → BodyN SSX TBL g0 CLS bl xs l D_56 10 182 5 55 [.ref 0, .int i1, .int i2] hs PO) (hTY0 : TYg g0) (hk : shp hs 0 = some (0, 7)) (h0 : ∀ r h1, PO 0 r h1 → (∃ x : Int32, r = some (.int x)) ∧ shp h1 146 = some (33, 1)) (hx : ∀ kd r h1, kd ≠ 0 → PO kd r h1 → kd = 2 ∨ kd = 3) : BodyN SSX TBL g0 CLS bl xs l D_165 11 205 5 55 [.ref 0, .int i1, .int i2, .ref 146] hs (fun kd r h2 => kd = 0 ∧ ((∃ (x : Int32) (h1 : List CE), r = some (.int 0) ∧ PO 0 (some (.int x)) h1 ∧ h2 = wr h1 146 0 (.long x.toInt64)) ∨ (r = some (.int 1) ∧ PO 2 none h2) ∨ (r = some (.int 2) ∧ PO 3 none h2))) := by
  intro wp p e R sW m args below meth cW Q kc0 ks0 kc ks act hf hl hc hsl hEnd
  have hf : 11 ≤ R.frames := hf
  have hl : 205 ≤ R.locals := hl
  have hTY0 : TYg (gp g0 wp) := hTY0
  show WpN (gp g0 wp) CLS p l e R sW m args below meth cW Q D_165.2.2.1 kc0 ks0 0 [some (.ref 0), some (.int i1), some (.int i2), some (.ref 146), none] (hs, kc, ks) []
  refine g_loadA act (gx gp_165 (w := 0x3000103) rfl (by decide) rfl) (a := 3) (n := 1) rfl rfl rfl ?_
  refine g_constI act (gx gp_165 (w := 0x40000000400000001000000000201) rfl (by decide) rfl) (n := 2) (x := (0 : Int32)) (by decide) rfl ?_
  refine g_loadA act (gx gp_165 (w := 0x303) rfl (by decide) rfl) (a := 0) (n := 3) rfl rfl rfl ?_
  refine g_loadI act (gx gp_165 (w := 0x1000402) rfl (by decide) rfl) (a := 1) (n := 4) rfl rfl rfl ?_
  refine g_loadI act (gx gp_165 (w := 0x2000502) rfl (by decide) rfl) (a := 2) (n := 5) rfl rfl rfl ?_
  refine n_call tb_pres act hEnd (gx (P := G_call) gp_165 (w := 0x100001100d000c103300003800080f) rfl (by decide) rfl) (d' := D_56) rfl (f' := 10) (lam' := 182) (mc := 5) (ms := 55) (as := [.ref 0, .int i1, .int i2]) (rest := [.int (0 : Int32), .ref 146]) (hb _ hTY0) (show (3 : Nat) = fb 0x100001100d000c103300003800080f % 16 by decide) (by show (3 : Nat) ≤ 4; decide) (fun _ => ⟨_, _, rfl, _, shp_at hk, Or.inr (show fb 0x100001100d000c103300003800080f >>> 68 = 1 by decide)⟩) (by omega) (by show 8 + (4 + 11) + 182 ≤ R.locals; omega) (by show (2 : Nat) ≤ 8; decide) (by show kc + 5 ≤ _; omega) (by show ks + 55 ≤ _; omega) (fun r9 h1 hpo hr9 => ?_) (fun x9 hs9 hx9 hpo => ?_)
  · obtain ⟨⟨x9, rfl⟩, hk2⟩ := h0 _ _ hpo
    show WpN (gp g0 wp) CLS p l e R sW m args below meth cW Q D_165.2.2.1 kc0 ks0 8 [some (.ref 0), some (.int i1), some (.int i2), some (.ref 146), none] (h1, kc + 5, ks + 55) [.int x9, .int (0 : Int32), .ref 146]
    refine g_i2l act (gx gp_165 (w := 0x92c) rfl (by decide) rfl) (n := 9) rfl ?_
    refine r_last act (gx gp_165 (w := 0xa05) rfl (by decide) rfl) (n := 10) (N := 1) (j := 0) rfl hk2 rfl (by decide) ?_
    refine g_goto act (gx gp_165 (w := 0x1507) rfl (by decide) rfl) (n := 21) rfl ?_
    refine g_constI act (gx gp_165 (w := 0x40000000400000001000000001601) rfl (by decide) rfl) (n := 22) (x := (0 : Int32)) (by decide) rfl ?_
    exact g_retI hEnd (gx gp_165 (w := 0x2f) rfl (by decide) rfl) ⟨rfl, Or.inl ⟨_, _, rfl, hpo, rfl⟩⟩ (by show kc + 5 ≤ kc + 5; omega) (by show ks + 55 ≤ ks + 55; omega)
  · rcases hx _ _ _ (show 1 + x9 ≠ 0 by omega) hpo with hk9 | hk9
    · obtain rfl : x9 = 1 := by omega
      refine Or.inl ⟨by decide, ?_⟩
      show WpN (gp g0 wp) CLS p l e R sW m args below meth cW Q D_165.2.2.1 kc0 ks0 13 [some (.ref 0), some (.int i1), some (.int i2), some (.ref 146), none] (hs9, kc + 5, ks + 55) [.ref 7000000000001]
      refine g_storeA act (gx gp_165 (w := 0x4000f2d) rfl (by decide) rfl) (a := 4) (n := 15) rfl rfl (L2 := [some (.ref 0), some (.int i1), some (.int i2), some (.ref 146), some (.ref 7000000000001)]) rfl ?_
      refine g_constI act (gx gp_165 (w := 0x40000000c00000009000000001001) rfl (by decide) rfl) (n := 16) (x := (1 : Int32)) (by decide) rfl ?_
      exact g_retI hEnd (gx gp_165 (w := 0x2f) rfl (by decide) rfl) ⟨rfl, Or.inr (Or.inl ⟨rfl, hpo⟩)⟩ (by show kc + 5 ≤ kc + 5; omega) (by show ks + 55 ≤ ks + 55; omega)
    · obtain rfl : x9 = 2 := by omega
      refine Or.inl ⟨by decide, ?_⟩
      show WpN (gp g0 wp) CLS p l e R sW m args below meth cW Q D_165.2.2.1 kc0 ks0 17 [some (.ref 0), some (.int i1), some (.int i2), some (.ref 146), none] (hs9, kc + 5, ks + 55) [.ref 7000000000001]
      refine g_storeA act (gx gp_165 (w := 0x400132d) rfl (by decide) rfl) (a := 4) (n := 19) rfl rfl (L2 := [some (.ref 0), some (.int i1), some (.int i2), some (.ref 146), some (.ref 7000000000001)]) rfl ?_
      refine g_constI act (gx gp_165 (w := 0x40000001400000011000000001401) rfl (by decide) rfl) (n := 20) (x := (2 : Int32)) (by decide) rfl ?_
      exact g_retI hEnd (gx gp_165 (w := 0x2f) rfl (by decide) rfl) ⟨rfl, Or.inr (Or.inr (⟨rfl, hpo⟩))⟩ (by show kc + 5 ≤ kc + 5; omega) (by show ks + 55 ≤ ks + 55; omega)

theorem wx_setDemand {i1 i2 i3 : Int32} (hb : ∀ g0 : GG, TYg g0 → BodyN SSX TBL g0 CLS bl xs l D_58 10 182 5 55 [.ref 0, .int i1, .int i2, .int i3] hs PO) (hTY0 : TYg g0) (hk : shp hs 0 = some (0, 7)) (h0 : ∀ r h1, PO 0 r h1 → (∃ x : Int32, r = some (.int x)) ∧ shp h1 146 = some (33, 1)) (hx : ∀ kd r h1, kd ≠ 0 → PO kd r h1 → kd = 2 ∨ kd = 3) : BodyN SSX TBL g0 CLS bl xs l D_167 11 206 5 55 [.ref 0, .int i1, .int i2, .int i3, .ref 146] hs (fun kd r h2 => kd = 0 ∧ ((∃ (x : Int32) (h1 : List CE), r = some (.int 0) ∧ PO 0 (some (.int x)) h1 ∧ h2 = wr h1 146 0 (.long x.toInt64)) ∨ (r = some (.int 1) ∧ PO 2 none h2) ∨ (r = some (.int 2) ∧ PO 3 none h2))) := by
  intro wp p e R sW m args below meth cW Q kc0 ks0 kc ks act hf hl hc hsl hEnd
  have hf : 11 ≤ R.frames := hf
  have hl : 206 ≤ R.locals := hl
  have hTY0 : TYg (gp g0 wp) := hTY0
  show WpN (gp g0 wp) CLS p l e R sW m args below meth cW Q D_167.2.2.1 kc0 ks0 0 [some (.ref 0), some (.int i1), some (.int i2), some (.int i3), some (.ref 146), none] (hs, kc, ks) []
  refine g_loadA act (gx gp_167 (w := 0x4000203) rfl (by decide) rfl) (a := 4) (n := 2) rfl rfl rfl ?_
  refine g_constI act (gx gp_167 (w := 0x40000000400000001000000000301) rfl (by decide) rfl) (n := 3) (x := (0 : Int32)) (by decide) rfl ?_
  refine g_loadA act (gx gp_167 (w := 0x403) rfl (by decide) rfl) (a := 0) (n := 4) rfl rfl rfl ?_
  refine g_loadI act (gx gp_167 (w := 0x1000502) rfl (by decide) rfl) (a := 1) (n := 5) rfl rfl rfl ?_
  refine g_loadI act (gx gp_167 (w := 0x2000602) rfl (by decide) rfl) (a := 2) (n := 6) rfl rfl rfl ?_
  refine g_loadI act (gx gp_167 (w := 0x3000702) rfl (by decide) rfl) (a := 3) (n := 7) rfl rfl rfl ?_
  refine n_call tb_pres act hEnd (gx (P := G_call) gp_167 (w := 0x100001300f000c144400003a000a0f) rfl (by decide) rfl) (d' := D_58) rfl (f' := 10) (lam' := 182) (mc := 5) (ms := 55) (as := [.ref 0, .int i1, .int i2, .int i3]) (rest := [.int (0 : Int32), .ref 146]) (hb _ hTY0) (show (4 : Nat) = fb 0x100001300f000c144400003a000a0f % 16 by decide) (by show (4 : Nat) ≤ 5; decide) (fun _ => ⟨_, _, rfl, _, shp_at hk, Or.inr (show fb 0x100001300f000c144400003a000a0f >>> 68 = 1 by decide)⟩) (by omega) (by show 8 + (5 + 11) + 182 ≤ R.locals; omega) (by show (2 : Nat) ≤ 8; decide) (by show kc + 5 ≤ _; omega) (by show ks + 55 ≤ _; omega) (fun r9 h1 hpo hr9 => ?_) (fun x9 hs9 hx9 hpo => ?_)
  · obtain ⟨⟨x9, rfl⟩, hk2⟩ := h0 _ _ hpo
    show WpN (gp g0 wp) CLS p l e R sW m args below meth cW Q D_167.2.2.1 kc0 ks0 10 [some (.ref 0), some (.int i1), some (.int i2), some (.int i3), some (.ref 146), none] (h1, kc + 5, ks + 55) [.int x9, .int (0 : Int32), .ref 146]
    refine g_i2l act (gx gp_167 (w := 0xb2c) rfl (by decide) rfl) (n := 11) rfl ?_
    refine r_last act (gx gp_167 (w := 0xc05) rfl (by decide) rfl) (n := 12) (N := 1) (j := 0) rfl hk2 rfl (by decide) ?_
    refine g_goto act (gx gp_167 (w := 0x1707) rfl (by decide) rfl) (n := 23) rfl ?_
    refine g_constI act (gx gp_167 (w := 0x40000000400000001000000001801) rfl (by decide) rfl) (n := 24) (x := (0 : Int32)) (by decide) rfl ?_
    exact g_retI hEnd (gx gp_167 (w := 0x2f) rfl (by decide) rfl) ⟨rfl, Or.inl ⟨_, _, rfl, hpo, rfl⟩⟩ (by show kc + 5 ≤ kc + 5; omega) (by show ks + 55 ≤ ks + 55; omega)
  · rcases hx _ _ _ (show 1 + x9 ≠ 0 by omega) hpo with hk9 | hk9
    · obtain rfl : x9 = 1 := by omega
      refine Or.inl ⟨by decide, ?_⟩
      show WpN (gp g0 wp) CLS p l e R sW m args below meth cW Q D_167.2.2.1 kc0 ks0 15 [some (.ref 0), some (.int i1), some (.int i2), some (.int i3), some (.ref 146), none] (hs9, kc + 5, ks + 55) [.ref 7000000000001]
      refine g_storeA act (gx gp_167 (w := 0x500112d) rfl (by decide) rfl) (a := 5) (n := 17) rfl rfl (L2 := [some (.ref 0), some (.int i1), some (.int i2), some (.int i3), some (.ref 146), some (.ref 7000000000001)]) rfl ?_
      refine g_constI act (gx gp_167 (w := 0x40000000c00000009000000001201) rfl (by decide) rfl) (n := 18) (x := (1 : Int32)) (by decide) rfl ?_
      exact g_retI hEnd (gx gp_167 (w := 0x2f) rfl (by decide) rfl) ⟨rfl, Or.inr (Or.inl ⟨rfl, hpo⟩)⟩ (by show kc + 5 ≤ kc + 5; omega) (by show ks + 55 ≤ ks + 55; omega)
    · obtain rfl : x9 = 2 := by omega
      refine Or.inl ⟨by decide, ?_⟩
      show WpN (gp g0 wp) CLS p l e R sW m args below meth cW Q D_167.2.2.1 kc0 ks0 19 [some (.ref 0), some (.int i1), some (.int i2), some (.int i3), some (.ref 146), none] (hs9, kc + 5, ks + 55) [.ref 7000000000001]
      refine g_storeA act (gx gp_167 (w := 0x500152d) rfl (by decide) rfl) (a := 5) (n := 21) rfl rfl (L2 := [some (.ref 0), some (.int i1), some (.int i2), some (.int i3), some (.ref 146), some (.ref 7000000000001)]) rfl ?_
      refine g_constI act (gx gp_167 (w := 0x40000001400000011000000001601) rfl (by decide) rfl) (n := 22) (x := (2 : Int32)) (by decide) rfl ?_
      exact g_retI hEnd (gx gp_167 (w := 0x2f) rfl (by decide) rfl) ⟨rfl, Or.inr (Or.inr (⟨rfl, hpo⟩))⟩ (by show kc + 5 ≤ kc + 5; omega) (by show ks + 55 ≤ ks + 55; omega)

theorem wx_setOutage {i1 : Int32} (hb : ∀ g0 : GG, TYg g0 → BodyN SSX TBL g0 CLS bl xs l D_60 10 182 5 55 [.ref 0, .int i1] hs PO) (hTY0 : TYg g0) (hk : shp hs 0 = some (0, 7)) (h0 : ∀ r h1, PO 0 r h1 → (∃ x : Int32, r = some (.int x)) ∧ shp h1 146 = some (33, 1)) (hx : ∀ kd r h1, kd ≠ 0 → PO kd r h1 → kd = 2 ∨ kd = 3) : BodyN SSX TBL g0 CLS bl xs l D_169 11 204 5 55 [.ref 0, .int i1, .ref 146] hs (fun kd r h2 => kd = 0 ∧ ((∃ (x : Int32) (h1 : List CE), r = some (.int 0) ∧ PO 0 (some (.int x)) h1 ∧ h2 = wr h1 146 0 (.long x.toInt64)) ∨ (r = some (.int 1) ∧ PO 2 none h2) ∨ (r = some (.int 2) ∧ PO 3 none h2))) := by
  intro wp p e R sW m args below meth cW Q kc0 ks0 kc ks act hf hl hc hsl hEnd
  have hf : 11 ≤ R.frames := hf
  have hl : 204 ≤ R.locals := hl
  have hTY0 : TYg (gp g0 wp) := hTY0
  show WpN (gp g0 wp) CLS p l e R sW m args below meth cW Q D_169.2.2.1 kc0 ks0 0 [some (.ref 0), some (.int i1), some (.ref 146), none] (hs, kc, ks) []
  refine g_loadA act (gx gp_169 (w := 0x2000103) rfl (by decide) rfl) (a := 2) (n := 1) rfl rfl rfl ?_
  refine g_constI act (gx gp_169 (w := 0x40000000400000001000000000201) rfl (by decide) rfl) (n := 2) (x := (0 : Int32)) (by decide) rfl ?_
  refine g_loadA act (gx gp_169 (w := 0x303) rfl (by decide) rfl) (a := 0) (n := 3) rfl rfl rfl ?_
  refine g_loadI act (gx gp_169 (w := 0x1000402) rfl (by decide) rfl) (a := 1) (n := 4) rfl rfl rfl ?_
  refine n_call tb_pres act hEnd (gx (P := G_call) gp_169 (w := 0x100000f00c000c0c2200003c00070f) rfl (by decide) rfl) (d' := D_60) rfl (f' := 10) (lam' := 182) (mc := 5) (ms := 55) (as := [.ref 0, .int i1]) (rest := [.int (0 : Int32), .ref 146]) (hb _ hTY0) (show (2 : Nat) = fb 0x100000f00c000c0c2200003c00070f % 16 by decide) (by show (2 : Nat) ≤ 3; decide) (fun _ => ⟨_, _, rfl, _, shp_at hk, Or.inr (show fb 0x100000f00c000c0c2200003c00070f >>> 68 = 1 by decide)⟩) (by omega) (by show 8 + (3 + 11) + 182 ≤ R.locals; omega) (by show (2 : Nat) ≤ 8; decide) (by show kc + 5 ≤ _; omega) (by show ks + 55 ≤ _; omega) (fun r9 h1 hpo hr9 => ?_) (fun x9 hs9 hx9 hpo => ?_)
  · obtain ⟨⟨x9, rfl⟩, hk2⟩ := h0 _ _ hpo
    show WpN (gp g0 wp) CLS p l e R sW m args below meth cW Q D_169.2.2.1 kc0 ks0 7 [some (.ref 0), some (.int i1), some (.ref 146), none] (h1, kc + 5, ks + 55) [.int x9, .int (0 : Int32), .ref 146]
    refine g_i2l act (gx gp_169 (w := 0x82c) rfl (by decide) rfl) (n := 8) rfl ?_
    refine r_last act (gx gp_169 (w := 0x905) rfl (by decide) rfl) (n := 9) (N := 1) (j := 0) rfl hk2 rfl (by decide) ?_
    refine g_goto act (gx gp_169 (w := 0x1207) rfl (by decide) rfl) (n := 18) rfl ?_
    refine g_constI act (gx gp_169 (w := 0x40000000400000001000000001301) rfl (by decide) rfl) (n := 19) (x := (0 : Int32)) (by decide) rfl ?_
    exact g_retI hEnd (gx gp_169 (w := 0x2f) rfl (by decide) rfl) ⟨rfl, Or.inl ⟨_, _, rfl, hpo, rfl⟩⟩ (by show kc + 5 ≤ kc + 5; omega) (by show ks + 55 ≤ ks + 55; omega)
  · rcases hx _ _ _ (show 1 + x9 ≠ 0 by omega) hpo with hk9 | hk9
    · obtain rfl : x9 = 1 := by omega
      refine Or.inl ⟨by decide, ?_⟩
      show WpN (gp g0 wp) CLS p l e R sW m args below meth cW Q D_169.2.2.1 kc0 ks0 12 [some (.ref 0), some (.int i1), some (.ref 146), none] (hs9, kc + 5, ks + 55) [.ref 7000000000001]
      refine g_storeA act (gx gp_169 (w := 0x3000d2d) rfl (by decide) rfl) (a := 3) (n := 13) rfl rfl (L2 := [some (.ref 0), some (.int i1), some (.ref 146), some (.ref 7000000000001)]) rfl ?_
      refine g_constI act (gx gp_169 (w := 0x40000000c00000009000000000e01) rfl (by decide) rfl) (n := 14) (x := (1 : Int32)) (by decide) rfl ?_
      exact g_retI hEnd (gx gp_169 (w := 0x2f) rfl (by decide) rfl) ⟨rfl, Or.inr (Or.inl ⟨rfl, hpo⟩)⟩ (by show kc + 5 ≤ kc + 5; omega) (by show ks + 55 ≤ ks + 55; omega)
    · obtain rfl : x9 = 2 := by omega
      refine Or.inl ⟨by decide, ?_⟩
      show WpN (gp g0 wp) CLS p l e R sW m args below meth cW Q D_169.2.2.1 kc0 ks0 15 [some (.ref 0), some (.int i1), some (.ref 146), none] (hs9, kc + 5, ks + 55) [.ref 7000000000001]
      refine g_storeA act (gx gp_169 (w := 0x300102d) rfl (by decide) rfl) (a := 3) (n := 16) rfl rfl (L2 := [some (.ref 0), some (.int i1), some (.ref 146), some (.ref 7000000000001)]) rfl ?_
      refine g_constI act (gx gp_169 (w := 0x40000001400000011000000001101) rfl (by decide) rfl) (n := 17) (x := (2 : Int32)) (by decide) rfl ?_
      exact g_retI hEnd (gx gp_169 (w := 0x2f) rfl (by decide) rfl) ⟨rfl, Or.inr (Or.inr (⟨rfl, hpo⟩))⟩ (by show kc + 5 ≤ kc + 5; omega) (by show ks + 55 ≤ ks + 55; omega)

theorem wx_undo (hb : ∀ g0 : GG, TYg g0 → BodyN SSX TBL g0 CLS bl xs l D_68 8 120 1 11 [.ref 0] hs PO) (hTY0 : TYg g0) (hk : shp hs 0 = some (0, 7)) (h0 : ∀ r h1, PO 0 r h1 → (∃ x : Int32, r = some (.int x)) ∧ shp h1 146 = some (33, 1)) (hx : ∀ kd r h1, kd ≠ 0 → PO kd r h1 → kd = 1) : BodyN SSX TBL g0 CLS bl xs l D_174 9 140 1 11 [.ref 0, .ref 146] hs (fun kd r h2 => kd = 0 ∧ ((∃ (x : Int32) (h1 : List CE), r = some (.int 0) ∧ PO 0 (some (.int x)) h1 ∧ h2 = wr h1 146 0 (.long x.toInt64)) ∨ (r = some (.int 1) ∧ PO 1 none h2))) := by
  intro wp p e R sW m args below meth cW Q kc0 ks0 kc ks act hf hl hc hsl hEnd
  have hf : 9 ≤ R.frames := hf
  have hl : 140 ≤ R.locals := hl
  have hTY0 : TYg (gp g0 wp) := hTY0
  show WpN (gp g0 wp) CLS p l e R sW m args below meth cW Q D_174.2.2.1 kc0 ks0 0 [some (.ref 0), some (.ref 146), none] (hs, kc, ks) []
  refine g_loadA act (gx gp_174 (w := 0x1000103) rfl (by decide) rfl) (a := 1) (n := 1) rfl rfl rfl ?_
  refine g_constI act (gx gp_174 (w := 0x40000000400000001000000000201) rfl (by decide) rfl) (n := 2) (x := (0 : Int32)) (by decide) rfl ?_
  refine g_loadA act (gx gp_174 (w := 0x303) rfl (by decide) rfl) (a := 0) (n := 3) rfl rfl rfl ?_
  refine n_call tb_pres act hEnd (gx (P := G_call) gp_174 (w := 0x100000000000bc041100004400060f) rfl (by decide) rfl) (d' := D_68) rfl (f' := 8) (lam' := 120) (mc := 1) (ms := 11) (as := [.ref 0]) (rest := [.int (0 : Int32), .ref 146]) (hb _ hTY0) (show (1 : Nat) = fb 0x100000000000bc041100004400060f % 16 by decide) (by show (1 : Nat) ≤ 1; decide) (fun _ => ⟨_, _, rfl, _, shp_at hk, Or.inr (show fb 0x100000000000bc041100004400060f >>> 68 = 1 by decide)⟩) (by omega) (by show 8 + (1 + 11) + 120 ≤ R.locals; omega) (by show (2 : Nat) ≤ 8; decide) (by show kc + 1 ≤ _; omega) (by show ks + 11 ≤ _; omega) (fun r9 h1 hpo hr9 => ?_) (fun x9 hs9 hx9 hpo => ?_)
  · obtain ⟨⟨x9, rfl⟩, hk2⟩ := h0 _ _ hpo
    show WpN (gp g0 wp) CLS p l e R sW m args below meth cW Q D_174.2.2.1 kc0 ks0 6 [some (.ref 0), some (.ref 146), none] (h1, kc + 1, ks + 11) [.int x9, .int (0 : Int32), .ref 146]
    refine g_i2l act (gx gp_174 (w := 0x72c) rfl (by decide) rfl) (n := 7) rfl ?_
    refine r_last act (gx gp_174 (w := 0x805) rfl (by decide) rfl) (n := 8) (N := 1) (j := 0) rfl hk2 rfl (by decide) ?_
    refine g_goto act (gx gp_174 (w := 0xe07) rfl (by decide) rfl) (n := 14) rfl ?_
    refine g_constI act (gx gp_174 (w := 0x40000000400000001000000000f01) rfl (by decide) rfl) (n := 15) (x := (0 : Int32)) (by decide) rfl ?_
    exact g_retI hEnd (gx gp_174 (w := 0x2f) rfl (by decide) rfl) ⟨rfl, Or.inl ⟨_, _, rfl, hpo, rfl⟩⟩ (by show kc + 1 ≤ kc + 1; omega) (by show ks + 11 ≤ ks + 11; omega)
  · have hk9 := hx _ _ _ (show 1 + x9 ≠ 0 by omega) hpo
    obtain rfl : x9 = 0 := by omega
    refine Or.inl ⟨by decide, ?_⟩
    show WpN (gp g0 wp) CLS p l e R sW m args below meth cW Q D_174.2.2.1 kc0 ks0 11 [some (.ref 0), some (.ref 146), none] (hs9, kc + 1, ks + 11) [.ref 7000000000001]
    refine g_storeA act (gx gp_174 (w := 0x2000c2d) rfl (by decide) rfl) (a := 2) (n := 12) rfl rfl (L2 := [some (.ref 0), some (.ref 146), some (.ref 7000000000001)]) rfl ?_
    refine g_constI act (gx gp_174 (w := 0x40000000c00000009000000000d01) rfl (by decide) rfl) (n := 13) (x := (1 : Int32)) (by decide) rfl ?_
    exact g_retI hEnd (gx gp_174 (w := 0x2f) rfl (by decide) rfl) ⟨rfl, Or.inr (⟨rfl, hpo⟩)⟩ (by show kc + 1 ≤ kc + 1; omega) (by show ks + 11 ≤ ks + 11; omega)

end WRX
