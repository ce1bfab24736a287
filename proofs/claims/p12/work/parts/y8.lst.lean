/-! The list of changes, with what it holds. -/
/-- a change: its five ints -/
def CHC (hs : List CE) (k : Nat) (c : Nat → Int) : Prop := shp hs k = some (8, 5) ∧ ∀ j, j < 5 → ∃ x : Int32, rd hs k j = .int x ∧ x.toInt = c j
theorem CHC.same {hs h2 : List CE} {k : Nat} {c : Nat → Int} (h : CHC hs k c) (es : shp h2 k = shp hs k) (er : ∀ j, rd h2 k j = rd hs k j) : CHC h2 k c :=
  ⟨es.trans h.1, fun j hj => by
    obtain ⟨x, e, q⟩ := h.2 j hj
    exact ⟨x, (er j).trans e, q⟩⟩
/-- the list: nc changes; its array ka -/
def LSA (hs : List CE) (ka nc : Nat) (ch : Nat → Nat → Int) : Prop := shp hs 35 = some (10, 3) ∧ (∃ m : Int32, rd hs 35 2 = .int m) ∧ (∃ x : Int32, rd hs 35 1 = .int x ∧ x.toInt = (nc : Int)) ∧ rd hs 35 0 = .ref ka ∧ 148 ≤ ka ∧ shp hs ka = some (39, 10) ∧ ∀ j, j < nc → ∃ kc : Nat, rd hs ka j = .ref kc ∧ CHC hs kc (ch j)
/-- the list as the class keeps it -/
def LSC (hs : List CE) (nc : Nat) (ch : Nat → Nat → Int) : Prop := nc ≤ 10 ∧ ((shp hs 35 = some (10, 3) ∧ (∃ m : Int32, rd hs 35 2 = .int m) ∧ rd hs 35 1 = .int 0 ∧ rd hs 35 0 = .ref 7000000000002 ∧ nc = 0) ∨ ∃ ka : Nat, LSA hs ka nc ch)
section LSTY
variable {g0 : GG} {bl : Nat} {xs : Nat → Int32} {l : Launch} {hs : List CE} {nc : Nat} {ch : Nat → Nat → Int} {c : Nat → Int}
theorem lsc_ne {ka k : Nat} (ha : shp hs ka = some (39, 10)) (hc : shp hs k = some (8, 5)) : ka ≠ k := fun z => by
  rw [z, hc] at ha
  cases ha
theorem lsc_n35 {k : Nat} (h : shp hs 35 = some (10, 3)) (hc : shp hs k = some (8, 5)) : k ≠ 35 := fun z => by
  rw [z, h] at hc
  cases hc
/-- one more change, the array being there -/
theorem cx_addA {ka ke : Nat} (h : LSA hs ka nc ch) (hn : nc ≤ 9) (he : CHC hs ke c) : BodyN SSX TBL g0 CLS bl xs l D_293 4 87 1 10 [.ref 35, .ref ke] hs (fun kd r h2 => kd = 0 ∧ r = some (.int 1) ∧ LSA h2 ka (nc + 1) (fun j => if j = nc then c else ch j) ∧ FrS (WLs ka) hs h2) := by
  obtain ⟨h35, ⟨m9, e2⟩, ⟨n9, e1, hn9⟩, e0, h148, hka, hel⟩ := h
  refine (b_ad1A h35 e0 e1 e2 he.1 hka (by omega) (by omega)).imp ?_
  rintro kd r h2 ⟨rfl, rfl, rfl⟩
  have f1 : FrS (WLs ka) hs (wr hs 35 2 (.int (m9 + (1 : Int32)))) := (FrS.rf (WLs ka) hs).wr (k := 35) (j := 2) _ (Or.inl rfl)
  have f2 := f1.wr (k := ka) (j := n9.toInt.toNat) (.ref ke) (Or.inr rfl)
  have f3 := f2.wr (k := 35) (j := 1) (.int (n9 + (1 : Int32))) (Or.inl rfl)
  have k35 : ka ≠ 35 := by omega
  have en : (n9 + (1 : Int32)).toInt = ((nc + 1 : Nat) : Int) := iv_addN hn9 (show (1 : Int32).toInt = ((1 : Nat) : Int) from by decide) (by omega)
  have hold : ∀ kc : Nat, ∀ d : Nat → Int, CHC hs kc d → CHC (wr (wr (wr hs 35 2 (.int (m9 + (1 : Int32)))) ka n9.toInt.toNat (.ref ke)) 35 1 (.int (n9 + (1 : Int32)))) kc d := fun kc d hd =>
    hd.same (f3.2.1 kc) (fun j => f3.2.2 kc j (fun z => by
      rcases z with z | z
      · exact lsc_n35 h35 hd.1 z
      · exact lsc_ne hka hd.1 z.symm))
  refine ⟨rfl, rfl, ⟨(f3.2.1 35).trans h35, ⟨m9 + (1 : Int32), ?_⟩, ⟨_, rd_same ((f2.2.1 35).trans h35), en⟩, ?_, h148, (f3.2.1 ka).trans hka, fun j hj => ?_⟩, f3⟩
  · exact (rd_ne _ _ (Or.inr (by decide))).trans ((rd_ne _ _ (Or.inl (fun z => k35 z.symm))).trans (rd_same h35))
  · exact (rd_ne _ _ (Or.inr (by decide))).trans ((rd_ne _ _ (Or.inl (fun z => k35 z.symm))).trans ((rd_ne _ _ (Or.inr (by decide))).trans e0))
  · by_cases q : j = nc
    · refine ⟨ke, (rd_ne _ _ (Or.inl k35)).trans ?_, by show CHC _ ke (if j = nc then c else ch j); rw [if_pos q]; exact hold ke c he⟩
      rw [q, show nc = n9.toInt.toNat by omega]
      exact rd_same ((f1.2.1 ka).trans hka)
    · obtain ⟨kc, q1, q2⟩ := hel j (by omega)
      refine ⟨kc, (rd_ne _ _ (Or.inl k35)).trans ((rd_ne _ _ (Or.inr (by omega))).trans ((rd_ne _ _ (Or.inl k35)).trans q1)), ?_⟩
      show CHC _ kc (if j = nc then c else ch j)
      rw [if_neg q]
      exact hold kc _ q2
/-- a full list loses its first change -/
theorem cx_rm0 {ka : Nat} (h : LSA hs ka 10 ch) : BodyN SSX TBL g0 CLS bl xs l D_300 3 90 0 0 [.ref 35, .int (0 : Int32)] hs (fun kd r h2 => kd = 0 ∧ (∃ x : Nat, r = some (.ref x)) ∧ LSA h2 ka 9 (fun j => ch (j + 1)) ∧ FrS (WLs ka) hs h2) := by
  obtain ⟨h35, ⟨m9, e2⟩, ⟨n9, e1, hn9⟩, e0, h148, hka, hel⟩ := h
  have k35 : ka ≠ 35 := by omega
  refine (b_rm0 h35 hka (fun z => k35 z.symm) e0 e1 e2 (by omega) (fun j hj => by
    obtain ⟨kc, q1, q2⟩ := hel j hj
    exact ⟨kc, 5, q1, q2.1⟩)).imp ?_
  rintro kd r h2 ⟨rfl, hx, rfl⟩
  have f1 : FrS (WLs ka) hs (wr hs 35 2 (.int (m9 + (1 : Int32)))) := (FrS.rf (WLs ka) hs).wr (k := 35) (j := 2) _ (Or.inl rfl)
  have s1 : shp (wr hs 35 2 (.int (m9 + (1 : Int32)))) ka = some (39, 10) := (f1.2.1 ka).trans hka
  have fc : FrS (WLs ka) (wr hs 35 2 (.int (m9 + (1 : Int32)))) (cpw (wr hs 35 2 (.int (m9 + (1 : Int32)))) ka 1 0 9) := ⟨cpw_len _ _ _ _ _, fun k => shp_cpw _ _ _ _ _ k, fun k j z => rd_cpw_ne (fun y => z (Or.inr y.symm))⟩
  have f2 := f1.tr fc
  have f3 := f2.wr (k := 35) (j := 1) (.int (n9 - (1 : Int32))) (Or.inl rfl)
  have f4 := f3.wr (k := ka) (j := 9) .null (Or.inr rfl)
  have en : (n9 - (1 : Int32)).toInt = ((9 : Nat) : Int) := (iv_sub hn9 (show (1 : Int32).toInt = 1 from by decide) (by omega) (by omega)).trans (by omega)
  have h10 : ∀ k : Nat, k ≠ ka → ∀ j, rd (wr (wr (cpw (wr hs 35 2 (.int (m9 + (1 : Int32)))) ka 1 0 9) 35 1 (.int (n9 - (1 : Int32)))) ka 9 .null) k j = rd (wr (cpw (wr hs 35 2 (.int (m9 + (1 : Int32)))) ka 1 0 9) 35 1 (.int (n9 - (1 : Int32)))) k j := fun k hk j => rd_ne _ _ (Or.inl hk)
  refine ⟨rfl, hx, ⟨(f4.2.1 35).trans h35, ⟨m9 + (1 : Int32), ?_⟩, ⟨n9 - (1 : Int32), ?_, en⟩, ?_, h148, (f4.2.1 ka).trans hka, fun j hj => ?_⟩, f4⟩
  · exact (h10 35 (fun z => k35 z.symm) 2).trans ((rd_ne _ _ (Or.inr (by decide))).trans ((rd_cpw_ne k35).trans (rd_same h35)))
  · exact (h10 35 (fun z => k35 z.symm) 1).trans (rd_same ((f2.2.1 35).trans h35))
  · exact (h10 35 (fun z => k35 z.symm) 0).trans ((rd_ne _ _ (Or.inr (by decide))).trans ((rd_cpw_ne k35).trans ((rd_ne _ _ (Or.inr (by decide))).trans e0)))
  · obtain ⟨kc, q1, q2⟩ := hel (j + 1) (by omega)
    refine ⟨kc, (rd_ne _ _ (Or.inr (by omega))).trans ((rd_ne _ _ (Or.inl k35)).trans ((rd_cpw s1).trans ?_)), q2.same (f4.2.1 kc) (fun j9 => f4.2.2 kc j9 (fun z => by
      rcases z with z | z
      · exact lsc_n35 h35 q2.1 z
      · exact lsc_ne hka q2.1 z.symm))⟩
    unfold cpyV
    rw [if_pos (by omega), show 1 + (j - 0) = j + 1 by omega]
    exact (rd_ne _ _ (Or.inl k35)).trans q1
/-- the first change: the array is made -/
theorem cx_addB {ke : Nat} (hTY0 : TYg g0) (hlen : hs.length + 1 ≤ 6999999999999) (h148 : 148 ≤ hs.length) (h35 : shp hs 35 = some (10, 3)) (h2 : ∃ m : Int32, rd hs 35 2 = .int m) (e1 : rd hs 35 1 = .int 0) (e0 : rd hs 35 0 = .ref 7000000000002) (he : CHC hs ke c) : BodyN SSX TBL g0 CLS bl xs l D_293 4 87 1 10 [.ref 35, .ref ke] hs (fun kd r h2 => kd = 0 ∧ r = some (.int 1) ∧ LSA h2 hs.length 1 (fun _ => c) ∧ h2.length = hs.length + 1 ∧ ∀ k, k < hs.length → k ≠ 35 → h2[k]? = hs[k]?) := by
  obtain ⟨m9, e2⟩ := h2
  refine (b_ad1B h35 e0 e1 e2 he.1 hTY0 hlen (by decide)).imp ?_
  rintro kd r h2 ⟨rfl, rfl, rfl⟩
  have l1 : (wr hs 35 2 (.int (m9 + (1 : Int32)))).length = hs.length := wr_len _ _ _ _
  have s1 : shp (wr hs 35 2 (.int (m9 + (1 : Int32)))) 35 = some (10, 3) := (shp_wr _ _ _ _ _).trans h35
  have r2 : rd (wr hs 35 2 (.int (m9 + (1 : Int32)))) 35 2 = .int (m9 + (1 : Int32)) := rd_same h35
  have kp : ∀ k, k ≠ 35 → (wr hs 35 2 (.int (m9 + (1 : Int32))))[k]? = hs[k]? := fun k hk => wr_ne (fun z => hk z.symm)
  generalize wr hs 35 2 (.int (m9 + (1 : Int32))) = h1 at *
  rw [l1]
  have kb : ∀ k, k < hs.length → (h1 ++ [((39, 10, dfN 39) : CE)])[k]? = h1[k]? := fun k hk => List.getElem?_append_left (by omega)
  have sb : shp (h1 ++ [((39, 10, dfN 39) : CE)]) 35 = some (10, 3) := (shp_eqc (kb 35 (by omega))).trans s1
  have rb : rd (h1 ++ [((39, 10, dfN 39) : CE)]) 35 2 = .int (m9 + (1 : Int32)) := (rd_of (kb 35 (by omega)) 2).trans r2
  have sn : shp (h1 ++ [((39, 10, dfN 39) : CE)]) hs.length = some (39, 10) := by
    rw [← l1]
    exact shp_newc h1 _
  have lb : (h1 ++ [((39, 10, dfN 39) : CE)]).length = hs.length + 1 := by rw [List.length_append, l1]; rfl
  generalize h1 ++ [((39, 10, dfN 39) : CE)] = h3 at *
  have ne : hs.length ≠ 35 := by omega
  have kk : ∀ k, k < hs.length → k ≠ 35 → (wr (wr (wr h3 35 0 (.ref hs.length)) hs.length 0 (.ref ke)) 35 1 (.int ((0 : Int32) + (1 : Int32))))[k]? = hs[k]? := fun k hk h9 => (wr_ne (fun z => h9 z.symm)).trans ((wr_ne (fun z => absurd hk (by omega))).trans ((wr_ne (fun z => h9 z.symm)).trans ((kb k hk).trans (kp k h9))))
  have ke9 : ke < hs.length := shp_lt he.1
  have ke35 : ke ≠ 35 := lsc_n35 h35 he.1
  refine ⟨rfl, rfl, ⟨(shp_wr _ _ _ _ _).trans ((shp_wr _ _ _ _ _).trans ((shp_wr _ _ _ _ _).trans sb)), ⟨m9 + (1 : Int32), ?_⟩, ⟨_, rd_same ((shp_wr _ _ _ _ _).trans ((shp_wr _ _ _ _ _).trans sb)), by decide⟩, ?_, h148, (shp_wr _ _ _ _ _).trans ((shp_wr _ _ _ _ _).trans ((shp_wr _ _ _ _ _).trans sn)), fun j hj => ?_⟩, by rw [wr_len, wr_len, wr_len]; exact lb, kk⟩
  · exact (rd_ne _ _ (Or.inr (by decide))).trans ((rd_ne _ _ (Or.inl (fun z => ne z.symm))).trans ((rd_ne _ _ (Or.inr (by decide))).trans rb))
  · exact (rd_ne _ _ (Or.inr (by decide))).trans ((rd_ne _ _ (Or.inl (fun z => ne z.symm))).trans (rd_same sb))
  · obtain rfl : j = 0 := by omega
    exact ⟨ke, (rd_ne _ _ (Or.inl ne)).trans (rd_same ((shp_wr _ _ _ _ _).trans sn)), he.same (shp_eqc (kk ke ke9 ke35)) (fun j9 => rd_of (kk ke ke9 ke35) j9)⟩
end LSTY
