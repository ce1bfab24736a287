/-! The class makes a grid, and reads a text, exactly. -/
/-- a grid that is being made: n cells of it are there -/
def GCS (hs0 hs : List CE) (g n : Nat) (S A : List (Nat × Nat)) (m : Nat) : Prop := hs.length = g + n ∧ 1 ≤ n ∧ shp hs g = some (4, 18) ∧ (∀ j, j < 6 → rd hs g j = .int (if j = 5 then -1 else 0)) ∧ (∀ q ∈ S, rd hs g q.1 = .ref (g + q.2)) ∧ (∀ q ∈ A, 1 ≤ q.1 ∧ q.1 < n ∧ shp hs (g + q.1) = some (32, q.2) ∧ ∀ j, j < q.2 → rd hs (g + q.1) j = .int 0) ∧ (1 ≤ m → m < n ∧ shp hs (g + m) = some (37, 4) ∧ ∀ i, i < 4 → rd hs (g + m) i = .ref (g + (m + 1 + i))) ∧ ∀ k, k < g → hs[k]? = hs0[k]?
theorem wr_at2 {hs : List CE} {k k' j : Nat} {v : Value} (h : k ≠ k') : (wr hs k j v)[k']? = hs[k']? := wr_ne h
theorem app_at9 {hs t : List CE} {k : Nat} (h : k < hs.length) : (hs ++ t)[k]? = hs[k]? := List.getElem?_append_left h
theorem rd_apl {hs t : List CE} {k j : Nat} (h : k < hs.length) : rd (hs ++ t) k j = rd hs k j := by
  unfold rd
  rw [List.getElem?_append_left h]
theorem shp_apl {hs t : List CE} {k : Nat} (h : k < hs.length) : shp (hs ++ t) k = shp hs k := by
  unfold shp
  rw [List.getElem?_append_left h]
theorem GCS.arr {hs0 hs : List CE} {g n m sl N : Nat} {S A : List (Nat × Nat)} (h : GCS hs0 hs g n S A m) (h6 : 6 ≤ sl) (hS : (S.all fun q => q.1 != sl) = true) : GCS hs0 (wr (hs ++ [((32, N, dfN 32) : CE)]) g sl (.ref hs.length)) g (n + 1) ((sl, n) :: S) ((n, N) :: A) m := by
  obtain ⟨h1, h2, h3, h4, h5, h7, h8, h9⟩ := h
  have hl : hs.length < (hs ++ [((32, N, dfN 32) : CE)]).length := by rw [List.length_append]; exact Nat.lt_succ_self _
  have hnew : (hs ++ [((32, N, dfN 32) : CE)])[hs.length]? = some (32, N, dfN 32) := by rw [List.getElem?_append_right (Nat.le_refl _), Nat.sub_self]; rfl
  have sg : shp (hs ++ [((32, N, dfN 32) : CE)]) g = some (4, 18) := (shp_apl (by omega)).trans h3
  refine ⟨by rw [wr_len, List.length_append, h1]; rfl, by omega, (shp_wr _ _ _ _ _).trans sg, fun j hj => ?_, fun q hq => ?_, fun q hq => ?_, fun q => ?_, fun k hk => ?_⟩
  · rw [rd_ne _ _ (Or.inr (by omega)), rd_apl (by omega)]
    exact h4 j hj
  · rcases List.mem_cons.mp hq with rfl | hq
    · rw [h1]
      exact rd_same sg
    · have hne := List.all_eq_true.mp hS q hq
      rw [rd_ne _ _ (Or.inr (by simpa using hne)), rd_apl (by omega)]
      exact h5 q hq
  · rcases List.mem_cons.mp hq with rfl | hq
    · refine ⟨h2, Nat.lt_succ_self _, ?_, fun j hj => ?_⟩
      · rw [shp_wr]
        unfold shp
        rw [← h1, hnew]
        rfl
      · rw [rd_ne _ _ (Or.inl (by show g + n ≠ g; omega))]
        unfold rd
        rw [← h1, hnew]
        rfl
    · obtain ⟨a, b, c, d⟩ := h7 q hq
      refine ⟨a, by omega, ?_, fun j hj => ?_⟩
      · rw [shp_wr, shp_apl (by omega)]
        exact c
      · rw [rd_ne _ _ (Or.inl (by omega)), rd_apl (by omega)]
        exact d j hj
  · obtain ⟨a, b, c⟩ := h8 q
    refine ⟨by omega, ?_, fun i hi => ?_⟩
    · rw [shp_wr, shp_apl (by omega)]
      exact b
    · rw [rd_ne _ _ (Or.inl (by omega)), rd_apl (by omega)]
      exact c i hi
  · rw [wr_ne (by omega), app_at9 (by omega)]
    exact h9 k hk
theorem GCS.mul {hs0 hs : List CE} {g n : Nat} {S A : List (Nat × Nat)} (h : GCS hs0 hs g n S A 0) (hS : (S.all fun q => q.1 != 13) = true) : GCS hs0 (wr (hs ++ mulC 37 32 4 4 hs.length) g 13 (.ref hs.length)) g (n + 5) ((13, n) :: S) ((n + 1, 4) :: (n + 2, 4) :: (n + 3, 4) :: (n + 4, 4) :: A) n := by
  obtain ⟨h1, h2, h3, h4, h5, h7, h8, h9⟩ := h
  have e0 : (hs ++ mulC 37 32 4 4 hs.length)[hs.length]? = some (37, 4, fun j => if j < 4 then .ref (hs.length + 1 + j) else .null) := by rw [List.getElem?_append_right (Nat.le_refl _), Nat.sub_self]; rfl
  have er : ∀ i, i < 4 → (hs ++ mulC 37 32 4 4 hs.length)[hs.length + (i + 1)]? = some (32, 4, dfN 32) := fun i hi => by
    rw [List.getElem?_append_right (by omega), show hs.length + (i + 1) - hs.length = i + 1 by omega]
    match i, hi with
    | 0, _ => rfl
    | 1, _ => rfl
    | 2, _ => rfl
    | 3, _ => rfl
  have sg : shp (hs ++ mulC 37 32 4 4 hs.length) g = some (4, 18) := (shp_apl (by omega)).trans h3
  have hz : ∀ i, i < 4 → 1 ≤ n + (i + 1) ∧ n + (i + 1) < n + 5 ∧ shp (wr (hs ++ mulC 37 32 4 4 hs.length) g 13 (.ref hs.length)) (g + (n + (i + 1))) = some (32, 4) ∧ ∀ j, j < 4 → rd (wr (hs ++ mulC 37 32 4 4 hs.length) g 13 (.ref hs.length)) (g + (n + (i + 1))) j = .int 0 := fun i hi => by
    have e := er i hi
    rw [show hs.length + (i + 1) = g + (n + (i + 1)) by omega] at e
    refine ⟨by omega, by omega, ?_, fun j hj => ?_⟩
    · rw [shp_wr]
      unfold shp
      rw [e]
      rfl
    · rw [rd_ne _ _ (Or.inl (by omega))]
      unfold rd
      rw [e]
      rfl
  refine ⟨by rw [wr_len, List.length_append, mulC_len, h1, Nat.add_assoc], by omega, (shp_wr _ _ _ _ _).trans sg, fun j hj => ?_, fun q hq => ?_, fun q hq => ?_, fun _ => ?_, fun k hk => ?_⟩
  · rw [rd_ne _ _ (Or.inr (by omega)), rd_apl (by omega)]
    exact h4 j hj
  · rcases List.mem_cons.mp hq with rfl | hq
    · exact (rd_same sg).trans (congrArg Value.ref h1)
    · have hne := List.all_eq_true.mp hS q hq
      rw [rd_ne _ _ (Or.inr (by simpa using hne)), rd_apl (by omega)]
      exact h5 q hq
  · rcases List.mem_cons.mp hq with rfl | hq
    · exact hz 0 (by decide)
    · rcases List.mem_cons.mp hq with rfl | hq
      · exact hz 1 (by decide)
      · rcases List.mem_cons.mp hq with rfl | hq
        · exact hz 2 (by decide)
        · rcases List.mem_cons.mp hq with rfl | hq
          · exact hz 3 (by decide)
          · obtain ⟨a, b, c, d⟩ := h7 q hq
            refine ⟨a, by omega, ?_, fun j hj => ?_⟩
            · rw [shp_wr, shp_apl (by omega)]
              exact c
            · rw [rd_ne _ _ (Or.inl (by omega)), rd_apl (by omega)]
              exact d j hj
  · refine ⟨by omega, ?_, fun i hi => ?_⟩
    · rw [shp_wr]
      unfold shp
      rw [← h1, e0]
      rfl
    · rw [rd_ne _ _ (Or.inl (by omega))]
      unfold rd
      rw [← h1, e0]
      show (if i < 4 then Value.ref (hs.length + 1 + i) else .null) = _
      rw [if_pos hi, h1, show g + n + 1 + i = g + (n + 1 + i) by omega]
  · rw [wr_ne (by omega), app_at9 (by omega)]
    exact h9 k hk
def F00 (a j : Nat) : Int32 := if a = 0 ∧ j = 5 then -1 else 0
theorem GCS.fin {hs0 hs : List CE} {g : Nat} (hg : 148 ≤ g) (h : GCS hs0 hs g 17 [(17, 16), (16, 15), (15, 14), (14, 13), (13, 8), (12, 7), (11, 6), (10, 5), (9, 4), (8, 3), (7, 2), (6, 1)] [(16, 6), (15, 6), (14, 6), (13, 6), (9, 4), (10, 4), (11, 4), (12, 4), (7, 5), (6, 5), (5, 5), (4, 6), (3, 6), (2, 6), (1, 6)] 8) : GIM hs g F00 := by
  obtain ⟨h1, h2, h3, h4, h5, h7, h8, h9⟩ := h
  obtain ⟨m1, m2, m3⟩ := h8 (by decide)
  refine ⟨⟨Or.inr hg, h3, fun q hq => ?_, fun i hi => ⟨m3 i hi, ?_⟩⟩, fun a j hp => ?_⟩
  · have hA : ∀ q ∈ GST, (q.1, q.2.1) ∈ [(17, 16), (16, 15), (15, 14), (14, 13), (13, 8), (12, 7), (11, 6), (10, 5), (9, 4), (8, 3), (7, 2), (6, 1)] ∧ (q.2.1 = 8 ∧ q.2.2 = (37, 4) ∨ q.2.2.1 = 32 ∧ (q.2.1, q.2.2.2) ∈ [(16, 6), (15, 6), (14, 6), (13, 6), (9, 4), (10, 4), (11, 4), (12, 4), (7, 5), (6, 5), (5, 5), (4, 6), (3, 6), (2, 6), (1, 6)]) := by decide
    obtain ⟨q1, q2⟩ := hA q hq
    refine ⟨h5 _ q1, ?_⟩
    rcases q2 with ⟨q2, q3⟩ | ⟨q2, q3⟩
    · rw [q2, q3]
      exact m2
    · rw [q2]
      exact (h7 _ q3).2.2.1
  · have := h7 (9 + i, 4) (by
      rcases (show i = 0 ∨ i = 1 ∨ i = 2 ∨ i = 3 by omega) with rfl | rfl | rfl | rfl <;> decide)
    exact this.2.2.1
  · unfold gpl at hp
    by_cases h0 : a = 0
    · subst h0
      have := h4 j (by omega)
      rw [Nat.add_zero, this]
      unfold F00
      by_cases z : j = 5
      · rw [if_pos z, if_pos ⟨rfl, z⟩]
      · rw [if_neg z, if_neg (fun q => z q.2)]
    · have hA : ∃ N, (a, N) ∈ [(16, 6), (15, 6), (14, 6), (13, 6), (9, 4), (10, 4), (11, 4), (12, 4), (7, 5), (6, 5), (5, 5), (4, 6), (3, 6), (2, 6), (1, 6)] ∧ j < N := by
        rcases (show (a = 1 ∨ a = 2 ∨ a = 3 ∨ a = 4) ∧ j < 6 ∨ (a = 5 ∨ a = 6 ∨ a = 7) ∧ j < 5 ∨ (a = 9 ∨ a = 10 ∨ a = 11 ∨ a = 12) ∧ j < 4 ∨ (a = 13 ∨ a = 14 ∨ a = 15 ∨ a = 16) ∧ j < 6 by omega) with ⟨q, w⟩ | ⟨q, w⟩ | ⟨q, w⟩ | ⟨q, w⟩
        · exact ⟨6, by rcases q with rfl | rfl | rfl | rfl <;> decide, w⟩
        · exact ⟨5, by rcases q with rfl | rfl | rfl <;> decide, w⟩
        · exact ⟨4, by rcases q with rfl | rfl | rfl | rfl <;> decide, w⟩
        · exact ⟨6, by rcases q with rfl | rfl | rfl | rfl <;> decide, w⟩
      obtain ⟨N, q1, q2⟩ := hA
      rw [(h7 _ q1).2.2.2 j q2]
      unfold F00
      rw [if_neg (fun q => h0 q.1)]
theorem F00_rel : REL F00 (fun _ => 0) (fun _ => 0) (-1) := by
  refine ⟨rfl, rfl, rfl, rfl, rfl, rfl, ?_, ?_, ?_, ?_, ?_, ?_, ?_, ?_, ?_, ?_, ?_, ?_⟩ <;> intros <;> unfold F00 <;> rw [if_neg (by omega)] <;> rfl

section CRDN
variable {g0 : GG} {bl : Nat} {xs : Nat → Int32} {l : Launch} {hs : List CE} {g : Nat}

theorem cx_grid (hTY9 : TYg g0) (hg : 148 ≤ g) (hl1 : hs.length = g + 1) (hk : shp hs g = some (4, 18)) (hz : ∀ j, j < 5 → rd hs g j = .int 0) (hlen : g + 30 ≤ 6999999999999) : BodyN SSX TBL g0 CLS bl xs l D_94 1 12 20 220 [.ref g] hs (fun kd r h2 => kd = 0 ∧ r = none ∧ GIM h2 g F00 ∧ h2.length = g + 17 ∧ ∀ k, k < g → h2[k]? = hs[k]?) := by
  intro wp p e R sW m args below meth cW Q kc0 ks0 kc ks act hf hl hc hsl hEnd
  have hf : 1 ≤ R.frames := hf
  have hl : 12 ≤ R.locals := hl
  have hTY : TYg (gp g0 wp) := hTY9
  show WpN (gp g0 wp) CLS p l e R sW m args below meth cW Q D_94.2.2.1 kc0 ks0 0 [some (.ref g)] (hs, kc, ks) []
  refine g_loadA act (gx gp_94 (w := 0x103) rfl (by decide) rfl) (a := 0) (n := 1) rfl rfl rfl ?_
  refine n_objinit act (gx gp_94 (w := 0x429) rfl (by decide) rfl) (by omega) (by show (0 : Nat) + 12 ≤ R.locals; omega) rfl ?_
  refine g_loadA act (gx gp_94 (w := 0x503) rfl (by decide) rfl) (a := 0) (n := 5) rfl rfl rfl ?_
  refine g_constI act (gx gp_94 (w := 0x3fffffffbfffffff9000000000601) rfl (by decide) rfl) (n := 6) (x := (-1 : Int32)) (by decide) rfl ?_
  refine r_putf act (gx gp_94 (w := 0x144000913) rfl (by decide) rfl) (n := 9) (ci := 4) (j := 5) (N := 18) rfl rfl rfl hk (by decide) (Or.inl ⟨rfl, _, rfl⟩) ?_
  have hC : GCS hs (wr hs g 5 (.int (-1 : Int32))) g 1 [] [] 0 := ⟨by rw [wr_len]; exact hl1, Nat.le_refl 1, (shp_wr _ _ _ _ _).trans hk, fun j hj => by
    by_cases z : j = 5
    · rw [z]; exact rd_same hk
    · rw [rd_ne _ _ (Or.inr z), if_neg z]; exact hz j (by omega), fun q hq => (by cases hq), fun q hq => (by cases hq), fun q => absurd q (by decide), fun k9 hk9 => wr_ne (by omega)⟩
  generalize (wr hs g 5 (.int (-1 : Int32))) = h_1 at hC ⊢
  refine g_loadA act (gx gp_94 (w := 0xa03) rfl (by decide) rfl) (a := 0) (n := 10) rfl rfl rfl ?_
  refine g_constI act (gx gp_94 (w := 0x40000003400000031000000000c01) rfl (by decide) rfl) (n := 12) (x := (6 : Int32)) (by decide) rfl ?_
  refine r_newa act hTY (gx gp_94 (w := 0x20000e1c) rfl (by decide) rfl) (n := 14) (N := 6) (kd := 32) (by decide) (by decide) (by decide) (by have q9 := hC.1; omega) (by omega) (by omega) rfl ?_
  refine r_putf act (gx gp_94 (w := 0x3000184001113) rfl (by decide) rfl) (n := 17) (ci := 4) (j := 6) (N := 18) rfl rfl rfl ((shp_apl (by have q9 := hC.1; omega)).trans hC.2.2.1) (by decide) (Or.inr (Or.inr (Or.inr ⟨rfl, Or.inr ⟨_, rfl⟩⟩))) ?_
  have hC := hC.arr (N := 6) (sl := 6) (by decide) (by decide)
  generalize (wr (h_1 ++ [((32, 6, dfN 32) : CE)]) g 6 (.ref h_1.length)) = h_2 at hC ⊢
  refine g_loadA act (gx gp_94 (w := 0x1203) rfl (by decide) rfl) (a := 0) (n := 18) rfl rfl rfl ?_
  refine g_constI act (gx gp_94 (w := 0x40000003400000031000000001401) rfl (by decide) rfl) (n := 20) (x := (6 : Int32)) (by decide) rfl ?_
  refine r_newa act hTY (gx gp_94 (w := 0x2000161c) rfl (by decide) rfl) (n := 22) (N := 6) (kd := 32) (by decide) (by decide) (by decide) (by have q9 := hC.1; omega) (by omega) (by omega) rfl ?_
  refine r_putf act (gx gp_94 (w := 0x30001c4001913) rfl (by decide) rfl) (n := 25) (ci := 4) (j := 7) (N := 18) rfl rfl rfl ((shp_apl (by have q9 := hC.1; omega)).trans hC.2.2.1) (by decide) (Or.inr (Or.inr (Or.inr ⟨rfl, Or.inr ⟨_, rfl⟩⟩))) ?_
  have hC := hC.arr (N := 6) (sl := 7) (by decide) (by decide)
  generalize (wr (h_2 ++ [((32, 6, dfN 32) : CE)]) g 7 (.ref h_2.length)) = h_3 at hC ⊢
  refine g_loadA act (gx gp_94 (w := 0x1a03) rfl (by decide) rfl) (a := 0) (n := 26) rfl rfl rfl ?_
  refine g_constI act (gx gp_94 (w := 0x40000003400000031000000001c01) rfl (by decide) rfl) (n := 28) (x := (6 : Int32)) (by decide) rfl ?_
  refine r_newa act hTY (gx gp_94 (w := 0x20001e1c) rfl (by decide) rfl) (n := 30) (N := 6) (kd := 32) (by decide) (by decide) (by decide) (by have q9 := hC.1; omega) (by omega) (by omega) rfl ?_
  refine r_putf act (gx gp_94 (w := 0x3000204002113) rfl (by decide) rfl) (n := 33) (ci := 4) (j := 8) (N := 18) rfl rfl rfl ((shp_apl (by have q9 := hC.1; omega)).trans hC.2.2.1) (by decide) (Or.inr (Or.inr (Or.inr ⟨rfl, Or.inr ⟨_, rfl⟩⟩))) ?_
  have hC := hC.arr (N := 6) (sl := 8) (by decide) (by decide)
  generalize (wr (h_3 ++ [((32, 6, dfN 32) : CE)]) g 8 (.ref h_3.length)) = h_4 at hC ⊢
  refine g_loadA act (gx gp_94 (w := 0x2203) rfl (by decide) rfl) (a := 0) (n := 34) rfl rfl rfl ?_
  refine g_constI act (gx gp_94 (w := 0x40000003400000031000000002401) rfl (by decide) rfl) (n := 36) (x := (6 : Int32)) (by decide) rfl ?_
  refine r_newa act hTY (gx gp_94 (w := 0x2000261c) rfl (by decide) rfl) (n := 38) (N := 6) (kd := 32) (by decide) (by decide) (by decide) (by have q9 := hC.1; omega) (by omega) (by omega) rfl ?_
  refine r_putf act (gx gp_94 (w := 0x3000244002913) rfl (by decide) rfl) (n := 41) (ci := 4) (j := 9) (N := 18) rfl rfl rfl ((shp_apl (by have q9 := hC.1; omega)).trans hC.2.2.1) (by decide) (Or.inr (Or.inr (Or.inr ⟨rfl, Or.inr ⟨_, rfl⟩⟩))) ?_
  have hC := hC.arr (N := 6) (sl := 9) (by decide) (by decide)
  generalize (wr (h_4 ++ [((32, 6, dfN 32) : CE)]) g 9 (.ref h_4.length)) = h_5 at hC ⊢
  refine g_loadA act (gx gp_94 (w := 0x2a03) rfl (by decide) rfl) (a := 0) (n := 42) rfl rfl rfl ?_
  refine g_constI act (gx gp_94 (w := 0x40000002c00000029000000002b01) rfl (by decide) rfl) (n := 43) (x := (5 : Int32)) (by decide) rfl ?_
  refine r_newa act hTY (gx gp_94 (w := 0x20002d1c) rfl (by decide) rfl) (n := 45) (N := 5) (kd := 32) (by decide) (by decide) (by decide) (by have q9 := hC.1; omega) (by omega) (by omega) rfl ?_
  refine r_putf act (gx gp_94 (w := 0x3000284003013) rfl (by decide) rfl) (n := 48) (ci := 4) (j := 10) (N := 18) rfl rfl rfl ((shp_apl (by have q9 := hC.1; omega)).trans hC.2.2.1) (by decide) (Or.inr (Or.inr (Or.inr ⟨rfl, Or.inr ⟨_, rfl⟩⟩))) ?_
  have hC := hC.arr (N := 5) (sl := 10) (by decide) (by decide)
  generalize (wr (h_5 ++ [((32, 5, dfN 32) : CE)]) g 10 (.ref h_5.length)) = h_6 at hC ⊢
  refine g_loadA act (gx gp_94 (w := 0x3103) rfl (by decide) rfl) (a := 0) (n := 49) rfl rfl rfl ?_
  refine g_constI act (gx gp_94 (w := 0x40000002c00000029000000003201) rfl (by decide) rfl) (n := 50) (x := (5 : Int32)) (by decide) rfl ?_
  refine r_newa act hTY (gx gp_94 (w := 0x2000341c) rfl (by decide) rfl) (n := 52) (N := 5) (kd := 32) (by decide) (by decide) (by decide) (by have q9 := hC.1; omega) (by omega) (by omega) rfl ?_
  refine r_putf act (gx gp_94 (w := 0x30002c4003713) rfl (by decide) rfl) (n := 55) (ci := 4) (j := 11) (N := 18) rfl rfl rfl ((shp_apl (by have q9 := hC.1; omega)).trans hC.2.2.1) (by decide) (Or.inr (Or.inr (Or.inr ⟨rfl, Or.inr ⟨_, rfl⟩⟩))) ?_
  have hC := hC.arr (N := 5) (sl := 11) (by decide) (by decide)
  generalize (wr (h_6 ++ [((32, 5, dfN 32) : CE)]) g 11 (.ref h_6.length)) = h_7 at hC ⊢
  refine g_loadA act (gx gp_94 (w := 0x3803) rfl (by decide) rfl) (a := 0) (n := 56) rfl rfl rfl ?_
  refine g_constI act (gx gp_94 (w := 0x40000002c00000029000000003901) rfl (by decide) rfl) (n := 57) (x := (5 : Int32)) (by decide) rfl ?_
  refine r_newa act hTY (gx gp_94 (w := 0x20003b1c) rfl (by decide) rfl) (n := 59) (N := 5) (kd := 32) (by decide) (by decide) (by decide) (by have q9 := hC.1; omega) (by omega) (by omega) rfl ?_
  refine r_putf act (gx gp_94 (w := 0x3000304003e13) rfl (by decide) rfl) (n := 62) (ci := 4) (j := 12) (N := 18) rfl rfl rfl ((shp_apl (by have q9 := hC.1; omega)).trans hC.2.2.1) (by decide) (Or.inr (Or.inr (Or.inr ⟨rfl, Or.inr ⟨_, rfl⟩⟩))) ?_
  have hC := hC.arr (N := 5) (sl := 12) (by decide) (by decide)
  generalize (wr (h_7 ++ [((32, 5, dfN 32) : CE)]) g 12 (.ref h_7.length)) = h_8 at hC ⊢
  refine g_loadA act (gx gp_94 (w := 0x3f03) rfl (by decide) rfl) (a := 0) (n := 63) rfl rfl rfl ?_
  refine g_constI act (gx gp_94 (w := 0x40000002400000021000000004001) rfl (by decide) rfl) (n := 64) (x := (4 : Int32)) (by decide) rfl ?_
  refine g_constI act (gx gp_94 (w := 0x40000002400000021000000004101) rfl (by decide) rfl) (n := 65) (x := (4 : Int32)) (by decide) rfl ?_
  refine r_multi act hTY (gx (P := G_multi) gp_94 (w := 0x20000025004527) rfl (by decide) rfl) (n := 69) (N := 4) (M := 4) (c1 := 37) (c2 := 32) (by decide) (by decide) (by decide) (by decide) (by decide) (by decide) (by have q9 := hC.1; omega) (by omega) (by omega) rfl ?_
  refine r_putf act (gx gp_94 (w := 0x3000344004813) rfl (by decide) rfl) (n := 72) (ci := 4) (j := 13) (N := 18) rfl rfl rfl ((shp_apl (by have q9 := hC.1; omega)).trans hC.2.2.1) (by decide) (Or.inr (Or.inr (Or.inr ⟨rfl, Or.inr ⟨_, rfl⟩⟩))) ?_
  have hC := hC.mul (by decide)
  generalize (wr (h_8 ++ mulC 37 32 4 4 h_8.length) g 13 (.ref h_8.length)) = h_9 at hC ⊢
  refine g_loadA act (gx gp_94 (w := 0x4903) rfl (by decide) rfl) (a := 0) (n := 73) rfl rfl rfl ?_
  refine g_constI act (gx gp_94 (w := 0x40000003400000031000000004b01) rfl (by decide) rfl) (n := 75) (x := (6 : Int32)) (by decide) rfl ?_
  refine r_newa act hTY (gx gp_94 (w := 0x20004d1c) rfl (by decide) rfl) (n := 77) (N := 6) (kd := 32) (by decide) (by decide) (by decide) (by have q9 := hC.1; omega) (by omega) (by omega) rfl ?_
  refine r_putf act (gx gp_94 (w := 0x3000384005013) rfl (by decide) rfl) (n := 80) (ci := 4) (j := 14) (N := 18) rfl rfl rfl ((shp_apl (by have q9 := hC.1; omega)).trans hC.2.2.1) (by decide) (Or.inr (Or.inr (Or.inr ⟨rfl, Or.inr ⟨_, rfl⟩⟩))) ?_
  have hC := hC.arr (N := 6) (sl := 14) (by decide) (by decide)
  generalize (wr (h_9 ++ [((32, 6, dfN 32) : CE)]) g 14 (.ref h_9.length)) = h_10 at hC ⊢
  refine g_loadA act (gx gp_94 (w := 0x5103) rfl (by decide) rfl) (a := 0) (n := 81) rfl rfl rfl ?_
  refine g_constI act (gx gp_94 (w := 0x40000003400000031000000005301) rfl (by decide) rfl) (n := 83) (x := (6 : Int32)) (by decide) rfl ?_
  refine r_newa act hTY (gx gp_94 (w := 0x2000551c) rfl (by decide) rfl) (n := 85) (N := 6) (kd := 32) (by decide) (by decide) (by decide) (by have q9 := hC.1; omega) (by omega) (by omega) rfl ?_
  refine r_putf act (gx gp_94 (w := 0x30003c4005813) rfl (by decide) rfl) (n := 88) (ci := 4) (j := 15) (N := 18) rfl rfl rfl ((shp_apl (by have q9 := hC.1; omega)).trans hC.2.2.1) (by decide) (Or.inr (Or.inr (Or.inr ⟨rfl, Or.inr ⟨_, rfl⟩⟩))) ?_
  have hC := hC.arr (N := 6) (sl := 15) (by decide) (by decide)
  generalize (wr (h_10 ++ [((32, 6, dfN 32) : CE)]) g 15 (.ref h_10.length)) = h_11 at hC ⊢
  refine g_loadA act (gx gp_94 (w := 0x5903) rfl (by decide) rfl) (a := 0) (n := 89) rfl rfl rfl ?_
  refine g_constI act (gx gp_94 (w := 0x40000003400000031000000005b01) rfl (by decide) rfl) (n := 91) (x := (6 : Int32)) (by decide) rfl ?_
  refine r_newa act hTY (gx gp_94 (w := 0x20005d1c) rfl (by decide) rfl) (n := 93) (N := 6) (kd := 32) (by decide) (by decide) (by decide) (by have q9 := hC.1; omega) (by omega) (by omega) rfl ?_
  refine r_putf act (gx gp_94 (w := 0x3000404006013) rfl (by decide) rfl) (n := 96) (ci := 4) (j := 16) (N := 18) rfl rfl rfl ((shp_apl (by have q9 := hC.1; omega)).trans hC.2.2.1) (by decide) (Or.inr (Or.inr (Or.inr ⟨rfl, Or.inr ⟨_, rfl⟩⟩))) ?_
  have hC := hC.arr (N := 6) (sl := 16) (by decide) (by decide)
  generalize (wr (h_11 ++ [((32, 6, dfN 32) : CE)]) g 16 (.ref h_11.length)) = h_12 at hC ⊢
  refine g_loadA act (gx gp_94 (w := 0x6103) rfl (by decide) rfl) (a := 0) (n := 97) rfl rfl rfl ?_
  refine g_constI act (gx gp_94 (w := 0x40000003400000031000000006301) rfl (by decide) rfl) (n := 99) (x := (6 : Int32)) (by decide) rfl ?_
  refine r_newa act hTY (gx gp_94 (w := 0x2000651c) rfl (by decide) rfl) (n := 101) (N := 6) (kd := 32) (by decide) (by decide) (by decide) (by have q9 := hC.1; omega) (by omega) (by omega) rfl ?_
  refine r_putf act (gx gp_94 (w := 0x3000444006813) rfl (by decide) rfl) (n := 104) (ci := 4) (j := 17) (N := 18) rfl rfl rfl ((shp_apl (by have q9 := hC.1; omega)).trans hC.2.2.1) (by decide) (Or.inr (Or.inr (Or.inr ⟨rfl, Or.inr ⟨_, rfl⟩⟩))) ?_
  have hC := hC.arr (N := 6) (sl := 17) (by decide) (by decide)
  generalize (wr (h_12 ++ [((32, 6, dfN 32) : CE)]) g 17 (.ref h_12.length)) = h_13 at hC ⊢
  exact g_retV hEnd (gx gp_94 (w := 0x18) rfl (by decide) rfl) ⟨rfl, rfl, hC.fin hg, hC.1, hC.2.2.2.2.2.2.2⟩ (by show kc + 1 + 1 + 1 + 1 + 1 + 1 + 1 + 1 + 4 + 1 + 1 + 1 + 1 ≤ kc + 20; omega) (by show ks + 6 + 6 + 6 + 6 + 5 + 5 + 5 + 4 + 4 * 4 + 6 + 6 + 6 + 6 ≤ ks + 220; omega)

end CRDN
