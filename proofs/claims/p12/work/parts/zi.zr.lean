/-! What is told of nodes is a node, in unused places too. -/
/-- where a node is told -/
def NSL (j : Nat) : Prop := (5 ≤ j ∧ j < 22) ∨ (22 ≤ j ∧ j < 46 ∧ ((j - 22) % 4 = 1 ∨ (j - 22) % 4 = 2))
def ZR (f : Nat → Int) : Prop := ∀ j, NSL j → 0 ≤ f j ∧ f j ≤ 3
theorem ZR.up {f : Nat → Int} {i : Nat} {v : Int} (h : ZR f) (hv : (0 ≤ v ∧ v ≤ 3) ∨ ¬ NSL i) : ZR (upI f i v) := fun j hj => by
  unfold upI
  by_cases q : j = i
  · rw [if_pos q]
    rcases hv with hv | hv
    · exact hv
    · exact absurd (q ▸ hj) hv
  · rw [if_neg q]
    exact h j hj
theorem sNum_r {T : Nat → Int} {L lo hi s : Int} (h : ¬ (sNum T L lo hi s).1 ≠ 0) : lo ≤ (sNum T L lo hi s).2.2 ∧ (sNum T L lo hi s).2.2 ≤ hi := by
  unfold sNum at h ⊢
  split
  · split
    · rename_i q
      exact q
    · rename_i q1 q2
      rw [if_pos q1, if_neg q2] at h
      exact absurd (show (2 : Int) ≠ 0 by decide) h
  · rename_i q1
    rw [if_neg q1] at h
    exact absurd (show (1 : Int) ≠ 0 by decide) h
theorem sOth_r {T : Nat → Int} {L k a s : Int} (h : ¬ (sOth T L k a s).1 ≠ 0) : 0 ≤ (sOth T L k a s).2.2 ∧ (sOth T L k a s).2.2 ≤ k := by
  unfold sOth at h ⊢
  split
  · rename_i q
    rw [if_pos q] at h
    exact absurd (show (2 : Int) ≠ 0 by decide) h
  · rename_i q
    rw [if_neg q] at h
    exact sNum_r h
/-- nodes and the nodes' number stay -/
def ZS (d d2 : GD) : Prop := ZR d2.1 ∧ d2.1 0 = d.1 0
theorem ZS.rf {d : GD} (h : ZR d.1) : ZS d d := ⟨h, rfl⟩
theorem sLine_z {T : Nat → Int} {L s : Int} {nl : Nat} {d : GD} (h : ZR d.1) (h0 : d.1 0 ≤ 4) (hn : nl < 6) : ZS d (sLine T L s nl d).2.2 := by
  have fin : ∀ (a b c e f : Int) (u : Nat → Int), 0 ≤ a ∧ a ≤ d.1 0 - 1 → 0 ≤ b ∧ b ≤ d.1 0 - 1 → ZS d ((c, e, (upI (upI (upI d.1 (5 + nl) a) (11 + nl) b) 2 f, u)) : Int × Int × GD).2.2 := fun a b c e f u ha hb => by
    refine ⟨((h.up (i := 5 + nl) (v := a) (Or.inl (by omega))).up (i := 11 + nl) (v := b) (Or.inl (by omega))).up (i := 2) (v := f) (Or.inr (by unfold NSL; omega)), ?_⟩
    show upI (upI (upI d.1 (5 + nl) a) (11 + nl) b) 2 f 0 = d.1 0
    unfold upI
    rw [if_neg (by omega), if_neg (by omega), if_neg (by omega)]
  unfold sLine
  dsimp only
  generalize hr1 : sNum T L 0 (d.1 0 - 1) s = r1
  by_cases q1 : r1.1 ≠ 0
  · rw [if_pos q1]; exact ZS.rf h
  · rw [if_neg q1]
    have a : 0 ≤ r1.2.2 ∧ r1.2.2 ≤ d.1 0 - 1 := by rw [← hr1] at q1 ⊢; exact sNum_r q1
    generalize hr2 : sOth T L (d.1 0 - 1) r1.2.2 r1.2.1 = r2
    by_cases q2 : r2.1 ≠ 0
    · rw [if_pos q2]; exact ZS.rf h
    · rw [if_neg q2]
      have b : 0 ≤ r2.2.2 ∧ r2.2.2 ≤ d.1 0 - 1 := by rw [← hr2] at q2 ⊢; exact sOth_r q2
      repeat' split
      all_goals first | exact ZS.rf h | exact fin _ _ _ _ _ _ a b
theorem sLines_z {T : Nat → Int} {L : Int} : ∀ (f : Nat) (s : Int) (nl : Nat) (d : GD), nl ≤ 6 → ZR d.1 → d.1 0 ≤ 4 → ZS d (sLines T L f s nl d).2.2.1
  | 0, s, nl, d, _, h, _ => ZS.rf h
  | f + 1, s, nl, d, hn, h, h0 => by
    unfold sLines
    dsimp only
    split
    · by_cases q : nl = 6
      · rw [if_pos q]; exact ZS.rf h
      · rw [if_neg q]
        have z := sLine_z (T := T) (L := L) (s := nxs T L s) h h0 (show nl < 6 by omega)
        split
        · exact ZS.rf h
        · have z2 := sLines_z (T := T) (L := L) f (sLine T L (nxs T L s) nl d).2.1 (nl + 1) (sLine T L (nxs T L s) nl d).2.2 (by omega) z.1 (by rw [z.2]; exact h0)
          exact ⟨z2.1, z2.2.trans z.2⟩
    · exact ZS.rf h
theorem sGen_z {T : Nat → Int} {L s : Int} {ng : Nat} {d : GD} (h : ZR d.1) (h0 : d.1 0 ≤ 4) (hn : ng < 5) : ZS d (sGen T L s ng d).2.2 := by
  have fin : ∀ (a c e f : Int) (u : Nat → Int), 0 ≤ a ∧ a ≤ d.1 0 - 1 → ZS d ((c, e, (upI (upI d.1 (17 + ng) a) 3 f, u)) : Int × Int × GD).2.2 := fun a c e f u ha => by
    refine ⟨(h.up (i := 17 + ng) (v := a) (Or.inl (by omega))).up (i := 3) (v := f) (Or.inr (by unfold NSL; omega)), ?_⟩
    show upI (upI d.1 (17 + ng) a) 3 f 0 = d.1 0
    unfold upI
    rw [if_neg (by omega), if_neg (by omega)]
  unfold sGen
  dsimp only
  generalize hr1 : sNum T L 0 (d.1 0 - 1) s = r1
  by_cases q1 : r1.1 ≠ 0
  · rw [if_pos q1]; exact ZS.rf h
  · rw [if_neg q1]
    have a : 0 ≤ r1.2.2 ∧ r1.2.2 ≤ d.1 0 - 1 := by rw [← hr1] at q1 ⊢; exact sNum_r q1
    repeat' split
    all_goals first | exact ZS.rf h | exact fin _ _ _ _ _ a
theorem sGens_z {T : Nat → Int} {L : Int} : ∀ (f : Nat) (s : Int) (ng : Nat) (d : GD), ng ≤ 5 → ZR d.1 → d.1 0 ≤ 4 → ZS d (sGens T L f s ng d).2.2.1
  | 0, s, ng, d, _, h, _ => ZS.rf h
  | f + 1, s, ng, d, hn, h, h0 => by
    unfold sGens
    dsimp only
    split
    · by_cases q : ng = 5
      · rw [if_pos q]; exact ZS.rf h
      · rw [if_neg q]
        have z := sGen_z (T := T) (L := L) (s := nxs T L s) h h0 (show ng < 5 by omega)
        split
        · exact ZS.rf h
        · have z2 := sGens_z (T := T) (L := L) f (sGen T L (nxs T L s) ng d).2.1 (ng + 1) (sGen T L (nxs T L s) ng d).2.2 (by omega) z.1 (by rw [z.2]; exact h0)
          exact ⟨z2.1, z2.2.trans z.2⟩
    · exact ZS.rf h
theorem sDem_z {T : Nat → Int} {L s : Int} {d : GD} (h : ZR d.1) : ZS d (sDem T L s d).2.2 := by
  unfold sDem
  dsimp only
  split
  · exact ZS.rf h
  · split
    · exact ZS.rf h
    · split
      · exact ZS.rf h
      · split
        · exact ZS.rf h
        · exact ⟨h, rfl⟩
theorem sDems_z {T : Nat → Int} {L : Int} : ∀ (f : Nat) (s : Int) (d : GD), ZR d.1 → ZS d (sDems T L f s d).2.2
  | 0, s, d, h => ZS.rf h
  | f + 1, s, d, h => by
    unfold sDems
    dsimp only
    split
    · have z := sDem_z (T := T) (L := L) (s := nxs T L s) h
      split
      · exact ZS.rf h
      · have z2 := sDems_z (T := T) (L := L) f (sDem T L (nxs T L s) d).2.1 (sDem T L (nxs T L s) d).2.2 z.1
        exact ⟨z2.1, z2.2.trans z.2⟩
    · exact ZS.rf h
theorem sRig_z {T : Nat → Int} {L s : Int} {nr : Nat} {d : GD} (h : ZR d.1) (h0 : d.1 0 ≤ 4) : ZS d (sRig T L s nr d).2.2 := by
  have fin : ∀ (w a b c e f g : Int) (u : Nat → Int), 0 ≤ a ∧ a ≤ d.1 0 - 1 → 0 ≤ b ∧ b ≤ d.1 0 - 1 → ZS d ((c, e, (upI (upI (upI (upI (upI d.1 (22 + 4 * nr) w) (22 + 4 * nr + 1) a) (22 + 4 * nr + 2) b) (22 + 4 * nr + 3) f) 4 g, u)) : Int × Int × GD).2.2 := fun w a b c e f g u ha hb => by
    refine ⟨((((h.up (i := 22 + 4 * nr) (v := w) (Or.inr (by unfold NSL; omega))).up (i := 22 + 4 * nr + 1) (v := a) (Or.inl (by omega))).up (i := 22 + 4 * nr + 2) (v := b) (Or.inl (by omega))).up (i := 22 + 4 * nr + 3) (v := f) (Or.inr (by unfold NSL; omega))).up (i := 4) (v := g) (Or.inr (by unfold NSL; omega)), ?_⟩
    show upI (upI (upI (upI (upI d.1 (22 + 4 * nr) w) (22 + 4 * nr + 1) a) (22 + 4 * nr + 2) b) (22 + 4 * nr + 3) f) 4 g 0 = d.1 0
    unfold upI
    rw [if_neg (by omega), if_neg (by omega), if_neg (by omega), if_neg (by omega), if_neg (by omega)]
  unfold sRig
  dsimp only
  generalize sNum T L 0 3 s = r0
  by_cases q0 : r0.1 ≠ 0
  · rw [if_pos q0]; exact ZS.rf h
  · rw [if_neg q0]
    generalize hr1 : sNum T L 0 (d.1 0 - 1) r0.2.1 = r1
    by_cases q1 : r1.1 ≠ 0
    · rw [if_pos q1]; exact ZS.rf h
    · rw [if_neg q1]
      have a : 0 ≤ r1.2.2 ∧ r1.2.2 ≤ d.1 0 - 1 := by rw [← hr1] at q1 ⊢; exact sNum_r q1
      generalize hr2 : sOth T L (d.1 0 - 1) r1.2.2 r1.2.1 = r2
      by_cases q2 : r2.1 ≠ 0
      · rw [if_pos q2]; exact ZS.rf h
      · rw [if_neg q2]
        have b : 0 ≤ r2.2.2 ∧ r2.2.2 ≤ d.1 0 - 1 := by rw [← hr2] at q2 ⊢; exact sOth_r q2
        repeat' split
        all_goals first | exact ZS.rf h | exact fin _ _ _ _ _ _ _ _ a b
theorem sRigs_z {T : Nat → Int} {L : Int} : ∀ (f : Nat) (s : Int) (nr : Nat) (d : GD), ZR d.1 → d.1 0 ≤ 4 → ZS d (sRigs T L f s nr d).2.2.1
  | 0, s, nr, d, h, _ => ZS.rf h
  | f + 1, s, nr, d, h, h0 => by
    unfold sRigs
    dsimp only
    split
    · split
      · exact ZS.rf h
      · have z := sRig_z (T := T) (L := L) (s := nxs T L s) (nr := nr) h h0
        split
        · exact ZS.rf h
        · have z2 := sRigs_z (T := T) (L := L) f (sRig T L (nxs T L s) nr d).2.1 (nr + 1) (sRig T L (nxs T L s) nr d).2.2 z.1 (by rw [z.2]; exact h0)
          exact ⟨z2.1, z2.2.trans z.2⟩
    · exact ZS.rf h
theorem sOut_z {T : Nat → Int} {L s : Int} {nl n : Nat} {d : GD} (h : ZR d.1) : ZR (sOut T L s nl n d).2.2.1 := by
  unfold sOut
  dsimp only
  split
  · split
    · exact h
    · split
      · exact h
      · split
        · exact h
        · exact h
  · exact h
theorem zr0 : ZR (fun _ => 0) := fun _ _ => ⟨Int.le_refl _, by show (0 : Int) ≤ 3; decide⟩
theorem sErr_z {c s : Int} : ZR (sErr c s).2.2.1.1 := zr0
theorem text_z (T : Nat → Int) (L : Int) : ZR (sText T L).2.2.1.1 := by
  unfold sText
  dsimp only
  split
  · exact sErr_z
  · rename_i q0
    have hd : (sHead T L (skp T L 0)).2.2.1 ≤ 4 := by
      unfold sHead at q0 ⊢
      dsimp only at q0 ⊢
      split
      · exact (by decide : (0 : Int) ≤ 4)
      · split
        · exact (by decide : (0 : Int) ≤ 4)
        · rename_i q2
          split
          · exact (by decide : (0 : Int) ≤ 4)
          · split
            · exact (by decide : (0 : Int) ≤ 4)
            · split
              · exact (by decide : (0 : Int) ≤ 4)
              · exact (sNum_r q2).2
    generalize sHead T L (skp T L 0) = r0 at *
    have h1 : ZR (upI (upI (fun _ => 0) 0 r0.2.2.1) 1 r0.2.2.2) := (zr0.up (Or.inr (by unfold NSL; omega))).up (Or.inr (by unfold NSL; omega))
    have h10 : upI (upI (fun _ => 0) 0 r0.2.2.1) 1 r0.2.2.2 0 ≤ 4 := by
      unfold upI
      rw [if_neg (by omega), if_pos rfl]
      exact hd
    generalize (r0.2.2.1 - 1).toNat = n9
    generalize hd9 : ((upI (upI (fun _ => 0) 0 r0.2.2.1) 1 r0.2.2.2, fun _ => 0) : GD) = d0
    have h2 : ZR d0.1 := by rw [← hd9]; exact h1
    have h20 : d0.1 0 ≤ 4 := by rw [← hd9]; exact h10
    unfold sBod
    dsimp only
    have z1 := sLines_z (T := T) (L := L) (6 + 1 - 0) r0.2.1 0 d0 (by decide) h2 h20
    generalize sLines T L (6 + 1 - 0) r0.2.1 0 d0 = r1 at *
    split
    · exact sErr_z
    · unfold sMid
      split
      · exact sErr_z
      · unfold sCon
        split
        · exact sErr_z
        · unfold sTl1
          dsimp only
          have z2 := sGens_z (T := T) (L := L) (5 + 1 - 0) r1.2.1 0 r1.2.2.1 (by decide) z1.1 (by rw [z1.2]; exact h20)
          generalize sGens T L (5 + 1 - 0) r1.2.1 0 r1.2.2.1 = r2 at *
          split
          · exact sErr_z
          · unfold sTl2
            dsimp only
            have z3 := sDems_z (T := T) (L := L) 700 r2.2.1 r2.2.2.1 z2.1
            generalize sDems T L 700 r2.2.1 r2.2.2.1 = r3 at *
            split
            · exact sErr_z
            · unfold sTl3
              dsimp only
              have z4 := sRigs_z (T := T) (L := L) (6 + 1 - 0) r3.2.1 0 r3.2.2 z3.1 (by rw [z3.2, z2.2, z1.2]; exact h20)
              generalize sRigs T L (6 + 1 - 0) r3.2.1 0 r3.2.2 = r4 at *
              split
              · exact sErr_z
              · unfold sTl4
                dsimp only
                have z5 := sOut_z (T := T) (L := L) (s := r4.2.1) (nl := r1.2.2.2) (n := n9) z4.1
                generalize sOut T L r4.2.1 r1.2.2.2 n9 r4.2.2.1 = r5 at *
                split
                · exact sErr_z
                · unfold sFin
                  split
                  · exact sErr_z
                  · exact z5
