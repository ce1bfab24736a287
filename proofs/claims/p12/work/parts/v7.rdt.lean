/-! The reference's reading: outage, sizes, the whole. -/
theorem tkK_end {T : Nat → Int} {L s : Int} : tkK T L s = 3 ↔ L ≤ s := by
  unfold tkK
  by_cases h : L ≤ s
  · rw [if_pos h]
    exact ⟨fun _ => h, fun _ => rfl⟩
  · rw [if_neg h]
    refine ⟨fun q => ?_, fun q => absurd q h⟩
    exfalso
    revert q
    split
    · decide
    · split
      · split <;> decide
      · split <;> decide
theorem upI_up (f : Nat → Int) (k : Nat) (a b : Int) : upI (upI f k a) k b = upI f k b := by
  funext j
  unfold upI
  by_cases q : j = k
  · rw [if_pos q, if_pos q]
  · rw [if_neg q, if_neg q, if_neg q]
section RDT
variable {tx : Nat → Int} {L : Int}
theorem head_ok {b0 ec0 ep0 A0 A1 b1 ec1 ep1 A2 b2 ec2 ep2 x2 A3 b3 ec3 ep3 A4 b4 ec4 ep4 x4 A5 b5 ec5 ep5 : Int} (hb : b0 = 0) (h1 : RB tx L b0 ec0 ep0 (sWrd tx L wNODES (skp tx L A0)) A1 b1 ec1 ep1) (h2 : NUp tx L b1 ec1 ep1 (sNum tx L 2 4 (skp tx L A1)) A2 b2 ec2 ep2 x2) (h3 : RB tx L b2 ec2 ep2 (sWrd tx L wINTERVALS (skp tx L A2)) A3 b3 ec3 ep3) (h4 : NUp tx L b3 ec3 ep3 (sNum tx L 1 4 (skp tx L A3)) A4 b4 ec4 ep4 x4) (h5 : RB tx L b4 ec4 ep4 (sSem tx L (skp tx L A4)) A5 b5 ec5 ep5) : LNo tx L (sHead tx L (skp tx L A0)) ec0 ep0 A5 b5 ec5 ep5 (x2, x4) := by
  unfold sHead
  dsimp only
  rcases h1.cs hb with ⟨g1, p1, q1, r1, s1⟩ | ⟨g1, p1, q1, r1⟩
  rotate_left
  · obtain ⟨y2, z2, w2⟩ := h2.bad p1
    obtain ⟨y3, z3, w3⟩ := h3.bad y2
    obtain ⟨y4, z4, w4⟩ := h4.bad y3
    obtain ⟨y5, z5, w5⟩ := h5.bad y4
    rw [if_pos g1]
    exact Or.inr ⟨y5, g1, by rw [z5, z4, z3, z2, q1], by rw [w5, w4, w3, w2, r1]⟩
  rw [if_neg (fun z => z g1)]
  rw [s1] at h2
  rcases h2.cs p1 with ⟨g2, p2, q2, r2, s2, v2⟩ | ⟨g2, p2, q2, r2⟩
  rotate_left
  · obtain ⟨y3, z3, w3⟩ := h3.bad p2
    obtain ⟨y4, z4, w4⟩ := h4.bad y3
    obtain ⟨y5, z5, w5⟩ := h5.bad y4
    rw [if_pos g2]
    exact Or.inr ⟨y5, g2, by rw [z5, z4, z3, q2], by rw [w5, w4, w3, r2]⟩
  rw [if_neg (fun z => z g2)]
  rw [s2] at h3
  rcases h3.cs p2 with ⟨g3, p3, q3, r3, s3⟩ | ⟨g3, p3, q3, r3⟩
  rotate_left
  · obtain ⟨y4, z4, w4⟩ := h4.bad p3
    obtain ⟨y5, z5, w5⟩ := h5.bad y4
    rw [if_pos g3]
    exact Or.inr ⟨y5, g3, by rw [z5, z4, q3], by rw [w5, w4, r3]⟩
  rw [if_neg (fun z => z g3)]
  rw [s3] at h4
  rcases h4.cs p3 with ⟨g4, p4, q4, r4, s4, v4⟩ | ⟨g4, p4, q4, r4⟩
  rotate_left
  · obtain ⟨y5, z5, w5⟩ := h5.bad p4
    rw [if_pos g4]
    exact Or.inr ⟨y5, g4, by rw [z5, q4], by rw [w5, r4]⟩
  rw [if_neg (fun z => z g4)]
  rw [s4] at h5
  rcases h5.cs p4 with ⟨g5, p5, q5, r5, s5⟩ | ⟨g5, p5, q5, r5⟩
  rotate_left
  · rw [if_pos g5]
    exact Or.inr ⟨p5, g5, q5, r5⟩
  rw [if_neg (fun z => z g5)]
  exact Or.inl ⟨p5, by rw [q5, q4, q3, q2, q1], by rw [r5, r4, r3, r2, r1], by rw [s5, v2, v4]⟩
/-- readOutage: a part, put together -/
theorem out_bad0 {β : Type} {b ec ep A2 : Int} {R0 : Int × Int × β} {d : β} (hb : b = 1) : LEx tx L b ec ep R0 A2 b ec ep d := ⟨⟨fun q => ⟨q, rfl, rfl⟩, fun q => absurd (hb.symm.trans q) (by decide)⟩, fun q => absurd (hb.symm.trans q) (by decide)⟩
theorem out_no {b ec ep A A2 x : Int} {nl n : Nat} {d : GD} (hb : b = 0 ∨ b = 1) (hx : x = 0) (ht : TKo tx L b wOUTAGE A A2 x) : LEx tx L b ec ep (sOut tx L (skp tx L A) nl n d) A2 b ec ep (d.1, upI d.2 38 (-1)) := by
  rcases hb with q | q
  · rcases ht.2 q with ⟨w, -⟩ | ⟨-, w1, w2⟩
    · rw [hx] at w; exact absurd w (by decide)
    · have e : sOut tx L (skp tx L A) nl n d = (0, skp tx L A, d.1, upI d.2 38 (-1)) := if_neg w1
      rw [e]
      exact ⟨⟨fun z => absurd (q.symm.trans z) (by decide), fun _ => Or.inl ⟨rfl, q, rfl, rfl, by rw [w2]; exact skp_id⟩⟩, fun _ => rfl⟩
  · exact out_bad0 q
theorem out_yes {b ec ep A A1 x A2 b2 ec2 ep2 na2 v b3 ec3 ep3 A4 b4 ec4 ep4 k : Int} {nl n : Nat} {d : GD} (hb : b = 0 ∨ b = 1) (hx : x ≠ 0) (ht : TKo tx L b wOUTAGE A A1 x) (hk : d.1 2 - 1 = k) (hn : NUo tx L b ec ep (sNum tx L 0 k (skp tx L A1)) A1 A2 b2 ec2 ep2 na2 v)
    (hc : (b2 = 1 ∧ b3 = b2 ∧ ec3 = ec2 ∧ ep3 = ep2) ∨ (b2 = 0 ∧ ((CutOK d.1 nl v n ∧ b3 = b2 ∧ ec3 = ec2 ∧ ep3 = ep2) ∨ (¬ CutOK d.1 nl v n ∧ b3 = 1 ∧ ec3 = 5 ∧ ep3 = na2)))) (he : RB tx L b3 ec3 ep3 (sSem tx L (skp tx L A2)) A4 b4 ec4 ep4) : LEx tx L b ec ep (sOut tx L (skp tx L A) nl n d) A4 b4 ec4 ep4 (d.1, upI d.2 38 v) := by
  subst hk
  have hb0 : b = 0 := hb.elim id (fun q => absurd (ht.1 q) hx)
  rcases ht.2 hb0 with ⟨-, w1, w2⟩ | ⟨w, -⟩
  · have e : sOut tx L (skp tx L A) nl n d = _ := if_pos w1
    rw [w2] at hn
    refine ⟨⟨fun q => absurd (hb0.symm.trans q) (by decide), fun _ => ?_⟩, fun q4 => ?_⟩
    · rw [e]
      dsimp only
      rcases hn.p.cs hb0 with ⟨g1, g2, g3, g4, g5, g6⟩ | ⟨g1, g2, g3, g4⟩
      · rw [if_neg (fun z => z g1)]
        have hna := (hn.2 g2).2
        rcases hc with ⟨c1, -⟩ | ⟨-, ⟨c1, c2, c3, c4⟩ | ⟨c1, c2, c3, c4⟩⟩
        · exact absurd (g2.symm.trans c1) (by decide)
        · rw [g6] at c1
          rw [if_neg (fun z => by rw [conB_t.mpr c1] at z; exact absurd z (by decide))]
          rw [g5] at he
          rcases he.cs (c2.trans g2) with ⟨k1, k2, k3, k4, k5⟩ | ⟨k1, k2, k3, k4⟩
          · rw [if_neg (fun z => z k1)]
            exact Or.inl ⟨rfl, k2, by rw [k3, c3, g3], by rw [k4, c4, g4], k5⟩
          · rw [if_pos k1]
            exact Or.inr ⟨k1, k2, k3, k4⟩
        · rw [g6] at c1
          rw [if_pos (by cases hq : conB d.1 nl (sNum tx L 0 (d.1 2 - 1) (nxs tx L (skp tx L A))).2.2 n with
            | true => exact absurd (conB_t.mp hq) c1
            | false => rfl)]
          obtain ⟨k2, k3, k4⟩ := he.bad c2
          exact Or.inr ⟨by show (5 : Int) ≠ 0; decide, k2, by rw [k3, c3], by rw [k4, c4, hna, w2]⟩
      · rw [if_pos g1]
        rcases hc with ⟨-, c2, c3, c4⟩ | ⟨c1, -⟩
        · obtain ⟨k2, k3, k4⟩ := he.bad (c2.trans g2)
          exact Or.inr ⟨g1, k2, by rw [k3, c3, g3], by rw [k4, c4, g4]⟩
        · exact absurd (g2.symm.trans c1) (by decide)
    · rw [e]
      dsimp only
      rcases hn.p.cs hb0 with ⟨g1, g2, g3, g4, g5, g6⟩ | ⟨g1, g2, g3, g4⟩
      · rw [if_neg (fun z => z g1)]
        rcases hc with ⟨c1, -⟩ | ⟨-, ⟨c1, c2, c3, c4⟩ | ⟨c1, c2, c3, c4⟩⟩
        · exact absurd (g2.symm.trans c1) (by decide)
        · rw [g6] at c1
          rw [if_neg (fun z => by rw [conB_t.mpr c1] at z; exact absurd z (by decide))]
          rw [g5] at he
          rcases he.cs (c2.trans g2) with ⟨k1, k2, k3, k4, k5⟩ | ⟨k1, k2, k3, k4⟩
          · rw [if_neg (fun z => z k1), g6]
          · exact absurd (k2.symm.trans q4) (by decide)
        · obtain ⟨k2, k3, k4⟩ := he.bad c2
          exact absurd (k2.symm.trans q4) (by decide)
      · rcases hc with ⟨-, c2, c3, c4⟩ | ⟨c1, -⟩
        · obtain ⟨k2, k3, k4⟩ := he.bad (c2.trans g2)
          exact absurd (k2.symm.trans q4) (by decide)
        · exact absurd (g2.symm.trans c1) (by decide)
  · exact absurd w hx
theorem LVx.seq {β γ : Type} {b ec ep bj ecj epj A2 b2 ec2 ep2 : Int} {R0 Rj Rk : Int × Int × β} {r : Int × Int × γ} {d : γ} (hb : b = 0) (hbj : bj = 0 ∨ bj = 1) (h : LVx b ec ep R0 Rj bj ecj epj) (hE : LEx tx L bj ecj epj r A2 b2 ec2 ep2 d) (hbad : r.1 ≠ 0 → Rj.1 = r.1 ∧ Rj.2.1 = r.2.1) (hgood : r = (0, skp tx L A2, d) → Rj = Rk) : LVx b ec ep R0 Rk b2 ec2 ep2 := by
  refine ⟨fun q => absurd (hb.symm.trans q) (by decide), fun _ => ?_⟩
  rcases hbj with q | q
  · rcases h.2 hb with ⟨-, e1, e2, e3⟩ | ⟨e1, -⟩
    · rcases hE.1.2 q with ⟨g1, g2, g3, g4, g5⟩ | ⟨g1, g2, g3, g4⟩
      · have g6 := hE.2 g2
        have g1 : r.1 = 0 := g1
        have g5 : skp tx L A2 = r.2.1 := g5
        have hr : r = (0, skp tx L A2, d) := by
          rw [g5, g6, ← g1]
        exact Or.inl ⟨g2, by rw [g3, e1], by rw [g4, e2], (hgood hr).symm.trans e3⟩
      · have g1 : r.1 ≠ 0 := g1
        obtain ⟨z1, z2⟩ := hbad g1
        rw [← e3]
        exact Or.inr ⟨g2, by rw [z1]; exact g1, by rw [g3, z1], by rw [g4, z2]⟩
    · exact absurd (e1.symm.trans q) (by decide)
  · obtain ⟨w1, w2, w3⟩ := hE.1.1 q
    rcases h.2 hb with ⟨e1, -⟩ | ⟨e1, e2, e3, e4⟩
    · exact absurd (q.symm.trans e1) (by decide)
    · exact Or.inr ⟨w1, e2, by rw [w2, e3], by rw [w3, e4]⟩
/-- an error told here -/
theorem LVx.err {β : Type} {b ec ep bj ecj epj b2 ec2 ep2 : Int} {R0 Rj Rk : Int × Int × β} (hb : b = 0) (hbj : bj = 0) (h : LVx b ec ep R0 Rj bj ecj epj) (h2 : b2 = 1) (hn : Rj.1 ≠ 0) (hc : ec2 = Rj.1) (hp : ep2 = Rj.2.1) : LVx b ec ep R0 Rk b2 ec2 ep2 := by
  refine ⟨fun q => absurd (hb.symm.trans q) (by decide), fun _ => ?_⟩
  rcases h.2 hb with ⟨-, e1, e2, e3⟩ | ⟨e1, -⟩
  · rw [← e3]
    exact Or.inr ⟨h2, hn, hc, hp⟩
  · exact absurd (e1.symm.trans hbj) (by decide)
theorem LVx.same {β : Type} {b ec ep bj ecj epj b2 ec2 ep2 : Int} {R0 Rj Rk : Int × Int × β} (hb : b = 0) (h : LVx b ec ep R0 Rj bj ecj epj) (h1 : b2 = bj) (h2 : ec2 = ecj) (h3 : ep2 = epj) (hR : bj = 0 → Rj = Rk) : LVx b ec ep R0 Rk b2 ec2 ep2 := by
  subst h1
  subst h2
  subst h3
  refine ⟨fun q => absurd (hb.symm.trans q) (by decide), fun _ => ?_⟩
  rcases h.2 hb with ⟨e0, e1, e2, e3⟩ | e
  · exact Or.inl ⟨e0, e1, e2, (hR e0).symm.trans e3⟩
  · exact Or.inr e
end RDT
