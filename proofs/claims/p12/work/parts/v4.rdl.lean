/-! Rounds of the reference's reading, put together. -/
def NUp (tx : Nat → Int) (L b ec ep : Int) (r : Int × Int × Int) (A2 b2 ec2 ep2 x : Int) : Prop := RB tx L b ec ep (r.1, r.2.1) A2 b2 ec2 ep2 ∧ (b2 = 0 → x = r.2.2)
/-- what a round leaves -/
def LNo (tx : Nat → Int) (L : Int) {β : Type} (r : Int × Int × β) (ec ep A7 b7 ec7 ep7 : Int) (d : β) : Prop := (b7 = 0 ∧ ec7 = ec ∧ ep7 = ep ∧ r = (0, skp tx L A7, d)) ∨ (b7 = 1 ∧ r.1 ≠ 0 ∧ ec7 = r.1 ∧ ep7 = r.2.1)
section RDL
variable {tx : Nat → Int} {L : Int}
theorem NUo.p {b ec ep A A2 b2 ec2 ep2 na2 x : Int} {r : Int × Int × Int} (h : NUo tx L b ec ep r A A2 b2 ec2 ep2 na2 x) : NUp tx L b ec ep r A2 b2 ec2 ep2 x := ⟨h.1, fun q => (h.2 q).1⟩
theorem NUp.cs {b ec ep A2 b2 ec2 ep2 x : Int} {r : Int × Int × Int} (h : NUp tx L b ec ep r A2 b2 ec2 ep2 x) (hb : b = 0) : (r.1 = 0 ∧ b2 = 0 ∧ ec2 = ec ∧ ep2 = ep ∧ skp tx L A2 = r.2.1 ∧ x = r.2.2) ∨ (r.1 ≠ 0 ∧ b2 = 1 ∧ ec2 = r.1 ∧ ep2 = r.2.1) := by
  rcases h.1.2 hb with ⟨h1, h2, h3, h4, h5⟩ | h1
  · exact Or.inl ⟨h1, h2, h3, h4, h5, h.2 h2⟩
  · exact Or.inr h1
theorem NUp.bad {b ec ep A2 b2 ec2 ep2 x : Int} {r : Int × Int × Int} (h : NUp tx L b ec ep r A2 b2 ec2 ep2 x) (hb : b = 1) : b2 = 1 ∧ ec2 = ec ∧ ep2 = ep := h.1.1 hb
theorem RB.cs {b ec ep A2 b2 ec2 ep2 : Int} {r : Int × Int} (h : RB tx L b ec ep r A2 b2 ec2 ep2) (hb : b = 0) : (r.1 = 0 ∧ b2 = 0 ∧ ec2 = ec ∧ ep2 = ep ∧ skp tx L A2 = r.2) ∨ (r.1 ≠ 0 ∧ b2 = 1 ∧ ec2 = r.1 ∧ ep2 = r.2) := h.2 hb
theorem RB.bad {b ec ep A2 b2 ec2 ep2 : Int} {r : Int × Int} (h : RB tx L b ec ep r A2 b2 ec2 ep2) (hb : b = 1) : b2 = 1 ∧ ec2 = ec ∧ ep2 = ep := h.1 hb
theorem em_yes {b4 ec4 ep4 x4 x5 A4 A5 A6 b6 ec6 ep6 x6 : Int} (hb : b4 = 0 ∨ b4 = 1) (hx : x5 ≠ 0) (h5 : TKo tx L b4 wEMERGENCY A4 A5 x5) (h6 : NUp tx L b4 ec4 ep4 (sNum tx L x4 400 (skp tx L A5)) A6 b6 ec6 ep6 x6) : NUp tx L b4 ec4 ep4 (if wrd tx L (skp tx L A4) = wEMERGENCY then sNum tx L x4 400 (nxs tx L (skp tx L A4)) else (0, skp tx L A4, x4)) A6 b6 ec6 ep6 x6 := by
  rcases hb with hb | hb
  · rcases h5.2 hb with ⟨-, e1, e2⟩ | ⟨e1, -⟩
    · rw [if_pos e1, ← e2]; exact h6
    · exact absurd e1 hx
  · exact absurd (h5.1 hb) hx
theorem em_no {b4 ec4 ep4 x4 x5 A4 A5 : Int} (hb : b4 = 0 ∨ b4 = 1) (hx : x5 = 0) (h5 : TKo tx L b4 wEMERGENCY A4 A5 x5) : NUp tx L b4 ec4 ep4 (if wrd tx L (skp tx L A4) = wEMERGENCY then sNum tx L x4 400 (nxs tx L (skp tx L A4)) else (0, skp tx L A4, x4)) A5 b4 ec4 ep4 x4 := by
  rcases hb with hb | hb
  · rcases h5.2 hb with ⟨e1, -⟩ | ⟨-, e1, e2⟩
    · rw [hx] at e1; exact absurd e1 (by decide)
    · rw [if_neg e1]
      exact ⟨⟨fun q => absurd (hb.symm.trans q) (by decide), fun _ => Or.inl ⟨rfl, hb, rfl, rfl, by rw [e2]; exact skp_id⟩⟩, fun _ => rfl⟩
  · refine ⟨⟨fun q => ⟨q, rfl, rfl⟩, fun q => absurd (hb.symm.trans q) (by decide)⟩, fun q => absurd (hb.symm.trans q) (by decide)⟩

theorem line_ok {b0 ec0 ep0 A0 A1 b1 ec1 ep1 x1 A2 b2 ec2 ep2 x2 A3 b3 ec3 ep3 x3 A4 b4 ec4 ep4 x4 A5 b5 ec5 ep5 : Int} {nl : Nat} {d : GD} (hb : b0 = 0) (h1 : NUp tx L b0 ec0 ep0 (sNum tx L 0 (d.1 0 - 1) (skp tx L A0)) A1 b1 ec1 ep1 x1) (h2 : NUp tx L b1 ec1 ep1 (sOth tx L (d.1 0 - 1) x1 (skp tx L A1)) A2 b2 ec2 ep2 x2) (h3 : NUp tx L b2 ec2 ep2 (sNum tx L 1 200 (skp tx L A2)) A3 b3 ec3 ep3 x3) (h4 : NUp tx L b3 ec3 ep3 (if wrd tx L (skp tx L A3) = wEMERGENCY then sNum tx L x3 400 (nxs tx L (skp tx L A3)) else (0, (skp tx L A3), x3)) A4 b4 ec4 ep4 x4) (h5 : RB tx L b4 ec4 ep4 (sSem tx L (skp tx L A4)) A5 b5 ec5 ep5) : LNo tx L (sLine tx L (skp tx L A0) nl d) ec0 ep0 A5 b5 ec5 ep5 (upI (upI (upI d.1 (5 + nl) x1) (11 + nl) x2) 2 (((nl + 1) : Nat) : Int), upI (upI d.2 (0 + nl) x3) (6 + nl) x4) := by
  unfold sLine
  dsimp only
  rcases h1.cs hb with ⟨g1, p1, q1, r1, s1, v1⟩ | ⟨g1, p1, q1, r1⟩
  rotate_left
  · obtain ⟨y2, z2, w2⟩ := h2.bad p1
    obtain ⟨y3, z3, w3⟩ := h3.bad y2
    obtain ⟨y4, z4, w4⟩ := h4.bad y3
    obtain ⟨y5, z5, w5⟩ := h5.bad y4
    rw [if_pos g1]
    exact Or.inr ⟨y5, g1, by rw [z5, z4, z3, z2, q1], by rw [w5, w4, w3, w2, r1]⟩
  rw [if_neg (fun z => z g1)]
  rw [s1] at h2
  rw [v1] at h2
  rcases h2.cs p1 with ⟨g2, p2, q2, r2, s2, v2⟩ | ⟨g2, p2, q2, r2⟩
  rotate_left
  · obtain ⟨y3, z3, w3⟩ := h3.bad p2
    obtain ⟨y4, z4, w4⟩ := h4.bad y3
    obtain ⟨y5, z5, w5⟩ := h5.bad y4
    rw [if_pos g2]
    exact Or.inr ⟨y5, g2, by rw [z5, z4, z3, q2], by rw [w5, w4, w3, r2]⟩
  rw [if_neg (fun z => z g2)]
  rw [s2] at h3
  rcases h3.cs p2 with ⟨g3, p3, q3, r3, s3, v3⟩ | ⟨g3, p3, q3, r3⟩
  rotate_left
  · obtain ⟨y4, z4, w4⟩ := h4.bad p3
    obtain ⟨y5, z5, w5⟩ := h5.bad y4
    rw [if_pos g3]
    exact Or.inr ⟨y5, g3, by rw [z5, z4, q3], by rw [w5, w4, r3]⟩
  rw [if_neg (fun z => z g3)]
  rw [s3] at h4
  rw [v3] at h4
  rcases h4.cs p3 with ⟨g4, p4, q4, r4, s4, v4⟩ | ⟨g4, p4, q4, r4⟩
  rotate_left
  · obtain ⟨y5, z5, w5⟩ := h5.bad p4
    rw [if_pos g4]
    exact Or.inr ⟨y5, g4, by rw [z5, q4], by rw [w5, r4]⟩
  rw [if_neg (fun z => z g4)]
  rw [s4] at h5
  rcases h5.cs p4 with ⟨g5, p5, q5, r5, s5⟩ | ⟨g5, p5, q5, r5⟩
  rotate_left
  · rw [if_pos g5]
    exact Or.inr ⟨p5, g5, q5, r5⟩
  rw [if_neg (fun z => z g5)]
  exact Or.inl ⟨p5, by rw [q5, q4, q3, q2, q1], by rw [r5, r4, r3, r2, r1], by rw [s5, v1, v2, v3, v4]⟩

theorem gen_ok {b0 ec0 ep0 A0 A1 b1 ec1 ep1 x1 A2 b2 ec2 ep2 x2 A3 b3 ec3 ep3 x3 A4 b4 ec4 ep4 : Int} {ng : Nat} {d : GD} (hb : b0 = 0) (h1 : NUp tx L b0 ec0 ep0 (sNum tx L 0 (d.1 0 - 1) (skp tx L A0)) A1 b1 ec1 ep1 x1) (h2 : NUp tx L b1 ec1 ep1 (sNum tx L 0 99 (skp tx L A1)) A2 b2 ec2 ep2 x2) (h3 : NUp tx L b2 ec2 ep2 (sNum tx L 1 200 (skp tx L A2)) A3 b3 ec3 ep3 x3) (h4 : RB tx L b3 ec3 ep3 (sSem tx L (skp tx L A3)) A4 b4 ec4 ep4) : LNo tx L (sGen tx L (skp tx L A0) ng d) ec0 ep0 A4 b4 ec4 ep4 (upI (upI d.1 (17 + ng) x1) 3 (((ng + 1) : Nat) : Int), upI (upI d.2 (12 + ng) x2) (17 + ng) x3) := by
  unfold sGen
  dsimp only
  rcases h1.cs hb with ⟨g1, p1, q1, r1, s1, v1⟩ | ⟨g1, p1, q1, r1⟩
  rotate_left
  · obtain ⟨y2, z2, w2⟩ := h2.bad p1
    obtain ⟨y3, z3, w3⟩ := h3.bad y2
    obtain ⟨y4, z4, w4⟩ := h4.bad y3
    rw [if_pos g1]
    exact Or.inr ⟨y4, g1, by rw [z4, z3, z2, q1], by rw [w4, w3, w2, r1]⟩
  rw [if_neg (fun z => z g1)]
  rw [s1] at h2
  rcases h2.cs p1 with ⟨g2, p2, q2, r2, s2, v2⟩ | ⟨g2, p2, q2, r2⟩
  rotate_left
  · obtain ⟨y3, z3, w3⟩ := h3.bad p2
    obtain ⟨y4, z4, w4⟩ := h4.bad y3
    rw [if_pos g2]
    exact Or.inr ⟨y4, g2, by rw [z4, z3, q2], by rw [w4, w3, r2]⟩
  rw [if_neg (fun z => z g2)]
  rw [s2] at h3
  rcases h3.cs p2 with ⟨g3, p3, q3, r3, s3, v3⟩ | ⟨g3, p3, q3, r3⟩
  rotate_left
  · obtain ⟨y4, z4, w4⟩ := h4.bad p3
    rw [if_pos g3]
    exact Or.inr ⟨y4, g3, by rw [z4, q3], by rw [w4, r3]⟩
  rw [if_neg (fun z => z g3)]
  rw [s3] at h4
  rcases h4.cs p3 with ⟨g4, p4, q4, r4, s4⟩ | ⟨g4, p4, q4, r4⟩
  rotate_left
  · rw [if_pos g4]
    exact Or.inr ⟨p4, g4, q4, r4⟩
  rw [if_neg (fun z => z g4)]
  exact Or.inl ⟨p4, by rw [q4, q3, q2, q1], by rw [r4, r3, r2, r1], by rw [s4, v1, v2, v3]⟩

theorem dem_ok {b0 ec0 ep0 A0 A1 b1 ec1 ep1 x1 A2 b2 ec2 ep2 x2 A3 b3 ec3 ep3 x3 A4 b4 ec4 ep4 : Int} {d : GD} (hb : b0 = 0) (h1 : NUp tx L b0 ec0 ep0 (sNum tx L 0 (d.1 1 - 1) (skp tx L A0)) A1 b1 ec1 ep1 x1) (h2 : NUp tx L b1 ec1 ep1 (sNum tx L 0 (d.1 0 - 1) (skp tx L A1)) A2 b2 ec2 ep2 x2) (h3 : NUp tx L b2 ec2 ep2 (sNum tx L 0 200 (skp tx L A2)) A3 b3 ec3 ep3 x3) (h4 : RB tx L b3 ec3 ep3 (sSem tx L (skp tx L A3)) A4 b4 ec4 ep4) : LNo tx L (sDem tx L (skp tx L A0) d) ec0 ep0 A4 b4 ec4 ep4 (d.1, upI d.2 (22 + 4 * x1 + x2).toNat x3) := by
  unfold sDem
  dsimp only
  rcases h1.cs hb with ⟨g1, p1, q1, r1, s1, v1⟩ | ⟨g1, p1, q1, r1⟩
  rotate_left
  · obtain ⟨y2, z2, w2⟩ := h2.bad p1
    obtain ⟨y3, z3, w3⟩ := h3.bad y2
    obtain ⟨y4, z4, w4⟩ := h4.bad y3
    rw [if_pos g1]
    exact Or.inr ⟨y4, g1, by rw [z4, z3, z2, q1], by rw [w4, w3, w2, r1]⟩
  rw [if_neg (fun z => z g1)]
  rw [s1] at h2
  rcases h2.cs p1 with ⟨g2, p2, q2, r2, s2, v2⟩ | ⟨g2, p2, q2, r2⟩
  rotate_left
  · obtain ⟨y3, z3, w3⟩ := h3.bad p2
    obtain ⟨y4, z4, w4⟩ := h4.bad y3
    rw [if_pos g2]
    exact Or.inr ⟨y4, g2, by rw [z4, z3, q2], by rw [w4, w3, r2]⟩
  rw [if_neg (fun z => z g2)]
  rw [s2] at h3
  rcases h3.cs p2 with ⟨g3, p3, q3, r3, s3, v3⟩ | ⟨g3, p3, q3, r3⟩
  rotate_left
  · obtain ⟨y4, z4, w4⟩ := h4.bad p3
    rw [if_pos g3]
    exact Or.inr ⟨y4, g3, by rw [z4, q3], by rw [w4, r3]⟩
  rw [if_neg (fun z => z g3)]
  rw [s3] at h4
  rcases h4.cs p3 with ⟨g4, p4, q4, r4, s4⟩ | ⟨g4, p4, q4, r4⟩
  rotate_left
  · rw [if_pos g4]
    exact Or.inr ⟨p4, g4, q4, r4⟩
  rw [if_neg (fun z => z g4)]
  exact Or.inl ⟨p4, by rw [q4, q3, q2, q1], by rw [r4, r3, r2, r1], by rw [s4, v1, v2, v3]⟩

theorem rig_ok {b0 ec0 ep0 A0 A1 b1 ec1 ep1 x1 A2 b2 ec2 ep2 x2 A3 b3 ec3 ep3 x3 A4 b4 ec4 ep4 x4 A5 b5 ec5 ep5 : Int} {nr : Nat} {d : GD} (hb : b0 = 0) (h1 : NUp tx L b0 ec0 ep0 (sNum tx L 0 3 (skp tx L A0)) A1 b1 ec1 ep1 x1) (h2 : NUp tx L b1 ec1 ep1 (sNum tx L 0 (d.1 0 - 1) (skp tx L A1)) A2 b2 ec2 ep2 x2) (h3 : NUp tx L b2 ec2 ep2 (sOth tx L (d.1 0 - 1) x2 (skp tx L A2)) A3 b3 ec3 ep3 x3) (h4 : NUp tx L b3 ec3 ep3 (sNum tx L 1 100 (skp tx L A3)) A4 b4 ec4 ep4 x4) (h5 : RB tx L b4 ec4 ep4 (sSem tx L (skp tx L A4)) A5 b5 ec5 ep5) : LNo tx L (sRig tx L (skp tx L A0) nr d) ec0 ep0 A5 b5 ec5 ep5 (upI (upI (upI (upI (upI d.1 (22 + 4 * nr) x1) (22 + 4 * nr + 1) x2) (22 + 4 * nr + 2) x3) (22 + 4 * nr + 3) x4) 4 (((nr + 1) : Nat) : Int), d.2) := by
  unfold sRig
  dsimp only
  rcases h1.cs hb with ⟨g1, p1, q1, r1, s1, v1⟩ | ⟨g1, p1, q1, r1⟩
  rotate_left
  · obtain ⟨y2, z2, w2⟩ := h2.bad p1
    obtain ⟨y3, z3, w3⟩ := h3.bad y2
    obtain ⟨y4, z4, w4⟩ := h4.bad y3
    obtain ⟨y5, z5, w5⟩ := h5.bad y4
    rw [if_pos g1]
    exact Or.inr ⟨y5, g1, by rw [z5, z4, z3, z2, q1], by rw [w5, w4, w3, w2, r1]⟩
  rw [if_neg (fun z => z g1)]
  rw [s1] at h2
  rcases h2.cs p1 with ⟨g2, p2, q2, r2, s2, v2⟩ | ⟨g2, p2, q2, r2⟩
  rotate_left
  · obtain ⟨y3, z3, w3⟩ := h3.bad p2
    obtain ⟨y4, z4, w4⟩ := h4.bad y3
    obtain ⟨y5, z5, w5⟩ := h5.bad y4
    rw [if_pos g2]
    exact Or.inr ⟨y5, g2, by rw [z5, z4, z3, q2], by rw [w5, w4, w3, r2]⟩
  rw [if_neg (fun z => z g2)]
  rw [s2] at h3
  rw [v2] at h3
  rcases h3.cs p2 with ⟨g3, p3, q3, r3, s3, v3⟩ | ⟨g3, p3, q3, r3⟩
  rotate_left
  · obtain ⟨y4, z4, w4⟩ := h4.bad p3
    obtain ⟨y5, z5, w5⟩ := h5.bad y4
    rw [if_pos g3]
    exact Or.inr ⟨y5, g3, by rw [z5, z4, q3], by rw [w5, w4, r3]⟩
  rw [if_neg (fun z => z g3)]
  rw [s3] at h4
  rcases h4.cs p3 with ⟨g4, p4, q4, r4, s4, v4⟩ | ⟨g4, p4, q4, r4⟩
  rotate_left
  · obtain ⟨y5, z5, w5⟩ := h5.bad p4
    rw [if_pos g4]
    exact Or.inr ⟨y5, g4, by rw [z5, q4], by rw [w5, r4]⟩
  rw [if_neg (fun z => z g4)]
  rw [s4] at h5
  rcases h5.cs p4 with ⟨g5, p5, q5, r5, s5⟩ | ⟨g5, p5, q5, r5⟩
  rotate_left
  · rw [if_pos g5]
    exact Or.inr ⟨p5, g5, q5, r5⟩
  rw [if_neg (fun z => z g5)]
  exact Or.inl ⟨p5, by rw [q5, q4, q3, q2, q1], by rw [r5, r4, r3, r2, r1], by rw [s5, v1, v2, v3, v4]⟩

/-- a loop on the way: R0 is what it comes to, Rj what is still to be done -/
def LVx {β : Type} (b ec ep : Int) (R0 Rj : Int × Int × β) (bj ecj epj : Int) : Prop := (b = 1 → bj = 1 ∧ ecj = ec ∧ epj = ep) ∧ (b = 0 → (bj = 0 ∧ ecj = ec ∧ epj = ep ∧ Rj = R0) ∨ (bj = 1 ∧ R0.1 ≠ 0 ∧ ecj = R0.1 ∧ epj = R0.2.1))
theorem LVx.rf {β : Type} {b ec ep : Int} {R0 : Int × Int × β} : LVx b ec ep R0 R0 b ec ep := ⟨fun q => ⟨q, rfl, rfl⟩, fun q => Or.inl ⟨q, rfl, rfl, rfl⟩⟩
/-- its end -/
def LEx (tx : Nat → Int) (L : Int) {β : Type} (b ec ep : Int) (R0 : Int × Int × β) (A2 b2 ec2 ep2 : Int) (d2 : β) : Prop := RB tx L b ec ep (R0.1, R0.2.1) A2 b2 ec2 ep2 ∧ (b2 = 0 → d2 = R0.2.2)
theorem LVx.step {β γ : Type} {b ec ep bj ecj epj ec0 ep0 A7 b7 ec7 ep7 : Int} {R0 Rj Rk : Int × Int × β} {r : Int × Int × γ} {d : γ} (hb : b = 0 ∨ b = 1) (h : LVx b ec ep R0 Rj bj ecj epj) (hbj : bj = 0) (e0 : ec0 = ecj) (p0 : ep0 = epj) (hr : LNo tx L r ec0 ep0 A7 b7 ec7 ep7 d) (hbad : r.1 ≠ 0 → Rj.1 = r.1 ∧ Rj.2.1 = r.2.1) (hgood : r = (0, skp tx L A7, d) → Rj = Rk) : LVx b ec ep R0 Rk b7 ec7 ep7 := by
  have hb0 : b = 0 := hb.elim id (fun q => absurd ((h.1 q).1.symm.trans hbj) (by decide))
  refine ⟨fun q => absurd (hb0.symm.trans q) (by decide), fun _ => ?_⟩
  rcases h.2 hb0 with ⟨-, e1, e2, e3⟩ | ⟨e1, -⟩
  · rcases hr with ⟨r1, r2, r3, r4⟩ | ⟨r1, r2, r3, r4⟩
    · exact Or.inl ⟨r1, by rw [r2, e0, e1], by rw [r3, p0, e2], (hgood r4).symm.trans e3⟩
    · obtain ⟨z1, z2⟩ := hbad r2
      rw [← e3]
      exact Or.inr ⟨r1, by rw [z1]; exact r2, by rw [r3, z1], by rw [r4, z2]⟩
  · exact absurd (e1.symm.trans hbj) (by decide)
theorem LVx.endb {β : Type} {b ec ep bj ecj epj A2 : Int} {R0 Rj : Int × Int × β} {d : β} (hb : b = 0 ∨ b = 1) (h : LVx b ec ep R0 Rj bj ecj epj) (hbj : bj = 1) : LEx tx L b ec ep R0 A2 bj ecj epj d := by
  refine ⟨⟨fun q => h.1 q, fun q => ?_⟩, fun q => absurd (hbj.symm.trans q) (by decide)⟩
  rcases h.2 q with ⟨e1, -⟩ | ⟨e1, e2, e3, e4⟩
  · exact absurd (hbj.symm.trans e1) (by decide)
  · exact Or.inr ⟨e2, hbj, e3, e4⟩
theorem LVx.endg {β : Type} {b ec ep bj ecj epj A2 b2 ec2 ep2 : Int} {R0 Rj : Int × Int × β} {d : β} (hb : b = 0 ∨ b = 1) (h : LVx b ec ep R0 Rj bj ecj epj) (hbj : bj = 0) (hr : (b2 = 0 ∧ ec2 = ecj ∧ ep2 = epj ∧ Rj = (0, skp tx L A2, d)) ∨ (b2 = 1 ∧ Rj.1 ≠ 0 ∧ ec2 = Rj.1 ∧ ep2 = Rj.2.1)) : LEx tx L b ec ep R0 A2 b2 ec2 ep2 d := by
  have hb0 : b = 0 := hb.elim id (fun q => absurd ((h.1 q).1.symm.trans hbj) (by decide))
  rcases h.2 hb0 with ⟨-, e1, e2, e3⟩ | ⟨e1, -⟩
  · rw [← e3]
    rcases hr with ⟨r1, r2, r3, r4⟩ | ⟨r1, r2, r3, r4⟩
    · rw [r4]
      exact ⟨⟨fun q => absurd (hb0.symm.trans q) (by decide), fun _ => Or.inl ⟨rfl, r1, by rw [r2, e1], by rw [r3, e2], rfl⟩⟩, fun _ => rfl⟩
    · exact ⟨⟨fun q => absurd (hb0.symm.trans q) (by decide), fun _ => Or.inr ⟨r2, r1, r3, r4⟩⟩, fun q => absurd (r1.symm.trans q) (by decide)⟩
  · exact absurd (e1.symm.trans hbj) (by decide)

theorem lns_no {s : Int} {d : GD} {nl f : Nat} (h : wrd tx L s ≠ wLINE) : sLines tx L (f + 1) s nl d = (0, s, d, nl) := if_neg h
theorem lns_mx {s : Int} {d : GD} {nl f : Nat} (h : wrd tx L s = wLINE) (q : nl = 6) : sLines tx L (f + 1) s nl d = (3, s, d, nl) := (if_pos h).trans (if_pos q)
theorem lns_bad {s : Int} {d : GD} {nl f : Nat} (h : wrd tx L s = wLINE) (q : nl ≠ 6) (r : (sLine tx L (nxs tx L s) nl d).1 ≠ 0) : sLines tx L (f + 1) s nl d = ((sLine tx L (nxs tx L s) nl d).1, (sLine tx L (nxs tx L s) nl d).2.1, d, nl) := (if_pos h).trans ((if_neg q).trans (if_pos r))
theorem lns_go {s : Int} {d : GD} {nl f : Nat} (h : wrd tx L s = wLINE) (q : nl ≠ 6) (r : (sLine tx L (nxs tx L s) nl d).1 = 0) : sLines tx L (f + 1) s nl d = sLines tx L f (sLine tx L (nxs tx L s) nl d).2.1 (nl + 1) (sLine tx L (nxs tx L s) nl d).2.2 := (if_pos h).trans ((if_neg q).trans (if_neg (fun z => z r)))

theorem gns_no {s : Int} {d : GD} {ng f : Nat} (h : wrd tx L s ≠ wGENERATOR) : sGens tx L (f + 1) s ng d = (0, s, d, ng) := if_neg h
theorem gns_mx {s : Int} {d : GD} {ng f : Nat} (h : wrd tx L s = wGENERATOR) (q : ng = 5) : sGens tx L (f + 1) s ng d = (3, s, d, ng) := (if_pos h).trans (if_pos q)
theorem gns_bad {s : Int} {d : GD} {ng f : Nat} (h : wrd tx L s = wGENERATOR) (q : ng ≠ 5) (r : (sGen tx L (nxs tx L s) ng d).1 ≠ 0) : sGens tx L (f + 1) s ng d = ((sGen tx L (nxs tx L s) ng d).1, (sGen tx L (nxs tx L s) ng d).2.1, d, ng) := (if_pos h).trans ((if_neg q).trans (if_pos r))
theorem gns_go {s : Int} {d : GD} {ng f : Nat} (h : wrd tx L s = wGENERATOR) (q : ng ≠ 5) (r : (sGen tx L (nxs tx L s) ng d).1 = 0) : sGens tx L (f + 1) s ng d = sGens tx L f (sGen tx L (nxs tx L s) ng d).2.1 (ng + 1) (sGen tx L (nxs tx L s) ng d).2.2 := (if_pos h).trans ((if_neg q).trans (if_neg (fun z => z r)))

theorem dms_no {s : Int} {d : GD} {f : Nat} (h : wrd tx L s ≠ wDEMAND) : sDems tx L (f + 1) s d = (0, s, d) := if_neg h
theorem dms_bad {s : Int} {d : GD} {f : Nat} (h : wrd tx L s = wDEMAND) (r : (sDem tx L (nxs tx L s) d).1 ≠ 0) : sDems tx L (f + 1) s d = ((sDem tx L (nxs tx L s) d).1, (sDem tx L (nxs tx L s) d).2.1, d) := (if_pos h).trans (if_pos r)
theorem dms_go {s : Int} {d : GD} {f : Nat} (h : wrd tx L s = wDEMAND) (r : (sDem tx L (nxs tx L s) d).1 = 0) : sDems tx L (f + 1) s d = sDems tx L f (sDem tx L (nxs tx L s) d).2.1 (sDem tx L (nxs tx L s) d).2.2 := (if_pos h).trans (if_neg (fun z => z r))

theorem rgs_no {s : Int} {d : GD} {nr f : Nat} (h : wrd tx L s ≠ wRIGHT) : sRigs tx L (f + 1) s nr d = (0, s, d, nr) := if_neg h
theorem rgs_mx {s : Int} {d : GD} {nr f : Nat} (h : wrd tx L s = wRIGHT) (q : nr = 6) : sRigs tx L (f + 1) s nr d = (3, s, d, nr) := (if_pos h).trans (if_pos q)
theorem rgs_bad {s : Int} {d : GD} {nr f : Nat} (h : wrd tx L s = wRIGHT) (q : nr ≠ 6) (r : (sRig tx L (nxs tx L s) nr d).1 ≠ 0) : sRigs tx L (f + 1) s nr d = ((sRig tx L (nxs tx L s) nr d).1, (sRig tx L (nxs tx L s) nr d).2.1, d, nr) := (if_pos h).trans ((if_neg q).trans (if_pos r))
theorem rgs_go {s : Int} {d : GD} {nr f : Nat} (h : wrd tx L s = wRIGHT) (q : nr ≠ 6) (r : (sRig tx L (nxs tx L s) nr d).1 = 0) : sRigs tx L (f + 1) s nr d = sRigs tx L f (sRig tx L (nxs tx L s) nr d).2.1 (nr + 1) (sRig tx L (nxs tx L s) nr d).2.2 := (if_pos h).trans ((if_neg q).trans (if_neg (fun z => z r)))

theorem lns_end {b ec ep bj ecj epj Aj A2 b2 ec2 ep2 x fc : Int} {R0 : Int × Int × GD × Nat} {d : GD} {nl : Nat} (hb : b = 0 ∨ b = 1) (hbj : bj = 0 ∨ bj = 1) (h6 : nl ≤ 6) (h : LVx b ec ep R0 (sLines tx L (6 + 1 - nl) (skp tx L Aj) nl d) bj ecj epj) (hfc : fc = (nl : Int)) (hx : x = 0) (ha : ADo tx L bj ecj epj wLINE fc 6 Aj A2 b2 ec2 ep2 x) : LEx tx L b ec ep R0 A2 b2 ec2 ep2 (d, nl) := by
  rcases hbj with q | q
  · refine h.endg hb q ?_
    rw [show 6 + 1 - nl = (6 - nl) + 1 by omega]
    rcases ha.2 q with ⟨-, w1, w2, w3, w4, w5⟩ | ⟨-, w1, w2, w3, w4, w5⟩ | ⟨w1, -⟩
    · rw [lns_no w1]
      exact Or.inl ⟨w2, w3, w4, by rw [w5]⟩
    · rw [lns_mx w1 (by omega)]
      exact Or.inr ⟨w3, by show (3 : Int) ≠ 0; decide, w4, w5⟩
    · rw [hx] at w1
      exact absurd w1 (by decide)
  · obtain ⟨-, w1, w2, w3⟩ := ha.1 q
    rw [w1, w2, w3, ← q]
    exact h.endb hb q
theorem lns_next {b ec ep bj ecj epj Aj A2 b2 ec2 ep2 x fc A7 b7 ec7 ep7 : Int} {R0 : Int × Int × GD × Nat} {d d7 : GD} {nl : Nat} (hb : b = 0 ∨ b = 1) (hbj : bj = 0 ∨ bj = 1) (h6 : nl < 6) (h : LVx b ec ep R0 (sLines tx L (6 + 1 - nl) (skp tx L Aj) nl d) bj ecj epj) (hfc : fc = (nl : Int)) (hx : x ≠ 0) (ha : ADo tx L bj ecj epj wLINE fc 6 Aj A2 b2 ec2 ep2 x) (hr : b2 = 0 → LNo tx L (sLine tx L (skp tx L A2) nl d) ec2 ep2 A7 b7 ec7 ep7 d7) : LVx b ec ep R0 (sLines tx L (6 + 1 - (nl + 1)) (skp tx L A7) (nl + 1) d7) b7 ec7 ep7 := by
  rcases hbj with q | q
  · rw [show 6 + 1 - nl = (6 - nl) + 1 by omega] at h
    rcases ha.2 q with ⟨w1, -⟩ | ⟨w1, -⟩ | ⟨-, w1, w2, w3, w4, w5, w6⟩
    · exact absurd w1 hx
    · exact absurd w1 hx
    · have hr := hr w3
      rw [w6] at hr
      refine h.step hb q w4 w5 hr (fun z => ?_) (fun z => ?_)
      · rw [lns_bad w1 (by omega) z]
        exact ⟨rfl, rfl⟩
      · rw [lns_go w1 (by omega) (by rw [z]), z, show 6 + 1 - (nl + 1) = 6 - nl by omega]
  · exact absurd (ha.1 q).1 hx

theorem gns_end {b ec ep bj ecj epj Aj A2 b2 ec2 ep2 x fc : Int} {R0 : Int × Int × GD × Nat} {d : GD} {ng : Nat} (hb : b = 0 ∨ b = 1) (hbj : bj = 0 ∨ bj = 1) (h6 : ng ≤ 5) (h : LVx b ec ep R0 (sGens tx L (5 + 1 - ng) (skp tx L Aj) ng d) bj ecj epj) (hfc : fc = (ng : Int)) (hx : x = 0) (ha : ADo tx L bj ecj epj wGENERATOR fc 5 Aj A2 b2 ec2 ep2 x) : LEx tx L b ec ep R0 A2 b2 ec2 ep2 (d, ng) := by
  rcases hbj with q | q
  · refine h.endg hb q ?_
    rw [show 5 + 1 - ng = (5 - ng) + 1 by omega]
    rcases ha.2 q with ⟨-, w1, w2, w3, w4, w5⟩ | ⟨-, w1, w2, w3, w4, w5⟩ | ⟨w1, -⟩
    · rw [gns_no w1]
      exact Or.inl ⟨w2, w3, w4, by rw [w5]⟩
    · rw [gns_mx w1 (by omega)]
      exact Or.inr ⟨w3, by show (3 : Int) ≠ 0; decide, w4, w5⟩
    · rw [hx] at w1
      exact absurd w1 (by decide)
  · obtain ⟨-, w1, w2, w3⟩ := ha.1 q
    rw [w1, w2, w3, ← q]
    exact h.endb hb q
theorem gns_next {b ec ep bj ecj epj Aj A2 b2 ec2 ep2 x fc A7 b7 ec7 ep7 : Int} {R0 : Int × Int × GD × Nat} {d d7 : GD} {ng : Nat} (hb : b = 0 ∨ b = 1) (hbj : bj = 0 ∨ bj = 1) (h6 : ng < 5) (h : LVx b ec ep R0 (sGens tx L (5 + 1 - ng) (skp tx L Aj) ng d) bj ecj epj) (hfc : fc = (ng : Int)) (hx : x ≠ 0) (ha : ADo tx L bj ecj epj wGENERATOR fc 5 Aj A2 b2 ec2 ep2 x) (hr : b2 = 0 → LNo tx L (sGen tx L (skp tx L A2) ng d) ec2 ep2 A7 b7 ec7 ep7 d7) : LVx b ec ep R0 (sGens tx L (5 + 1 - (ng + 1)) (skp tx L A7) (ng + 1) d7) b7 ec7 ep7 := by
  rcases hbj with q | q
  · rw [show 5 + 1 - ng = (5 - ng) + 1 by omega] at h
    rcases ha.2 q with ⟨w1, -⟩ | ⟨w1, -⟩ | ⟨-, w1, w2, w3, w4, w5, w6⟩
    · exact absurd w1 hx
    · exact absurd w1 hx
    · have hr := hr w3
      rw [w6] at hr
      refine h.step hb q w4 w5 hr (fun z => ?_) (fun z => ?_)
      · rw [gns_bad w1 (by omega) z]
        exact ⟨rfl, rfl⟩
      · rw [gns_go w1 (by omega) (by rw [z]), z, show 5 + 1 - (ng + 1) = 5 - ng by omega]
  · exact absurd (ha.1 q).1 hx

theorem rgs_end {b ec ep bj ecj epj Aj A2 b2 ec2 ep2 x fc : Int} {R0 : Int × Int × GD × Nat} {d : GD} {nr : Nat} (hb : b = 0 ∨ b = 1) (hbj : bj = 0 ∨ bj = 1) (h6 : nr ≤ 6) (h : LVx b ec ep R0 (sRigs tx L (6 + 1 - nr) (skp tx L Aj) nr d) bj ecj epj) (hfc : fc = (nr : Int)) (hx : x = 0) (ha : ADo tx L bj ecj epj wRIGHT fc 6 Aj A2 b2 ec2 ep2 x) : LEx tx L b ec ep R0 A2 b2 ec2 ep2 (d, nr) := by
  rcases hbj with q | q
  · refine h.endg hb q ?_
    rw [show 6 + 1 - nr = (6 - nr) + 1 by omega]
    rcases ha.2 q with ⟨-, w1, w2, w3, w4, w5⟩ | ⟨-, w1, w2, w3, w4, w5⟩ | ⟨w1, -⟩
    · rw [rgs_no w1]
      exact Or.inl ⟨w2, w3, w4, by rw [w5]⟩
    · rw [rgs_mx w1 (by omega)]
      exact Or.inr ⟨w3, by show (3 : Int) ≠ 0; decide, w4, w5⟩
    · rw [hx] at w1
      exact absurd w1 (by decide)
  · obtain ⟨-, w1, w2, w3⟩ := ha.1 q
    rw [w1, w2, w3, ← q]
    exact h.endb hb q
theorem rgs_next {b ec ep bj ecj epj Aj A2 b2 ec2 ep2 x fc A7 b7 ec7 ep7 : Int} {R0 : Int × Int × GD × Nat} {d d7 : GD} {nr : Nat} (hb : b = 0 ∨ b = 1) (hbj : bj = 0 ∨ bj = 1) (h6 : nr < 6) (h : LVx b ec ep R0 (sRigs tx L (6 + 1 - nr) (skp tx L Aj) nr d) bj ecj epj) (hfc : fc = (nr : Int)) (hx : x ≠ 0) (ha : ADo tx L bj ecj epj wRIGHT fc 6 Aj A2 b2 ec2 ep2 x) (hr : b2 = 0 → LNo tx L (sRig tx L (skp tx L A2) nr d) ec2 ep2 A7 b7 ec7 ep7 d7) : LVx b ec ep R0 (sRigs tx L (6 + 1 - (nr + 1)) (skp tx L A7) (nr + 1) d7) b7 ec7 ep7 := by
  rcases hbj with q | q
  · rw [show 6 + 1 - nr = (6 - nr) + 1 by omega] at h
    rcases ha.2 q with ⟨w1, -⟩ | ⟨w1, -⟩ | ⟨-, w1, w2, w3, w4, w5, w6⟩
    · exact absurd w1 hx
    · exact absurd w1 hx
    · have hr := hr w3
      rw [w6] at hr
      refine h.step hb q w4 w5 hr (fun z => ?_) (fun z => ?_)
      · rw [rgs_bad w1 (by omega) z]
        exact ⟨rfl, rfl⟩
      · rw [rgs_go w1 (by omega) (by rw [z]), z, show 6 + 1 - (nr + 1) = 6 - nr by omega]
  · exact absurd (ha.1 q).1 hx

theorem dms_end {b ec ep bj ecj epj Aj A2 x : Int} {R0 : Int × Int × GD} {d : GD} {f : Nat} (hb : b = 0 ∨ b = 1) (hbj : bj = 0 ∨ bj = 1) (h : LVx b ec ep R0 (sDems tx L f (skp tx L Aj) d) bj ecj epj) (hx : x = 0) (ha : TKo tx L bj wDEMAND Aj A2 x) : LEx tx L b ec ep R0 A2 bj ecj epj d := by
  rcases hbj with q | q
  · refine h.endg hb q (Or.inl ⟨q, rfl, rfl, ?_⟩)
    rcases ha.2 q with ⟨w1, -⟩ | ⟨-, w1, w2⟩
    · rw [hx] at w1
      exact absurd w1 (by decide)
    · cases f with
      | zero => rw [w2, skp_id]; rfl
      | succ f => rw [dms_no w1, w2, skp_id]
  · exact h.endb hb q
theorem dms_next {b ec ep bj ecj epj Aj A2 x A7 b7 ec7 ep7 : Int} {R0 : Int × Int × GD} {d d7 : GD} {f : Nat} (hb : b = 0 ∨ b = 1) (hbj : bj = 0 ∨ bj = 1) (h : LVx b ec ep R0 (sDems tx L (f + 1) (skp tx L Aj) d) bj ecj epj) (hx : x ≠ 0) (ha : TKo tx L bj wDEMAND Aj A2 x) (hr : bj = 0 → LNo tx L (sDem tx L (skp tx L A2) d) ecj epj A7 b7 ec7 ep7 d7) : LVx b ec ep R0 (sDems tx L f (skp tx L A7) d7) b7 ec7 ep7 := by
  rcases hbj with q | q
  · rcases ha.2 q with ⟨-, w1, w6⟩ | ⟨w1, -⟩
    · have hr := hr q
      rw [w6] at hr
      refine h.step hb q rfl rfl hr (fun z => ?_) (fun z => ?_)
      · rw [dms_bad w1 z]
        exact ⟨rfl, rfl⟩
      · rw [dms_go w1 (by rw [z]), z]
    · exact absurd w1 hx
  · exact absurd (ha.1 q) hx
end RDL
