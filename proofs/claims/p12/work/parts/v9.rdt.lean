/-! The stages of the whole text. -/
section RDS
variable {tx : Nat → Int} {L s : Int} {n nl ng nr : Nat} {d : GD}
theorem txt_bad (h : (sHead tx L (skp tx L 0)).1 ≠ 0) : (sText tx L).1 = (sHead tx L (skp tx L 0)).1 ∧ (sText tx L).2.1 = (sHead tx L (skp tx L 0)).2.1 := by
  have e : sText tx L = sErr _ _ := if_pos h
  rw [e]
  exact ⟨rfl, rfl⟩
theorem txt_go {s2 x y : Int} (h : sHead tx L (skp tx L 0) = (0, s2, x, y)) : sText tx L = sBod tx L (x - 1).toNat s2 (upI (upI (fun _ => 0) 0 x) 1 y, fun _ => 0) := by
  unfold sText
  rw [h]
  exact if_neg (fun z => z rfl)
theorem bod_bad (h : (sLines tx L (6 + 1 - 0) s 0 d).1 ≠ 0) : (sBod tx L n s d).1 = (sLines tx L (6 + 1 - 0) s 0 d).1 ∧ (sBod tx L n s d).2.1 = (sLines tx L (6 + 1 - 0) s 0 d).2.1 := by
  have e : sBod tx L n s d = sErr _ _ := if_pos h
  rw [e]
  exact ⟨rfl, rfl⟩
theorem bod_go {s2 : Int} {d2 : GD} (h : sLines tx L (6 + 1 - 0) s 0 d = (0, s2, d2, nl)) : sBod tx L n s d = sMid tx L n nl s2 d2 := by
  unfold sBod
  rw [h]
  exact if_neg (fun z => z rfl)
theorem mid_no (h : ¬ sBeh tx L s) : sMid tx L n nl s d = sErr 1 s := if_pos (by
  cases q : behB tx L s with
  | true => exact absurd (behB_t.mp q) h
  | false => rfl)
theorem mid_go (h : sBeh tx L s) : sMid tx L n nl s d = sCon tx L n nl s d := if_neg (fun q => by
  rw [behB_t.mpr h] at q
  exact absurd q (by decide))
theorem con_no (h : ¬ CutOK d.1 nl (-1) n) : sCon tx L n nl s d = sErr 4 s := if_pos (by
  cases q : conB d.1 nl (-1) n with
  | true => exact absurd (conB_t.mp q) h
  | false => rfl)
theorem con_go (h : CutOK d.1 nl (-1) n) : sCon tx L n nl s d = sTl1 tx L n nl s d := if_neg (fun q => by
  rw [conB_t.mpr h] at q
  exact absurd q (by decide))
theorem tl1_bad (h : (sGens tx L (5 + 1 - 0) s 0 d).1 ≠ 0) : (sTl1 tx L n nl s d).1 = (sGens tx L (5 + 1 - 0) s 0 d).1 ∧ (sTl1 tx L n nl s d).2.1 = (sGens tx L (5 + 1 - 0) s 0 d).2.1 := by
  have e : sTl1 tx L n nl s d = sErr _ _ := if_pos h
  rw [e]
  exact ⟨rfl, rfl⟩
theorem tl1_go {s2 : Int} {d2 : GD} (h : sGens tx L (5 + 1 - 0) s 0 d = (0, s2, d2, ng)) : sTl1 tx L n nl s d = sTl2 tx L n nl ng s2 d2 := by
  unfold sTl1
  rw [h]
  exact if_neg (fun z => z rfl)
theorem tl2_bad (h : (sDems tx L 700 s d).1 ≠ 0) : (sTl2 tx L n nl ng s d).1 = (sDems tx L 700 s d).1 ∧ (sTl2 tx L n nl ng s d).2.1 = (sDems tx L 700 s d).2.1 := by
  have e : sTl2 tx L n nl ng s d = sErr _ _ := if_pos h
  rw [e]
  exact ⟨rfl, rfl⟩
theorem tl2_go {s2 : Int} {d2 : GD} (h : sDems tx L 700 s d = (0, s2, d2)) : sTl2 tx L n nl ng s d = sTl3 tx L n nl ng s2 d2 := by
  unfold sTl2
  rw [h]
  exact if_neg (fun z => z rfl)
theorem tl3_bad (h : (sRigs tx L (6 + 1 - 0) s 0 d).1 ≠ 0) : (sTl3 tx L n nl ng s d).1 = (sRigs tx L (6 + 1 - 0) s 0 d).1 ∧ (sTl3 tx L n nl ng s d).2.1 = (sRigs tx L (6 + 1 - 0) s 0 d).2.1 := by
  have e : sTl3 tx L n nl ng s d = sErr _ _ := if_pos h
  rw [e]
  exact ⟨rfl, rfl⟩
theorem tl3_go {s2 : Int} {d2 : GD} (h : sRigs tx L (6 + 1 - 0) s 0 d = (0, s2, d2, nr)) : sTl3 tx L n nl ng s d = sTl4 tx L n nl ng nr s2 d2 := by
  unfold sTl3
  rw [h]
  exact if_neg (fun z => z rfl)
theorem tl4_bad (h : (sOut tx L s nl n d).1 ≠ 0) : (sTl4 tx L n nl ng nr s d).1 = (sOut tx L s nl n d).1 ∧ (sTl4 tx L n nl ng nr s d).2.1 = (sOut tx L s nl n d).2.1 := by
  have e : sTl4 tx L n nl ng nr s d = sErr _ _ := if_pos h
  rw [e]
  exact ⟨rfl, rfl⟩
theorem tl4_go {s2 : Int} {d2 : GD} (h : sOut tx L s nl n d = (0, s2, d2)) : sTl4 tx L n nl ng nr s d = sFin tx L nl ng nr s2 d2 := by
  unfold sTl4
  rw [h]
  exact if_neg (fun z => z rfl)
theorem fin_no (h : s < L) : sFin tx L nl ng nr s d = sErr 1 s := if_pos (fun q => by
  have := tkK_end.mp q
  omega)
theorem fin_go (h : L ≤ s) : sFin tx L nl ng nr s d = (0, s, d, nl, ng, nr) := if_neg (fun q => q (tkK_end.mpr h))
theorem sNum_in {lo hi : Int} (h : (sNum tx L lo hi s).1 = 0) : lo ≤ (sNum tx L lo hi s).2.2 ∧ (sNum tx L lo hi s).2.2 ≤ hi := by
  unfold sNum at h ⊢
  by_cases q : tkK tx L s = 1
  · rw [if_pos q] at h ⊢
    by_cases w : lo ≤ vlT tx L s ∧ vlT tx L s ≤ hi
    · rw [if_pos w]
      exact w
    · rw [if_neg w] at h
      exact absurd h (by show ¬ (2 : Int) = 0; decide)
  · rw [if_neg q] at h
    exact absurd h (by show ¬ (1 : Int) = 0; decide)
/-- what readOutage leaves as the outage -/
theorem out_ok9 {b ec ep A A2 b2 ec2 ep2 : Int} {fv gv gv2 : Nat → Int} (hb : 0 ≤ b) (hbb : b ≤ b2) (hnl : fv 2 = (nl : Int)) (h : LEx tx L b ec ep (sOut tx L (skp tx L A) nl n (fv, gv)) A2 b2 ec2 ep2 (fv, gv2)) : OK9 b2 fv nl n (gv2 38) := fun q => by
  have h2 := h.2 q
  rcases h.1.2 (by omega) with ⟨g1, -⟩ | ⟨-, g2, -⟩
  · have g1 : (sOut tx L (skp tx L A) nl n (fv, gv)).1 = 0 := g1
    have h2 : gv2 = (sOut tx L (skp tx L A) nl n (fv, gv)).2.2.2 := congrArg Prod.snd h2
    unfold sOut at g1 h2
    by_cases w : wrd tx L (skp tx L A) = wOUTAGE
    · rw [if_pos w] at g1 h2
      dsimp only at g1 h2
      by_cases w1 : (sNum tx L 0 (fv 2 - 1) (nxs tx L (skp tx L A))).1 = 0
      · rw [if_neg (fun z => z w1)] at g1 h2
        by_cases w2 : conB fv nl (sNum tx L 0 (fv 2 - 1) (nxs tx L (skp tx L A))).2.2 n = false
        · rw [if_pos w2] at g1
          exact absurd g1 (by show ¬ (5 : Int) = 0; decide)
        · rw [if_neg w2] at g1 h2
          by_cases w3 : (sSem tx L (sNum tx L 0 (fv 2 - 1) (nxs tx L (skp tx L A))).2.1).1 = 0
          · rw [if_neg (fun z => z w3)] at h2
            have h2 : gv2 = upI gv 38 (sNum tx L 0 (fv 2 - 1) (nxs tx L (skp tx L A))).2.2 := h2
            rw [h2]
            have e : (upI gv 38 (sNum tx L 0 (fv 2 - 1) (nxs tx L (skp tx L A))).2.2) 38 = (sNum tx L 0 (fv 2 - 1) (nxs tx L (skp tx L A))).2.2 := if_pos rfl
            have w4 := sNum_in w1
            refine Or.inr ⟨?_, ?_, ?_⟩
            · rw [e]; exact w4.1
            · rw [e]; omega
            · rw [e]
              cases z : conB fv nl (sNum tx L 0 (fv 2 - 1) (nxs tx L (skp tx L A))).2.2 n with
              | true => exact conB_t.mp z
              | false => exact absurd z w2
          · rw [if_pos w3] at g1
            exact absurd g1 w3
      · rw [if_pos w1] at g1
        exact absurd g1 w1
    · rw [if_neg w] at h2
      rw [h2]
      exact Or.inl (show (if (38 : Nat) = 38 then (-1 : Int) else gv 38) = -1 from if_pos rfl)
  · omega
end RDS
