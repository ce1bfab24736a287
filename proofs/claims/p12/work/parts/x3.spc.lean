/-! The class reads sizes, lines, generators, demands, rights, exactly. -/
theorem nxs_gt {tx : Nat → Int} {L s : Int} (h : s < L) : s < nxs tx L s := by
  have h1 : s < tkE tx L s := by
    by_cases w2 : 97 ≤ tx s.toNat ∧ tx s.toNat ≤ 122
    · rw [(tk_wrd h w2.1 w2.2).2]; exact rnn_gt h w2.1 w2.2
    · by_cases w3 : 48 ≤ tx s.toNat ∧ tx s.toNat ≤ 57
      · rw [(tk_num h w3.1 w3.2).1]; exact rnn_gt h w3.1 w3.2
      · rw [(tk_oth h w2 w3).1]; omega
  have h2 : tkE tx L s ≤ nxs tx L s := skp_ge
  omega
theorem tk_lt {tx : Nat → Int} {L s : Int} (h : tkK tx L s ≠ 3) : s < L := by
  apply Classical.byContradiction
  intro q
  exact h (tk_end (by omega)).1
theorem sNum_gt {tx : Nat → Int} {L lo hi s : Int} (h : (sNum tx L lo hi s).1 = 0) : s < (sNum tx L lo hi s).2.1 ∧ lo ≤ (sNum tx L lo hi s).2.2 ∧ (sNum tx L lo hi s).2.2 ≤ hi := by
  by_cases q : tkK tx L s = 1
  · by_cases q2 : lo ≤ vlT tx L s ∧ vlT tx L s ≤ hi
    · rw [sNum_ok q q2]
      exact ⟨nxs_gt (tk_lt (by rw [q]; decide)), q2.1, q2.2⟩
    · rw [sNum_rg q q2] at h
      exact absurd h (by show ¬ (2 : Int) = 0; decide)
  · rw [sNum_no q] at h
    exact absurd h (by show ¬ (1 : Int) = 0; decide)
theorem sOth_gt {tx : Nat → Int} {L k a s : Int} (h : (sOth tx L k a s).1 = 0) : s < (sOth tx L k a s).2.1 ∧ 0 ≤ (sOth tx L k a s).2.2 ∧ (sOth tx L k a s).2.2 ≤ k ∧ (sOth tx L k a s).2.2 ≠ a := by
  by_cases q : (sNum tx L 0 k s).1 = 0 ∧ (sNum tx L 0 k s).2.2 = a
  · rw [show sOth tx L k a s = (2, s, 0) from if_pos q] at h
    exact absurd h (by show ¬ (2 : Int) = 0; decide)
  · rw [show sOth tx L k a s = sNum tx L 0 k s from if_neg q] at h ⊢
    obtain ⟨w1, w2, w3⟩ := sNum_gt h
    exact ⟨w1, w2, w3, fun z => q ⟨h, z⟩⟩
theorem sSem_gt {tx : Nat → Int} {L s : Int} (h : (sSem tx L s).1 = 0) : s < (sSem tx L s).2 := by
  by_cases q : tkK tx L s = 2
  · rw [show sSem tx L s = (0, nxs tx L s) from if_pos q]
    exact nxs_gt (tk_lt (by rw [q]; decide))
  · rw [show sSem tx L s = (1, s) from if_neg q] at h
    exact absurd h (by show ¬ (1 : Int) = 0; decide)
theorem sLine_e1 {tx : Nat → Int} {L s : Int} {nl : Nat} {d : GD} (hn : (sNum tx L 0 (d.1 0 - 1) s).1 ≠ 0) : (sLine tx L s nl d).1 = (sNum tx L 0 (d.1 0 - 1) s).1 ∧ (sLine tx L s nl d).2.1 = (sNum tx L 0 (d.1 0 - 1) s).2.1 := by
  unfold sLine
  simp only [hn, ne_eq, not_true_eq_false, not_false_eq_true, ↓reduceIte, and_self, Bool.true_eq_false, Bool.false_eq_true]
theorem sLine_e2 {tx : Nat → Int} {L s : Int} {nl : Nat} {d : GD} {a1 s2 : Int} (h1 : (sNum tx L 0 (d.1 0 - 1) s).1 = 0) (e1 : s2 = (sNum tx L 0 (d.1 0 - 1) s).2.1) (v1 : a1 = (sNum tx L 0 (d.1 0 - 1) s).2.2) (hn : (sOth tx L (d.1 0 - 1) a1 s2).1 ≠ 0) : (sLine tx L s nl d).1 = (sOth tx L (d.1 0 - 1) a1 s2).1 ∧ (sLine tx L s nl d).2.1 = (sOth tx L (d.1 0 - 1) a1 s2).2.1 := by
  subst e1
  subst v1
  unfold sLine
  simp only [h1, hn, ne_eq, not_true_eq_false, not_false_eq_true, ↓reduceIte, and_self, Bool.true_eq_false, Bool.false_eq_true]
theorem sLine_e3 {tx : Nat → Int} {L s : Int} {nl : Nat} {d : GD} {a1 s2 : Int} {a2 s3 : Int} (h1 : (sNum tx L 0 (d.1 0 - 1) s).1 = 0) (e1 : s2 = (sNum tx L 0 (d.1 0 - 1) s).2.1) (v1 : a1 = (sNum tx L 0 (d.1 0 - 1) s).2.2) (h2 : (sOth tx L (d.1 0 - 1) a1 s2).1 = 0) (e2 : s3 = (sOth tx L (d.1 0 - 1) a1 s2).2.1) (v2 : a2 = (sOth tx L (d.1 0 - 1) a1 s2).2.2) (hn : (sNum tx L 1 200 s3).1 ≠ 0) : (sLine tx L s nl d).1 = (sNum tx L 1 200 s3).1 ∧ (sLine tx L s nl d).2.1 = (sNum tx L 1 200 s3).2.1 := by
  subst e1
  subst v1
  subst e2
  subst v2
  unfold sLine
  simp only [h1, h2, hn, ne_eq, not_true_eq_false, not_false_eq_true, ↓reduceIte, and_self, Bool.true_eq_false, Bool.false_eq_true]
theorem sLine_e4 {tx : Nat → Int} {L s : Int} {nl : Nat} {d : GD} {a1 s2 : Int} {a2 s3 : Int} {a3 s4 : Int} (h1 : (sNum tx L 0 (d.1 0 - 1) s).1 = 0) (e1 : s2 = (sNum tx L 0 (d.1 0 - 1) s).2.1) (v1 : a1 = (sNum tx L 0 (d.1 0 - 1) s).2.2) (h2 : (sOth tx L (d.1 0 - 1) a1 s2).1 = 0) (e2 : s3 = (sOth tx L (d.1 0 - 1) a1 s2).2.1) (v2 : a2 = (sOth tx L (d.1 0 - 1) a1 s2).2.2) (h3 : (sNum tx L 1 200 s3).1 = 0) (e3 : s4 = (sNum tx L 1 200 s3).2.1) (v3 : a3 = (sNum tx L 1 200 s3).2.2) (hn : (if wrd tx L s4 = wEMERGENCY then sNum tx L a3 400 (nxs tx L s4) else (0, s4, a3)).1 ≠ 0) : (sLine tx L s nl d).1 = (if wrd tx L s4 = wEMERGENCY then sNum tx L a3 400 (nxs tx L s4) else (0, s4, a3)).1 ∧ (sLine tx L s nl d).2.1 = (if wrd tx L s4 = wEMERGENCY then sNum tx L a3 400 (nxs tx L s4) else (0, s4, a3)).2.1 := by
  subst e1
  subst v1
  subst e2
  subst v2
  subst e3
  subst v3
  unfold sLine
  simp only [h1, h2, h3, hn, ne_eq, not_true_eq_false, not_false_eq_true, ↓reduceIte, and_self, Bool.true_eq_false, Bool.false_eq_true]
theorem sLine_e5 {tx : Nat → Int} {L s : Int} {nl : Nat} {d : GD} {a1 s2 : Int} {a2 s3 : Int} {a3 s4 : Int} {a4 s5 : Int} (h1 : (sNum tx L 0 (d.1 0 - 1) s).1 = 0) (e1 : s2 = (sNum tx L 0 (d.1 0 - 1) s).2.1) (v1 : a1 = (sNum tx L 0 (d.1 0 - 1) s).2.2) (h2 : (sOth tx L (d.1 0 - 1) a1 s2).1 = 0) (e2 : s3 = (sOth tx L (d.1 0 - 1) a1 s2).2.1) (v2 : a2 = (sOth tx L (d.1 0 - 1) a1 s2).2.2) (h3 : (sNum tx L 1 200 s3).1 = 0) (e3 : s4 = (sNum tx L 1 200 s3).2.1) (v3 : a3 = (sNum tx L 1 200 s3).2.2) (h4 : (if wrd tx L s4 = wEMERGENCY then sNum tx L a3 400 (nxs tx L s4) else (0, s4, a3)).1 = 0) (e4 : s5 = (if wrd tx L s4 = wEMERGENCY then sNum tx L a3 400 (nxs tx L s4) else (0, s4, a3)).2.1) (v4 : a4 = (if wrd tx L s4 = wEMERGENCY then sNum tx L a3 400 (nxs tx L s4) else (0, s4, a3)).2.2) (hn : (sSem tx L s5).1 ≠ 0) : (sLine tx L s nl d).1 = (sSem tx L s5).1 ∧ (sLine tx L s nl d).2.1 = (sSem tx L s5).2 := by
  subst e1
  subst v1
  subst e2
  subst v2
  subst e3
  subst v3
  subst e4
  subst v4
  unfold sLine
  simp only [h1, h2, h3, h4, hn, ne_eq, not_true_eq_false, not_false_eq_true, ↓reduceIte, and_self, Bool.true_eq_false, Bool.false_eq_true]
theorem sLine_ok {tx : Nat → Int} {L s : Int} {nl : Nat} {d : GD} {a1 s2 : Int} {a2 s3 : Int} {a3 s4 : Int} {a4 s5 : Int} {s6 : Int} (h1 : (sNum tx L 0 (d.1 0 - 1) s).1 = 0) (e1 : s2 = (sNum tx L 0 (d.1 0 - 1) s).2.1) (v1 : a1 = (sNum tx L 0 (d.1 0 - 1) s).2.2) (h2 : (sOth tx L (d.1 0 - 1) a1 s2).1 = 0) (e2 : s3 = (sOth tx L (d.1 0 - 1) a1 s2).2.1) (v2 : a2 = (sOth tx L (d.1 0 - 1) a1 s2).2.2) (h3 : (sNum tx L 1 200 s3).1 = 0) (e3 : s4 = (sNum tx L 1 200 s3).2.1) (v3 : a3 = (sNum tx L 1 200 s3).2.2) (h4 : (if wrd tx L s4 = wEMERGENCY then sNum tx L a3 400 (nxs tx L s4) else (0, s4, a3)).1 = 0) (e4 : s5 = (if wrd tx L s4 = wEMERGENCY then sNum tx L a3 400 (nxs tx L s4) else (0, s4, a3)).2.1) (v4 : a4 = (if wrd tx L s4 = wEMERGENCY then sNum tx L a3 400 (nxs tx L s4) else (0, s4, a3)).2.2) (h5 : (sSem tx L s5).1 = 0) (e5 : s6 = (sSem tx L s5).2) : sLine tx L s nl d = (0, s6, upI (upI (upI d.1 (5 + nl) a1) (11 + nl) a2) 2 (((nl + 1) : Nat) : Int), upI (upI d.2 (0 + nl) a3) (6 + nl) a4) := by
  subst e1
  subst v1
  subst e2
  subst v2
  subst e3
  subst v3
  subst e4
  subst v4
  subst e5
  unfold sLine
  simp only [h1, h2, h3, h4, h5, ne_eq, not_true_eq_false, not_false_eq_true, ↓reduceIte, and_self, Bool.true_eq_false, Bool.false_eq_true]
theorem sGen_e1 {tx : Nat → Int} {L s : Int} {nl : Nat} {d : GD} (hn : (sNum tx L 0 (d.1 0 - 1) s).1 ≠ 0) : (sGen tx L s nl d).1 = (sNum tx L 0 (d.1 0 - 1) s).1 ∧ (sGen tx L s nl d).2.1 = (sNum tx L 0 (d.1 0 - 1) s).2.1 := by
  unfold sGen
  simp only [hn, ne_eq, not_true_eq_false, not_false_eq_true, ↓reduceIte, and_self, Bool.true_eq_false, Bool.false_eq_true]
theorem sGen_e2 {tx : Nat → Int} {L s : Int} {nl : Nat} {d : GD} {a1 s2 : Int} (h1 : (sNum tx L 0 (d.1 0 - 1) s).1 = 0) (e1 : s2 = (sNum tx L 0 (d.1 0 - 1) s).2.1) (v1 : a1 = (sNum tx L 0 (d.1 0 - 1) s).2.2) (hn : (sNum tx L 0 99 s2).1 ≠ 0) : (sGen tx L s nl d).1 = (sNum tx L 0 99 s2).1 ∧ (sGen tx L s nl d).2.1 = (sNum tx L 0 99 s2).2.1 := by
  subst e1
  subst v1
  unfold sGen
  simp only [h1, hn, ne_eq, not_true_eq_false, not_false_eq_true, ↓reduceIte, and_self, Bool.true_eq_false, Bool.false_eq_true]
theorem sGen_e3 {tx : Nat → Int} {L s : Int} {nl : Nat} {d : GD} {a1 s2 : Int} {a2 s3 : Int} (h1 : (sNum tx L 0 (d.1 0 - 1) s).1 = 0) (e1 : s2 = (sNum tx L 0 (d.1 0 - 1) s).2.1) (v1 : a1 = (sNum tx L 0 (d.1 0 - 1) s).2.2) (h2 : (sNum tx L 0 99 s2).1 = 0) (e2 : s3 = (sNum tx L 0 99 s2).2.1) (v2 : a2 = (sNum tx L 0 99 s2).2.2) (hn : (sNum tx L 1 200 s3).1 ≠ 0) : (sGen tx L s nl d).1 = (sNum tx L 1 200 s3).1 ∧ (sGen tx L s nl d).2.1 = (sNum tx L 1 200 s3).2.1 := by
  subst e1
  subst v1
  subst e2
  subst v2
  unfold sGen
  simp only [h1, h2, hn, ne_eq, not_true_eq_false, not_false_eq_true, ↓reduceIte, and_self, Bool.true_eq_false, Bool.false_eq_true]
theorem sGen_e4 {tx : Nat → Int} {L s : Int} {nl : Nat} {d : GD} {a1 s2 : Int} {a2 s3 : Int} {a3 s4 : Int} (h1 : (sNum tx L 0 (d.1 0 - 1) s).1 = 0) (e1 : s2 = (sNum tx L 0 (d.1 0 - 1) s).2.1) (v1 : a1 = (sNum tx L 0 (d.1 0 - 1) s).2.2) (h2 : (sNum tx L 0 99 s2).1 = 0) (e2 : s3 = (sNum tx L 0 99 s2).2.1) (v2 : a2 = (sNum tx L 0 99 s2).2.2) (h3 : (sNum tx L 1 200 s3).1 = 0) (e3 : s4 = (sNum tx L 1 200 s3).2.1) (v3 : a3 = (sNum tx L 1 200 s3).2.2) (hn : (sSem tx L s4).1 ≠ 0) : (sGen tx L s nl d).1 = (sSem tx L s4).1 ∧ (sGen tx L s nl d).2.1 = (sSem tx L s4).2 := by
  subst e1
  subst v1
  subst e2
  subst v2
  subst e3
  subst v3
  unfold sGen
  simp only [h1, h2, h3, hn, ne_eq, not_true_eq_false, not_false_eq_true, ↓reduceIte, and_self, Bool.true_eq_false, Bool.false_eq_true]
theorem sGen_ok {tx : Nat → Int} {L s : Int} {nl : Nat} {d : GD} {a1 s2 : Int} {a2 s3 : Int} {a3 s4 : Int} {s5 : Int} (h1 : (sNum tx L 0 (d.1 0 - 1) s).1 = 0) (e1 : s2 = (sNum tx L 0 (d.1 0 - 1) s).2.1) (v1 : a1 = (sNum tx L 0 (d.1 0 - 1) s).2.2) (h2 : (sNum tx L 0 99 s2).1 = 0) (e2 : s3 = (sNum tx L 0 99 s2).2.1) (v2 : a2 = (sNum tx L 0 99 s2).2.2) (h3 : (sNum tx L 1 200 s3).1 = 0) (e3 : s4 = (sNum tx L 1 200 s3).2.1) (v3 : a3 = (sNum tx L 1 200 s3).2.2) (h4 : (sSem tx L s4).1 = 0) (e4 : s5 = (sSem tx L s4).2) : sGen tx L s nl d = (0, s5, upI (upI d.1 (17 + nl) a1) 3 (((nl + 1) : Nat) : Int), upI (upI d.2 (12 + nl) a2) (17 + nl) a3) := by
  subst e1
  subst v1
  subst e2
  subst v2
  subst e3
  subst v3
  subst e4
  unfold sGen
  simp only [h1, h2, h3, h4, ne_eq, not_true_eq_false, not_false_eq_true, ↓reduceIte, and_self, Bool.true_eq_false, Bool.false_eq_true]
theorem sDem_e1 {tx : Nat → Int} {L s : Int} {d : GD} (hn : (sNum tx L 0 (d.1 1 - 1) s).1 ≠ 0) : (sDem tx L s d).1 = (sNum tx L 0 (d.1 1 - 1) s).1 ∧ (sDem tx L s d).2.1 = (sNum tx L 0 (d.1 1 - 1) s).2.1 := by
  unfold sDem
  simp only [hn, ne_eq, not_true_eq_false, not_false_eq_true, ↓reduceIte, and_self, Bool.true_eq_false, Bool.false_eq_true]
theorem sDem_e2 {tx : Nat → Int} {L s : Int} {d : GD} {a1 s2 : Int} (h1 : (sNum tx L 0 (d.1 1 - 1) s).1 = 0) (e1 : s2 = (sNum tx L 0 (d.1 1 - 1) s).2.1) (v1 : a1 = (sNum tx L 0 (d.1 1 - 1) s).2.2) (hn : (sNum tx L 0 (d.1 0 - 1) s2).1 ≠ 0) : (sDem tx L s d).1 = (sNum tx L 0 (d.1 0 - 1) s2).1 ∧ (sDem tx L s d).2.1 = (sNum tx L 0 (d.1 0 - 1) s2).2.1 := by
  subst e1
  subst v1
  unfold sDem
  simp only [h1, hn, ne_eq, not_true_eq_false, not_false_eq_true, ↓reduceIte, and_self, Bool.true_eq_false, Bool.false_eq_true]
theorem sDem_e3 {tx : Nat → Int} {L s : Int} {d : GD} {a1 s2 : Int} {a2 s3 : Int} (h1 : (sNum tx L 0 (d.1 1 - 1) s).1 = 0) (e1 : s2 = (sNum tx L 0 (d.1 1 - 1) s).2.1) (v1 : a1 = (sNum tx L 0 (d.1 1 - 1) s).2.2) (h2 : (sNum tx L 0 (d.1 0 - 1) s2).1 = 0) (e2 : s3 = (sNum tx L 0 (d.1 0 - 1) s2).2.1) (v2 : a2 = (sNum tx L 0 (d.1 0 - 1) s2).2.2) (hn : (sNum tx L 0 200 s3).1 ≠ 0) : (sDem tx L s d).1 = (sNum tx L 0 200 s3).1 ∧ (sDem tx L s d).2.1 = (sNum tx L 0 200 s3).2.1 := by
  subst e1
  subst v1
  subst e2
  subst v2
  unfold sDem
  simp only [h1, h2, hn, ne_eq, not_true_eq_false, not_false_eq_true, ↓reduceIte, and_self, Bool.true_eq_false, Bool.false_eq_true]
theorem sDem_e4 {tx : Nat → Int} {L s : Int} {d : GD} {a1 s2 : Int} {a2 s3 : Int} {a3 s4 : Int} (h1 : (sNum tx L 0 (d.1 1 - 1) s).1 = 0) (e1 : s2 = (sNum tx L 0 (d.1 1 - 1) s).2.1) (v1 : a1 = (sNum tx L 0 (d.1 1 - 1) s).2.2) (h2 : (sNum tx L 0 (d.1 0 - 1) s2).1 = 0) (e2 : s3 = (sNum tx L 0 (d.1 0 - 1) s2).2.1) (v2 : a2 = (sNum tx L 0 (d.1 0 - 1) s2).2.2) (h3 : (sNum tx L 0 200 s3).1 = 0) (e3 : s4 = (sNum tx L 0 200 s3).2.1) (v3 : a3 = (sNum tx L 0 200 s3).2.2) (hn : (sSem tx L s4).1 ≠ 0) : (sDem tx L s d).1 = (sSem tx L s4).1 ∧ (sDem tx L s d).2.1 = (sSem tx L s4).2 := by
  subst e1
  subst v1
  subst e2
  subst v2
  subst e3
  subst v3
  unfold sDem
  simp only [h1, h2, h3, hn, ne_eq, not_true_eq_false, not_false_eq_true, ↓reduceIte, and_self, Bool.true_eq_false, Bool.false_eq_true]
theorem sDem_ok {tx : Nat → Int} {L s : Int} {d : GD} {a1 s2 : Int} {a2 s3 : Int} {a3 s4 : Int} {s5 : Int} (h1 : (sNum tx L 0 (d.1 1 - 1) s).1 = 0) (e1 : s2 = (sNum tx L 0 (d.1 1 - 1) s).2.1) (v1 : a1 = (sNum tx L 0 (d.1 1 - 1) s).2.2) (h2 : (sNum tx L 0 (d.1 0 - 1) s2).1 = 0) (e2 : s3 = (sNum tx L 0 (d.1 0 - 1) s2).2.1) (v2 : a2 = (sNum tx L 0 (d.1 0 - 1) s2).2.2) (h3 : (sNum tx L 0 200 s3).1 = 0) (e3 : s4 = (sNum tx L 0 200 s3).2.1) (v3 : a3 = (sNum tx L 0 200 s3).2.2) (h4 : (sSem tx L s4).1 = 0) (e4 : s5 = (sSem tx L s4).2) : sDem tx L s d = (0, s5, d.1, upI d.2 (22 + 4 * a1 + a2).toNat a3) := by
  subst e1
  subst v1
  subst e2
  subst v2
  subst e3
  subst v3
  subst e4
  unfold sDem
  simp only [h1, h2, h3, h4, ne_eq, not_true_eq_false, not_false_eq_true, ↓reduceIte, and_self, Bool.true_eq_false, Bool.false_eq_true]
theorem sRig_e1 {tx : Nat → Int} {L s : Int} {nl : Nat} {d : GD} (hn : (sNum tx L 0 3 s).1 ≠ 0) : (sRig tx L s nl d).1 = (sNum tx L 0 3 s).1 ∧ (sRig tx L s nl d).2.1 = (sNum tx L 0 3 s).2.1 := by
  unfold sRig
  simp only [hn, ne_eq, not_true_eq_false, not_false_eq_true, ↓reduceIte, and_self, Bool.true_eq_false, Bool.false_eq_true]
theorem sRig_e2 {tx : Nat → Int} {L s : Int} {nl : Nat} {d : GD} {a1 s2 : Int} (h1 : (sNum tx L 0 3 s).1 = 0) (e1 : s2 = (sNum tx L 0 3 s).2.1) (v1 : a1 = (sNum tx L 0 3 s).2.2) (hn : (sNum tx L 0 (d.1 0 - 1) s2).1 ≠ 0) : (sRig tx L s nl d).1 = (sNum tx L 0 (d.1 0 - 1) s2).1 ∧ (sRig tx L s nl d).2.1 = (sNum tx L 0 (d.1 0 - 1) s2).2.1 := by
  subst e1
  subst v1
  unfold sRig
  simp only [h1, hn, ne_eq, not_true_eq_false, not_false_eq_true, ↓reduceIte, and_self, Bool.true_eq_false, Bool.false_eq_true]
theorem sRig_e3 {tx : Nat → Int} {L s : Int} {nl : Nat} {d : GD} {a1 s2 : Int} {a2 s3 : Int} (h1 : (sNum tx L 0 3 s).1 = 0) (e1 : s2 = (sNum tx L 0 3 s).2.1) (v1 : a1 = (sNum tx L 0 3 s).2.2) (h2 : (sNum tx L 0 (d.1 0 - 1) s2).1 = 0) (e2 : s3 = (sNum tx L 0 (d.1 0 - 1) s2).2.1) (v2 : a2 = (sNum tx L 0 (d.1 0 - 1) s2).2.2) (hn : (sOth tx L (d.1 0 - 1) a2 s3).1 ≠ 0) : (sRig tx L s nl d).1 = (sOth tx L (d.1 0 - 1) a2 s3).1 ∧ (sRig tx L s nl d).2.1 = (sOth tx L (d.1 0 - 1) a2 s3).2.1 := by
  subst e1
  subst v1
  subst e2
  subst v2
  unfold sRig
  simp only [h1, h2, hn, ne_eq, not_true_eq_false, not_false_eq_true, ↓reduceIte, and_self, Bool.true_eq_false, Bool.false_eq_true]
theorem sRig_e4 {tx : Nat → Int} {L s : Int} {nl : Nat} {d : GD} {a1 s2 : Int} {a2 s3 : Int} {a3 s4 : Int} (h1 : (sNum tx L 0 3 s).1 = 0) (e1 : s2 = (sNum tx L 0 3 s).2.1) (v1 : a1 = (sNum tx L 0 3 s).2.2) (h2 : (sNum tx L 0 (d.1 0 - 1) s2).1 = 0) (e2 : s3 = (sNum tx L 0 (d.1 0 - 1) s2).2.1) (v2 : a2 = (sNum tx L 0 (d.1 0 - 1) s2).2.2) (h3 : (sOth tx L (d.1 0 - 1) a2 s3).1 = 0) (e3 : s4 = (sOth tx L (d.1 0 - 1) a2 s3).2.1) (v3 : a3 = (sOth tx L (d.1 0 - 1) a2 s3).2.2) (hn : (sNum tx L 1 100 s4).1 ≠ 0) : (sRig tx L s nl d).1 = (sNum tx L 1 100 s4).1 ∧ (sRig tx L s nl d).2.1 = (sNum tx L 1 100 s4).2.1 := by
  subst e1
  subst v1
  subst e2
  subst v2
  subst e3
  subst v3
  unfold sRig
  simp only [h1, h2, h3, hn, ne_eq, not_true_eq_false, not_false_eq_true, ↓reduceIte, and_self, Bool.true_eq_false, Bool.false_eq_true]
theorem sRig_e5 {tx : Nat → Int} {L s : Int} {nl : Nat} {d : GD} {a1 s2 : Int} {a2 s3 : Int} {a3 s4 : Int} {a4 s5 : Int} (h1 : (sNum tx L 0 3 s).1 = 0) (e1 : s2 = (sNum tx L 0 3 s).2.1) (v1 : a1 = (sNum tx L 0 3 s).2.2) (h2 : (sNum tx L 0 (d.1 0 - 1) s2).1 = 0) (e2 : s3 = (sNum tx L 0 (d.1 0 - 1) s2).2.1) (v2 : a2 = (sNum tx L 0 (d.1 0 - 1) s2).2.2) (h3 : (sOth tx L (d.1 0 - 1) a2 s3).1 = 0) (e3 : s4 = (sOth tx L (d.1 0 - 1) a2 s3).2.1) (v3 : a3 = (sOth tx L (d.1 0 - 1) a2 s3).2.2) (h4 : (sNum tx L 1 100 s4).1 = 0) (e4 : s5 = (sNum tx L 1 100 s4).2.1) (v4 : a4 = (sNum tx L 1 100 s4).2.2) (hn : (sSem tx L s5).1 ≠ 0) : (sRig tx L s nl d).1 = (sSem tx L s5).1 ∧ (sRig tx L s nl d).2.1 = (sSem tx L s5).2 := by
  subst e1
  subst v1
  subst e2
  subst v2
  subst e3
  subst v3
  subst e4
  subst v4
  unfold sRig
  simp only [h1, h2, h3, h4, hn, ne_eq, not_true_eq_false, not_false_eq_true, ↓reduceIte, and_self, Bool.true_eq_false, Bool.false_eq_true]
theorem sRig_ok {tx : Nat → Int} {L s : Int} {nl : Nat} {d : GD} {a1 s2 : Int} {a2 s3 : Int} {a3 s4 : Int} {a4 s5 : Int} {s6 : Int} (h1 : (sNum tx L 0 3 s).1 = 0) (e1 : s2 = (sNum tx L 0 3 s).2.1) (v1 : a1 = (sNum tx L 0 3 s).2.2) (h2 : (sNum tx L 0 (d.1 0 - 1) s2).1 = 0) (e2 : s3 = (sNum tx L 0 (d.1 0 - 1) s2).2.1) (v2 : a2 = (sNum tx L 0 (d.1 0 - 1) s2).2.2) (h3 : (sOth tx L (d.1 0 - 1) a2 s3).1 = 0) (e3 : s4 = (sOth tx L (d.1 0 - 1) a2 s3).2.1) (v3 : a3 = (sOth tx L (d.1 0 - 1) a2 s3).2.2) (h4 : (sNum tx L 1 100 s4).1 = 0) (e4 : s5 = (sNum tx L 1 100 s4).2.1) (v4 : a4 = (sNum tx L 1 100 s4).2.2) (h5 : (sSem tx L s5).1 = 0) (e5 : s6 = (sSem tx L s5).2) : sRig tx L s nl d = (0, s6, upI (upI (upI (upI (upI d.1 (22 + 4 * nl) a1) (22 + 4 * nl + 1) a2) (22 + 4 * nl + 2) a3) (22 + 4 * nl + 3) a4) 4 (((nl + 1) : Nat) : Int), d.2) := by
  subst e1
  subst v1
  subst e2
  subst v2
  subst e3
  subst v3
  subst e4
  subst v4
  subst e5
  unfold sRig
  simp only [h1, h2, h3, h4, h5, ne_eq, not_true_eq_false, not_false_eq_true, ↓reduceIte, and_self, Bool.true_eq_false, Bool.false_eq_true]
theorem sLines_no {tx : Nat → Int} {L s : Int} {nl : Nat} {d : GD} (h6 : nl ≤ 6) (hw : wrd tx L s ≠ wLINE) : sLines tx L (6 + 1 - nl) s nl d = (0, s, d, nl) := by
  obtain ⟨f, hf⟩ : ∃ f, 6 + 1 - nl = f + 1 := ⟨6 - nl, by omega⟩
  rw [hf]
  unfold sLines
  rw [if_neg hw]
theorem sLines_full {tx : Nat → Int} {L s : Int} {nl : Nat} {d : GD} (h6 : nl = 6) (hw : wrd tx L s = wLINE) : sLines tx L (6 + 1 - nl) s nl d = (3, s, d, nl) := by
  obtain ⟨f, hf⟩ : ∃ f, 6 + 1 - nl = f + 1 := ⟨6 - nl, by omega⟩
  rw [hf]
  unfold sLines
  rw [if_pos hw, if_pos h6]
theorem sLines_bad {tx : Nat → Int} {L s : Int} {nl : Nat} {d : GD} (h6 : nl < 6) (hw : wrd tx L s = wLINE) (hn : (sLine tx L (nxs tx L s) nl d).1 ≠ 0) : (sLines tx L (6 + 1 - nl) s nl d).1 = (sLine tx L (nxs tx L s) nl d).1 ∧ (sLines tx L (6 + 1 - nl) s nl d).2.1 = (sLine tx L (nxs tx L s) nl d).2.1 := by
  obtain ⟨f, hf⟩ : ∃ f, 6 + 1 - nl = f + 1 := ⟨6 - nl, by omega⟩
  rw [hf]
  unfold sLines
  simp only [hw, hn, show ¬ nl = 6 by omega, ne_eq, not_true_eq_false, not_false_eq_true, ↓reduceIte, and_self, Bool.true_eq_false, Bool.false_eq_true]
theorem sLines_go {tx : Nat → Int} {L s : Int} {nl : Nat} {d : GD} (h6 : nl < 6) (hw : wrd tx L s = wLINE) {s2 : Int} {d2 : GD} (hr : sLine tx L (nxs tx L s) nl d = (0, s2, d2)) : sLines tx L (6 + 1 - nl) s nl d = sLines tx L (6 + 1 - (nl + 1)) s2 (nl + 1) d2 := by
  obtain ⟨f, hf⟩ : ∃ f, 6 + 1 - nl = f + 1 := ⟨6 - nl, by omega⟩
  rw [hf, lns_go hw (by omega) (by rw [hr]), hr, show 6 + 1 - (nl + 1) = f by omega]
theorem sGens_no {tx : Nat → Int} {L s : Int} {nl : Nat} {d : GD} (h6 : nl ≤ 5) (hw : wrd tx L s ≠ wGENERATOR) : sGens tx L (5 + 1 - nl) s nl d = (0, s, d, nl) := by
  obtain ⟨f, hf⟩ : ∃ f, 5 + 1 - nl = f + 1 := ⟨5 - nl, by omega⟩
  rw [hf]
  unfold sGens
  rw [if_neg hw]
theorem sGens_full {tx : Nat → Int} {L s : Int} {nl : Nat} {d : GD} (h6 : nl = 5) (hw : wrd tx L s = wGENERATOR) : sGens tx L (5 + 1 - nl) s nl d = (3, s, d, nl) := by
  obtain ⟨f, hf⟩ : ∃ f, 5 + 1 - nl = f + 1 := ⟨5 - nl, by omega⟩
  rw [hf]
  unfold sGens
  rw [if_pos hw, if_pos h6]
theorem sGens_bad {tx : Nat → Int} {L s : Int} {nl : Nat} {d : GD} (h6 : nl < 5) (hw : wrd tx L s = wGENERATOR) (hn : (sGen tx L (nxs tx L s) nl d).1 ≠ 0) : (sGens tx L (5 + 1 - nl) s nl d).1 = (sGen tx L (nxs tx L s) nl d).1 ∧ (sGens tx L (5 + 1 - nl) s nl d).2.1 = (sGen tx L (nxs tx L s) nl d).2.1 := by
  obtain ⟨f, hf⟩ : ∃ f, 5 + 1 - nl = f + 1 := ⟨5 - nl, by omega⟩
  rw [hf]
  unfold sGens
  simp only [hw, hn, show ¬ nl = 5 by omega, ne_eq, not_true_eq_false, not_false_eq_true, ↓reduceIte, and_self, Bool.true_eq_false, Bool.false_eq_true]
theorem sGens_go {tx : Nat → Int} {L s : Int} {nl : Nat} {d : GD} (h6 : nl < 5) (hw : wrd tx L s = wGENERATOR) {s2 : Int} {d2 : GD} (hr : sGen tx L (nxs tx L s) nl d = (0, s2, d2)) : sGens tx L (5 + 1 - nl) s nl d = sGens tx L (5 + 1 - (nl + 1)) s2 (nl + 1) d2 := by
  obtain ⟨f, hf⟩ : ∃ f, 5 + 1 - nl = f + 1 := ⟨5 - nl, by omega⟩
  rw [hf, gns_go hw (by omega) (by rw [hr]), hr, show 5 + 1 - (nl + 1) = f by omega]
theorem sRigs_no {tx : Nat → Int} {L s : Int} {nl : Nat} {d : GD} (h6 : nl ≤ 6) (hw : wrd tx L s ≠ wRIGHT) : sRigs tx L (6 + 1 - nl) s nl d = (0, s, d, nl) := by
  obtain ⟨f, hf⟩ : ∃ f, 6 + 1 - nl = f + 1 := ⟨6 - nl, by omega⟩
  rw [hf]
  unfold sRigs
  rw [if_neg hw]
theorem sRigs_full {tx : Nat → Int} {L s : Int} {nl : Nat} {d : GD} (h6 : nl = 6) (hw : wrd tx L s = wRIGHT) : sRigs tx L (6 + 1 - nl) s nl d = (3, s, d, nl) := by
  obtain ⟨f, hf⟩ : ∃ f, 6 + 1 - nl = f + 1 := ⟨6 - nl, by omega⟩
  rw [hf]
  unfold sRigs
  rw [if_pos hw, if_pos h6]
theorem sRigs_bad {tx : Nat → Int} {L s : Int} {nl : Nat} {d : GD} (h6 : nl < 6) (hw : wrd tx L s = wRIGHT) (hn : (sRig tx L (nxs tx L s) nl d).1 ≠ 0) : (sRigs tx L (6 + 1 - nl) s nl d).1 = (sRig tx L (nxs tx L s) nl d).1 ∧ (sRigs tx L (6 + 1 - nl) s nl d).2.1 = (sRig tx L (nxs tx L s) nl d).2.1 := by
  obtain ⟨f, hf⟩ : ∃ f, 6 + 1 - nl = f + 1 := ⟨6 - nl, by omega⟩
  rw [hf]
  unfold sRigs
  simp only [hw, hn, show ¬ nl = 6 by omega, ne_eq, not_true_eq_false, not_false_eq_true, ↓reduceIte, and_self, Bool.true_eq_false, Bool.false_eq_true]
theorem sRigs_go {tx : Nat → Int} {L s : Int} {nl : Nat} {d : GD} (h6 : nl < 6) (hw : wrd tx L s = wRIGHT) {s2 : Int} {d2 : GD} (hr : sRig tx L (nxs tx L s) nl d = (0, s2, d2)) : sRigs tx L (6 + 1 - nl) s nl d = sRigs tx L (6 + 1 - (nl + 1)) s2 (nl + 1) d2 := by
  obtain ⟨f, hf⟩ : ∃ f, 6 + 1 - nl = f + 1 := ⟨6 - nl, by omega⟩
  rw [hf, rgs_go hw (by omega) (by rw [hr]), hr, show 6 + 1 - (nl + 1) = f by omega]
theorem sDems_no {tx : Nat → Int} {L s : Int} {f : Nat} {d : GD} (hw : wrd tx L s ≠ wDEMAND) : sDems tx L f s d = (0, s, d) := by
  cases f with
  | zero => rfl
  | succ f =>
    unfold sDems
    rw [if_neg hw]
theorem sDems_bad {tx : Nat → Int} {L s : Int} {f : Nat} {d : GD} (hw : wrd tx L s = wDEMAND) (hn : (sDem tx L (nxs tx L s) d).1 ≠ 0) : (sDems tx L (f + 1) s d).1 = (sDem tx L (nxs tx L s) d).1 ∧ (sDems tx L (f + 1) s d).2.1 = (sDem tx L (nxs tx L s) d).2.1 := by
  unfold sDems
  simp only [hw, hn, ne_eq, not_true_eq_false, not_false_eq_true, ↓reduceIte, and_self, Bool.true_eq_false, Bool.false_eq_true]
theorem sDems_go {tx : Nat → Int} {L s : Int} {f : Nat} {d : GD} (hw : wrd tx L s = wDEMAND) {s2 : Int} {d2 : GD} (hr : sDem tx L (nxs tx L s) d = (0, s2, d2)) : sDems tx L (f + 1) s d = sDems tx L f s2 d2 := by
  rw [dms_go hw (by rw [hr]), hr]

