/-! The reference's rows, by their meaning. -/
def Mem (N : Nat) (b : Nat → Nat) (q : Nat) : Prop := ∃ x, x < N ∧ b x = q
def frow (F : Nat → Nat → Int) (i : Nat) : I3 := (F i 1, F i 2, F i 3)
def Pl (N ng : Nat) (F : Nat → Nat → Int) (a : I3) : Prop := (∃ i, ng ≤ i ∧ i + 1 < N ∧ a = frow F i) ∨ a = (1, 0, 0) ∨ a = (0, 1, 0) ∨ a = (0, 0, 1) ∨ a = (1, 1, 1)
def PlOK (N ng lam : Nat) (F : Nat → Nat → Int) : Prop :=
  (∀ a b c, Pl N ng F a → Pl N ng F b → Pl N ng F c → (d3 a b c).natAbs * lam ≤ 17576 ∧ (d3 a b c).natAbs ≤ 256) ∧
  (∀ a b, Pl N ng F a → Pl N ng F b → (m2 a.2.1 a.2.2 b.2.1 b.2.2).natAbs ≤ 52 ∧ (m2 a.1 a.2.2 b.1 b.2.2).natAbs ≤ 52 ∧ (m2 a.1 a.2.1 b.1 b.2.1).natAbs ≤ 52)
def Sys (N ng : Nat) (nd : Nat → Nat) (F : Nat → Nat → Int) (tau : Nat → Nat) (sg sd : Nat → Rat) (lam : Nat) (cost : Nat → Int) (T0 G0 : Nat → Nat → Rat) (b0 : Nat → Nat) : Prop :=
  (ng ≤ 5 ∧ ng < N ∧ N ≤ 28 ∧ 0 < lam) ∧ (∀ g, g < ng → nd g < 4) ∧ (∀ i, F i 0 = 0) ∧ (∀ i, 0 < tau i ∧ tau i ≤ 16 ∧ tau i ∣ lam) ∧ (∀ i n, (F i n).natAbs ≤ tau i) ∧
  (∀ i, ng ≤ i → i + 1 < N → (sg i = 1 ∧ b0 i = 5 + i) ∨ (sg i = -1 ∧ b0 i = 100 + i)) ∧ (∀ i, i < ng → b0 i = 5 + i) ∧ b0 (N - 1) = 100 + (N - 1) ∧
  (∀ v i, i < ng → rowv T0 b0 v i = v i + v (5 + i) + sd i * v 34) ∧
  (∀ v i, ng ≤ i → i + 1 < N → rowv T0 b0 v i = smq (fun g => (F i (nd g) : Rat) * v g) ng / (tau i : Rat) + sg i * v (5 + i) + sd i * v 34 + (if 100 ≤ b0 i then v (b0 i) else 0)) ∧
  (∀ v, rowv T0 b0 v (N - 1) = smq (fun g => v g) ng + sd (N - 1) * v 34 + v (100 + (N - 1))) ∧
  (∀ i, IsI ((tau i : Rat) * sd i)) ∧ (∀ i, i < ng → tau i = 1) ∧ tau (N - 1) = 1 ∧ (∀ i, 0 ≤ sd i ∧ sd i ≤ 101000) ∧ (∀ i, i < ng → sd i ≤ 200) ∧ (∀ i, 100 ≤ b0 i → sd i ≤ 1000) ∧
  (∀ v, gol G0 v 0 = -smq (fun i => if 100 ≤ b0 i then rowv T0 b0 v i - v (b0 i) else 0) N) ∧ (∀ v, gol G0 v 1 = smq (fun g => (cost g : Rat) * v g) ng) ∧ (∀ v k, 2 ≤ k → k < 7 → gol G0 v k = if k - 2 < ng then v (k - 2) else 0) ∧
  (∀ g, 0 ≤ cost g ∧ cost g ≤ 99) ∧ PlOK N ng lam F
section SYS
variable {N ng lam : Nat} {nd : Nat → Nat} {F : Nat → Nat → Int} {tau : Nat → Nat} {sg sd : Nat → Rat} {cost : Nat → Int} {T0 G0 T G : Nat → Nat → Rat} {b0 b : Nat → Nat}
/-- a vector of the rows' kernel whose columns are all members, is 0 at them -/
theorem sy_ker (hS : Sys N ng nd F tau sg sd lam cost T0 G0 b0) (hR : RI N T0 G0 b0 T G b) {v : Nat → Rat} (hm : ∀ q, v q ≠ 0 → Mem N b q) (hc : ∀ i, i < ng → v i + v (5 + i) = 0) (hf : ∀ i, ng ≤ i → i + 1 < N → smq (fun g => (F i (nd g) : Rat) * v g) ng / (tau i : Rat) + sg i * v (5 + i) + (if 100 ≤ b0 i then v (b0 i) else 0) = 0) (hb : smq (fun g => v g) ng + v (100 + (N - 1)) = 0) : ∀ q, v q = 0 := by
  obtain ⟨⟨k1, k2, k3, k4⟩, kn, kF0, kt, kF, kg, kb, kb1, kc, kf, kl, -⟩ := hS
  have h34 : v 34 = 0 := Classical.byContradiction (fun q => by
    obtain ⟨x, hx, e⟩ := hm 34 q
    have := hR.1.1 x hx
    omega)
  have hrow : ∀ i, i < N → rowv T0 b0 v i = 0 := by
    intro i hi
    by_cases c1 : i < ng
    · rw [kc v i c1, h34]
      have := hc i c1
      grind
    · by_cases c2 : i + 1 < N
      · rw [kf v i (by omega) c2, h34]
        have := hf i (by omega) c2
        grind
      · obtain rfl : i = N - 1 := by omega
        rw [kl v, h34]
        grind
  have hz := hR.unique (v := v) (fun m _ _ hn => Classical.byContradiction (fun q => by obtain ⟨x, hx, e⟩ := hm m q; exact hn x hx e)) hrow (fun q _ hn => Classical.byContradiction (fun z => by obtain ⟨x, hx, e⟩ := hm q z; exact hn x hx e))
  intro q
  refine Classical.byContradiction (fun z => ?_)
  obtain ⟨x, hx, e⟩ := hm q z
  exact z (by rw [← e]; exact hz x hx)
def one1 (a : Nat) (q : Nat) : Rat := if q = a then 1 else 0
theorem one1_at {a : Nat} : one1 a a = 1 := if_pos rfl
theorem one1_ne {a q : Nat} (h : q ≠ a) : one1 a q = 0 := if_neg h
theorem sm_one {f : Nat → Rat} {j n : Nat} (h : ∀ i, i < n → i ≠ j → f i = 0) : smq f n = if j < n then f j else 0 := by
  have := smq_single f j n
  rw [← this]
  exact smq_cong (fun i hi => by
    by_cases q : j = i
    · rw [if_pos q]
    · rw [if_neg q, h i hi (fun z => q z.symm)])
/-- members are columns that stand for something -/
theorem sy_used (hS : Sys N ng nd F tau sg sd lam cost T0 G0 b0) (hR : RI N T0 G0 b0 T G b) {q : Nat} (hq : Mem N b q) (h34 : q < 34) : q < ng ∨ (5 ≤ q ∧ q < 5 + (N - 1)) := by
  refine Classical.byContradiction (fun hno => ?_)
  obtain ⟨k1, k2, k3, k4⟩ := hS.1
  have hng : ¬ q < ng := fun z => hno (Or.inl z)
  have hn2 : ¬ (5 ≤ q ∧ q < 5 + (N - 1)) := fun z => hno (Or.inr z)
  have h := sy_ker hS hR (v := one1 q) (fun r hr => by
    by_cases e : r = q
    · rw [e]; exact hq
    · exact absurd (one1_ne e) hr) (fun i hi => by rw [one1_ne (by omega), one1_ne (by omega)]; grind) (fun i hi1 hi2 => by
      rw [smq_zero (fun g hg => by rw [one1_ne (by omega)]; grind), one1_ne (by omega)]
      have : (if 100 ≤ b0 i then one1 q (b0 i) else 0) = 0 := by
        split
        · exact one1_ne (by omega)
        · rfl
      rw [this, Rat.div_def]; grind) (by rw [smq_zero (fun g hg => one1_ne (by omega)), one1_ne (by omega)]; grind) q
  rw [one1_at] at h
  exact absurd h (by decide)
/-- slack and missing of one row are not both members -/
theorem sy_both (hS : Sys N ng nd F tau sg sd lam cost T0 G0 b0) (hR : RI N T0 G0 b0 T G b) {i : Nat} (h1 : ng ≤ i) (h2 : i + 1 < N) (hm : sg i = -1) : ¬ (Mem N b (5 + i) ∧ Mem N b (100 + i)) := by
  rintro ⟨m1, m2⟩
  obtain ⟨k1, k2, k3, k4⟩ := hS.1
  have kg := hS.2.2.2.2.2.1
  have hbi : ∀ j, ng ≤ j → j + 1 < N → 100 ≤ b0 j → b0 j = 100 + j := fun j a1 a2 a3 => by
    rcases kg j a1 a2 with z | z
    · omega
    · exact z.2
  have hb0 : b0 i = 100 + i := by
    rcases kg i h1 h2 with z | z
    · rw [hm] at z; exact absurd z.1 (by decide)
    · exact z.2
  have h := sy_ker hS hR (v := fun q => one1 (5 + i) q + one1 (100 + i) q) (fun r hr => by
    by_cases e : r = 5 + i
    · rw [e]; exact m1
    · by_cases e2 : r = 100 + i
      · rw [e2]; exact m2
      · exact absurd (show one1 (5 + i) r + one1 (100 + i) r = 0 by rw [one1_ne e, one1_ne e2]; grind) hr) (fun j hj => by
      show (one1 (5 + i) j + one1 (100 + i) j) + (one1 (5 + i) (5 + j) + one1 (100 + i) (5 + j)) = 0
      rw [one1_ne (by omega), one1_ne (by omega), one1_ne (by omega), one1_ne (by omega)]; grind) (fun j hj1 hj2 => by
      show smq (fun g => (F j (nd g) : Rat) * (one1 (5 + i) g + one1 (100 + i) g)) ng / (tau j : Rat) + sg j * (one1 (5 + i) (5 + j) + one1 (100 + i) (5 + j)) + (if 100 ≤ b0 j then one1 (5 + i) (b0 j) + one1 (100 + i) (b0 j) else 0) = 0
      rw [smq_zero (fun g hg => by rw [one1_ne (by omega), one1_ne (by omega)]; grind), Rat.div_def]
      by_cases e : j = i
      · subst e
        rw [one1_at, one1_ne (by omega), hb0, if_pos (by omega), one1_at, one1_ne (by omega), hm]; grind
      · rw [one1_ne (by omega), one1_ne (by omega)]
        have : (if 100 ≤ b0 j then one1 (5 + i) (b0 j) + one1 (100 + i) (b0 j) else 0) = 0 := by
          split
          · rename_i z
            have := hbi j hj1 hj2 z
            rw [one1_ne (by omega), one1_ne (by omega)]; grind
          · rfl
        rw [this]; grind) (by
      show smq (fun g => one1 (5 + i) g + one1 (100 + i) g) ng + (one1 (5 + i) (100 + (N - 1)) + one1 (100 + i) (100 + (N - 1))) = 0
      rw [smq_zero (fun g hg => by rw [one1_ne (by omega), one1_ne (by omega)]; grind), one1_ne (by omega), one1_ne (by omega)]; grind) (5 + i)
  have h : one1 (5 + i) (5 + i) + one1 (100 + i) (5 + i) = 0 := h
  rw [one1_at, one1_ne (by omega)] at h
  grind
def Tight (N : Nat) (b0 b : Nat → Nat) (i : Nat) : Prop := ¬ Mem N b (5 + i) ∧ ¬ (b0 i = 100 + i ∧ Mem N b (100 + i))
/-- outputs that are free, within all tight rows, are 0 -/
theorem sy_free (hS : Sys N ng nd F tau sg sd lam cost T0 G0 b0) (hR : RI N T0 G0 b0 T G b) {u : Nat → Rat} (hu : ∀ g, g < ng → u g ≠ 0 → Mem N b g ∧ Mem N b (5 + g)) (ht : ∀ i, ng ≤ i → i + 1 < N → Tight N b0 b i → smq (fun g => (F i (nd g) : Rat) * u g) ng = 0) (hb : ¬ Mem N b (100 + (N - 1)) → smq u ng = 0) : ∀ g, g < ng → u g = 0 := by
  obtain ⟨k1, k2, k3, k4⟩ := hS.1
  have kg := hS.2.2.2.2.2.1
  obtain ⟨mB, hmB⟩ : ∃ mB : Nat → Bool, ∀ q, mB q = true ↔ Mem N b q := ⟨fun q => @decide (Mem N b q) (Classical.propDecidable _), fun q => by simp⟩
  obtain ⟨Ph, hPh⟩ : ∃ Ph : Nat → Rat, ∀ i, Ph i = smq (fun g => (F i (nd g) : Rat) * u g) ng / (tau i : Rat) := ⟨_, fun _ => rfl⟩
  obtain ⟨v, hv⟩ : ∃ v : Nat → Rat, ∀ q, v q = if q < ng then u q else if 5 ≤ q ∧ q < 5 + ng then -u (q - 5) else if 5 + ng ≤ q ∧ q < 5 + (N - 1) then (if mB q then -(sg (q - 5) * Ph (q - 5)) else 0) else if 100 + ng ≤ q ∧ q < 100 + (N - 1) then (if mB (q - 95) then 0 else if b0 (q - 100) = q then -Ph (q - 100) else 0) else if q = 100 + (N - 1) then -smq u ng else 0 := ⟨_, fun _ => rfl⟩
  have hvg : ∀ g, g < ng → v g = u g := fun g hg => by rw [hv, if_pos hg]
  have hvs : ∀ g, g < ng → v (5 + g) = -u g := fun g hg => by
    rw [hv, if_neg (by omega), if_pos (by omega), show 5 + g - 5 = g by omega]
  have hvf : ∀ i, ng ≤ i → i + 1 < N → v (5 + i) = if mB (5 + i) then -(sg i * Ph i) else 0 := fun i h1 h2 => by
    rw [hv, if_neg (by omega), if_neg (by omega), if_pos (by omega), show 5 + i - 5 = i by omega]
  have hvm : ∀ i, ng ≤ i → i + 1 < N → v (100 + i) = if mB (5 + i) then 0 else if b0 i = 100 + i then -Ph i else 0 := fun i h1 h2 => by
    rw [hv, if_neg (by omega), if_neg (by omega), if_neg (by omega), if_pos (by omega), show 100 + i - 100 = i by omega, show 100 + i - 95 = 5 + i by omega]
  have hvb : v (100 + (N - 1)) = -smq u ng := by
    rw [hv, if_neg (by omega), if_neg (by omega), if_neg (by omega), if_neg (by omega), if_pos rfl]
  have hF : ∀ i, smq (fun g => (F i (nd g) : Rat) * v g) ng / (tau i : Rat) = Ph i := fun i => by
    rw [hPh]
    rw [smq_cong (g := fun g => (F i (nd g) : Rat) * u g) (fun g hg => by rw [hvg g hg])]
  have hz := sy_ker hS hR (v := v) (fun q hq => by
    rw [hv] at hq
    by_cases c1 : q < ng
    · rw [if_pos c1] at hq
      exact (hu q c1 hq).1
    · rw [if_neg c1] at hq
      by_cases c2 : 5 ≤ q ∧ q < 5 + ng
      · rw [if_pos c2] at hq
        have := (hu (q - 5) (by omega) (fun z => hq (by rw [z]; grind))).2
        rwa [show 5 + (q - 5) = q by omega] at this
      · rw [if_neg c2] at hq
        by_cases c3 : 5 + ng ≤ q ∧ q < 5 + (N - 1)
        · rw [if_pos c3] at hq
          by_cases c4 : mB q = true
          · exact (hmB q).mp c4
          · rw [if_neg c4] at hq
            exact absurd rfl hq
        · rw [if_neg c3] at hq
          by_cases c4 : 100 + ng ≤ q ∧ q < 100 + (N - 1)
          · rw [if_pos c4] at hq
            by_cases c5 : mB (q - 95) = true
            · rw [if_pos c5] at hq
              exact absurd rfl hq
            · rw [if_neg c5] at hq
              by_cases c6 : b0 (q - 100) = q
              · rw [if_pos c6] at hq
                refine Classical.byContradiction (fun hn => hq ?_)
                have : Tight N b0 b (q - 100) := ⟨fun z => c5 ((hmB _).mpr (by rwa [show 5 + (q - 100) = q - 95 by omega] at z)), fun z => hn (by rw [show 100 + (q - 100) = q by omega] at z; exact z.2)⟩
                rw [hPh, ht (q - 100) (by omega) (by omega) this, Rat.div_def]; grind
              · rw [if_neg c6] at hq
                exact absurd rfl hq
          · rw [if_neg c4] at hq
            by_cases c5 : q = 100 + (N - 1)
            · rw [if_pos c5] at hq
              refine Classical.byContradiction (fun hn => hq ?_)
              rw [hb (by rw [← c5]; exact hn)]; grind
            · rw [if_neg c5] at hq
              exact absurd rfl hq) (fun i hi => by rw [hvg i hi, hvs i hi]; grind) (fun i h1 h2 => by
    rw [hF, hvf i h1 h2]
    by_cases c1 : mB (5 + i) = true
    · rw [if_pos c1]
      have e : (if 100 ≤ b0 i then v (b0 i) else 0) = 0 := by
        split
        · rcases kg i h1 h2 with z | z
          · omega
          · rw [z.2, hvm i h1 h2, if_pos c1]
        · rfl
      rw [e]
      rcases kg i h1 h2 with z | z
      · rw [z.1]; grind
      · rw [z.1]; grind
    · rw [if_neg c1]
      rcases kg i h1 h2 with z | z
      · rw [z.2, if_neg (by omega), hPh, ht i h1 h2 ⟨fun y => c1 ((hmB _).mpr y), fun y => by omega⟩, Rat.div_def]; grind
      · rw [z.2, if_pos (by omega), hvm i h1 h2, if_neg c1, if_pos z.2]; grind) (by
    rw [hvb, smq_cong (g := u) (fun g hg => hvg g hg)]; grind)
  intro g hg
  rw [← hvg g hg]
  exact hz g
/-- free outputs stand at nodes of their own -/
theorem sy_two (hS : Sys N ng nd F tau sg sd lam cost T0 G0 b0) (hR : RI N T0 G0 b0 T G b) {g h : Nat} (hg : g < ng) (hh : h < ng) (m1 : Mem N b g ∧ Mem N b (5 + g)) (m2 : Mem N b h ∧ Mem N b (5 + h)) (hn : nd g = nd h) : g = h := by
  refine Classical.byContradiction (fun hne => ?_)
  have e1 : ∀ f : Nat → Rat, smq (fun q => f q * (one1 g q + -one1 h q)) ng = f g - f h := fun f => by
    have a1 := smq_add (fun q => f q * one1 g q) (fun q => f q * -one1 h q) ng
    rw [smq_cong (g := fun q => f q * one1 g q + f q * -one1 h q) (fun q _ => by grind), a1, sm_one (j := g) (fun i _ z => by rw [one1_ne z]; grind), sm_one (f := fun q => f q * -one1 h q) (j := h) (fun i _ z => by rw [one1_ne z]; grind), if_pos hg, if_pos hh, one1_at, one1_at]; grind
  have hz := sy_free hS hR (u := fun q => one1 g q + -one1 h q) (fun q _ hq => by
    by_cases c1 : q = g
    · rw [c1]; exact m1
    · by_cases c2 : q = h
      · rw [c2]; exact m2
      · exact absurd (show one1 g q + -one1 h q = 0 by rw [one1_ne c1, one1_ne c2]; grind) hq) (fun i _ _ _ => by
    rw [e1 (fun q => (F i (nd q) : Rat)), hn]; grind) (fun _ => by
    have := e1 (fun _ => 1)
    rw [smq_cong (g := fun q => 1 * (one1 g q + -one1 h q)) (fun q _ => by grind), this]; grind) g hg
  have hz : one1 g g + -one1 h g = 0 := hz
  rw [one1_at, one1_ne hne] at hz
  grind
/-- a free output at node 0: the balance is tight -/
theorem sy_zero (hS : Sys N ng nd F tau sg sd lam cost T0 G0 b0) (hR : RI N T0 G0 b0 T G b) {g : Nat} (hg : g < ng) (m1 : Mem N b g ∧ Mem N b (5 + g)) (hn : nd g = 0) : ¬ Mem N b (100 + (N - 1)) := by
  intro hM
  have hz := sy_free hS hR (u := one1 g) (fun q _ hq => by
    by_cases c1 : q = g
    · rw [c1]; exact m1
    · exact absurd (one1_ne c1) hq) (fun i _ _ _ => by
    rw [sm_one (j := g) (fun q _ z => by rw [one1_ne z]; grind), if_pos hg, hn, hS.2.2.1 i, Rat.intCast_zero]; grind) (fun z => absurd hM z) g hg
  rw [one1_at] at hz
  exact absurd hz (by decide)
end SYS
