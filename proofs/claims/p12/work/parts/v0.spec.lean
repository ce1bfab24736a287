/-! What a text says: tokens, numbers, words, as functions of the text; places are whole numbers, L is the text's length. -/
def skp (T : Nat → Int) (L A : Int) : Int := if _h : A < L ∧ (T A.toNat = 32 ∨ T A.toNat = 10) then skp T L (A + 1) else A
termination_by (L - A).toNat
decreasing_by omega
def rnn (T : Nat → Int) (L lo hi A : Int) : Int := if _h : A < L ∧ lo ≤ T A.toNat ∧ T A.toNat ≤ hi then rnn T L lo hi (A + 1) else A
termination_by (L - A).toNat
decreasing_by omega
section SPEC
variable {T : Nat → Int} {L A lo hi : Int}
theorem skp_go (h1 : A < L) (h2 : T A.toNat = 32 ∨ T A.toNat = 10) : skp T L A = skp T L (A + 1) := by
  rw [skp]
  exact dif_pos ⟨h1, h2⟩
theorem skp_no (h : ¬ (A < L ∧ (T A.toNat = 32 ∨ T A.toNat = 10))) : skp T L A = A := by
  rw [skp]
  exact dif_neg h
theorem rnn_go (h1 : A < L) (h2 : lo ≤ T A.toNat) (h3 : T A.toNat ≤ hi) : rnn T L lo hi A = rnn T L lo hi (A + 1) := by
  rw [rnn]
  exact dif_pos ⟨h1, h2, h3⟩
theorem rnn_no (h : ¬ (A < L ∧ lo ≤ T A.toNat ∧ T A.toNat ≤ hi)) : rnn T L lo hi A = A := by
  rw [rnn]
  exact dif_neg h
theorem skp_all : ∀ (n : Nat) (A : Int), (L - A).toNat ≤ n → A ≤ skp T L A ∧ (A ≤ L → skp T L A ≤ L) ∧ ¬ (skp T L A < L ∧ (T (skp T L A).toNat = 32 ∨ T (skp T L A).toNat = 10)) := by
  intro n
  induction n with
  | zero =>
    intro A hA
    rw [skp_no (by omega)]
    exact ⟨by omega, by omega, by omega⟩
  | succ n ih =>
    intro A hA
    by_cases h : A < L ∧ (T A.toNat = 32 ∨ T A.toNat = 10)
    · rw [skp_go h.1 h.2]
      obtain ⟨h1, h2, h3⟩ := ih (A + 1) (by omega)
      exact ⟨by omega, fun _ => h2 (by omega), h3⟩
    · rw [skp_no h]
      exact ⟨by omega, by omega, h⟩
theorem skp_ge : A ≤ skp T L A := (skp_all _ A (Nat.le_refl _)).1
theorem skp_le (h : A ≤ L) : skp T L A ≤ L := (skp_all _ A (Nat.le_refl _)).2.1 h
theorem skp_id : skp T L (skp T L A) = skp T L A := skp_no (skp_all _ A (Nat.le_refl _)).2.2
theorem rnn_all : ∀ (n : Nat) (A : Int), (L - A).toNat ≤ n → A ≤ rnn T L lo hi A ∧ (A ≤ L → rnn T L lo hi A ≤ L) ∧ ¬ (rnn T L lo hi A < L ∧ lo ≤ T (rnn T L lo hi A).toNat ∧ T (rnn T L lo hi A).toNat ≤ hi) ∧ ∀ j : Int, A ≤ j → j < rnn T L lo hi A → j < L ∧ lo ≤ T j.toNat ∧ T j.toNat ≤ hi := by
  intro n
  induction n with
  | zero =>
    intro A hA
    rw [rnn_no (by omega)]
    exact ⟨by omega, by omega, by omega, fun j _ _ => by omega⟩
  | succ n ih =>
    intro A hA
    by_cases h : A < L ∧ lo ≤ T A.toNat ∧ T A.toNat ≤ hi
    · rw [rnn_go h.1 h.2.1 h.2.2]
      obtain ⟨h1, h2, h3, h4⟩ := ih (A + 1) (by omega)
      refine ⟨by omega, fun _ => h2 (by omega), h3, fun j a b => ?_⟩
      by_cases q : j = A
      · rw [q]; exact h
      · exact h4 j (by omega) b
    · rw [rnn_no h]
      exact ⟨by omega, by omega, h, fun j _ _ => by omega⟩
theorem rnn_ge : A ≤ rnn T L lo hi A := (rnn_all _ A (Nat.le_refl _)).1
theorem rnn_le (h : A ≤ L) : rnn T L lo hi A ≤ L := (rnn_all _ A (Nat.le_refl _)).2.1 h
theorem rnn_in {j : Int} (h1 : A ≤ j) (h2 : j < rnn T L lo hi A) : j < L ∧ lo ≤ T j.toNat ∧ T j.toNat ≤ hi := (rnn_all _ A (Nat.le_refl _)).2.2.2 j h1 h2
theorem rnn_gt (h1 : A < L) (h2 : lo ≤ T A.toNat) (h3 : T A.toNat ≤ hi) : A < rnn T L lo hi A := by
  rw [rnn_go h1 h2 h3]
  have := rnn_ge (T := T) (L := L) (lo := lo) (hi := hi) (A := A + 1)
  omega
theorem rnn_eq (h : ¬ (A < L ∧ lo ≤ T A.toNat ∧ T A.toNat ≤ hi)) : rnn T L lo hi A = A := rnn_no h
end SPEC
/-- the kind of the token that starts at s: 0 word, 1 number, 2 semicolon, 3 the end, 4 none -/
def tkK (T : Nat → Int) (L s : Int) : Int := if L ≤ s then 3 else if 97 ≤ T s.toNat ∧ T s.toNat ≤ 122 then 0 else if 48 ≤ T s.toNat ∧ T s.toNat ≤ 57 then (if rnn T L 48 57 s - s ≤ 4 then 1 else 4) else if T s.toNat = 59 then 2 else 4
/-- its end -/
def tkE (T : Nat → Int) (L s : Int) : Int := if L ≤ s then s else if 97 ≤ T s.toNat ∧ T s.toNat ≤ 122 then rnn T L 97 122 s else if 48 ≤ T s.toNat ∧ T s.toNat ≤ 57 then rnn T L 48 57 s else s + 1
/-- the start of the next one -/
def nxs (T : Nat → Int) (L s : Int) : Int := skp T L (tkE T L s)
/-- the number of k digits from s on -/
def vlN (T : Nat → Int) (s : Int) : Nat → Int
  | 0 => 0
  | k + 1 => 10 * vlN T s k + (T (s.toNat + k) - 48)
def vlT (T : Nat → Int) (L s : Int) : Int := vlN T s (rnn T L 48 57 s - s).toNat
/-- a word of k letters as a number -/
def wvN (T : Nat → Int) (s : Nat) : Nat → Int
  | 0 => 0
  | k + 1 => 27 * wvN T s k + (T (s + k) - 96)
def wrd (T : Nat → Int) (L s : Int) : Int := if rnn T L 97 122 s - s ≤ 9 then wvN T s.toNat (rnn T L 97 122 s - s).toNat else -1
theorem wvN_pos {T : Nat → Int} {s : Nat} : ∀ {k : Nat}, (∀ i, i < k → 97 ≤ T (s + i) ∧ T (s + i) ≤ 122) → 0 ≤ wvN T s k ∧ (0 < k → 1 ≤ wvN T s k)
  | 0, _ => ⟨Int.le_refl _, fun h => absurd h (Nat.lt_irrefl _)⟩
  | k + 1, h => by
    have := (wvN_pos (k := k) fun i hi => h i (by omega)).1
    have q := h k (by omega)
    show 0 ≤ 27 * wvN T s k + (T (s + k) - 96) ∧ _
    exact ⟨by omega, fun _ => by show 1 ≤ 27 * wvN T s k + (T (s + k) - 96); omega⟩
/-- words that are one number are one word -/
theorem wvN_inj {T U : Nat → Int} {s t : Nat} : ∀ {k m : Nat}, (∀ i, i < k → 97 ≤ T (s + i) ∧ T (s + i) ≤ 122) → (∀ i, i < m → 97 ≤ U (t + i) ∧ U (t + i) ≤ 122) → wvN T s k = wvN U t m → k = m ∧ ∀ i, i < k → T (s + i) = U (t + i)
  | 0, 0, _, _, _ => ⟨rfl, fun i hi => absurd hi (Nat.not_lt_zero i)⟩
  | 0, m + 1, _, hU, e => by
    have := (wvN_pos hU).2 (by omega)
    rw [← e] at this
    exact absurd this (by show ¬ (1 : Int) ≤ 0; decide)
  | k + 1, 0, hT, _, e => by
    have := (wvN_pos hT).2 (by omega)
    rw [e] at this
    exact absurd this (by show ¬ (1 : Int) ≤ 0; decide)
  | k + 1, m + 1, hT, hU, e => by
    have q1 := hT k (by omega)
    have q2 := hU m (by omega)
    have e : 27 * wvN T s k + (T (s + k) - 96) = 27 * wvN U t m + (U (t + m) - 96) := e
    have e1 : T (s + k) = U (t + m) := by omega
    obtain ⟨e2, e3⟩ := wvN_inj (k := k) (m := m) (fun i hi => hT i (by omega)) (fun i hi => hU i (by omega)) (by omega)
    subst e2
    refine ⟨rfl, fun i hi => ?_⟩
    by_cases q : i = k
    · rw [q]; exact e1
    · exact e3 i (by omega)
theorem wvN_cong {T U : Nat → Int} {s t : Nat} : ∀ {k : Nat}, (∀ i, i < k → T (s + i) = U (t + i)) → wvN T s k = wvN U t k
  | 0, _ => rfl
  | k + 1, h => by
    show 27 * wvN T s k + (T (s + k) - 96) = 27 * wvN U t k + (U (t + k) - 96)
    rw [wvN_cong (k := k) fun i hi => h i (by omega), h k (by omega)]
/-- the token at s is the word w -/
def isWd (T : Nat → Int) (L s : Int) (w : List Int) : Prop := rnn T L 97 122 s - s = (w.length : Int) ∧ ∀ i, i < w.length → T (s.toNat + i) = w.getD i 0
def lets (w : List Int) : Bool := decide (w.length ≤ 9) && w.all fun c => decide (97 ≤ c ∧ c ≤ 122)
theorem lets_at {w : List Int} (h : lets w = true) : w.length ≤ 9 ∧ ∀ i, i < w.length → 97 ≤ w.getD (0 + i) 0 ∧ w.getD (0 + i) 0 ≤ 122 := by
  unfold lets at h
  rw [Bool.and_eq_true] at h
  refine ⟨of_decide_eq_true h.1, fun i hi => ?_⟩
  have hm : w.getD (0 + i) 0 ∈ w := by
    rw [Nat.zero_add, List.getD_eq_getElem?_getD, List.getElem?_eq_getElem hi]
    exact List.getElem_mem _
  exact of_decide_eq_true (List.all_eq_true.mp h.2 _ hm)
theorem isWd_iff {T : Nat → Int} {L s : Int} {w : List Int} (hs : 0 ≤ s) (hw : lets w = true) : isWd T L s w ↔ wrd T L s = wvN (fun i => w.getD i 0) 0 w.length := by
  obtain ⟨h9, hl⟩ := lets_at hw
  have hge := rnn_ge (T := T) (L := L) (lo := 97) (hi := 122) (A := s)
  have hT : ∀ i, i < (rnn T L 97 122 s - s).toNat → 97 ≤ T (s.toNat + i) ∧ T (s.toNat + i) ≤ 122 := fun i hi => by
    have := (rnn_in (T := T) (L := L) (lo := 97) (hi := 122) (A := s) (j := s + i) (by omega) (by omega)).2
    rw [show (s + (i : Int)).toNat = s.toNat + i by omega] at this
    exact this
  constructor
  · rintro ⟨e1, e2⟩
    unfold wrd
    rw [if_pos (by omega), show (rnn T L 97 122 s - s).toNat = w.length by omega]
    exact wvN_cong fun i hi => by rw [Nat.zero_add]; exact e2 i hi
  · intro e
    unfold wrd at e
    by_cases q : rnn T L 97 122 s - s ≤ 9
    · rw [if_pos q] at e
      obtain ⟨e1, e2⟩ := wvN_inj hT (fun i hi => hl i hi) e
      refine ⟨by omega, fun i hi => ?_⟩
      have := e2 i (by omega)
      rw [Nat.zero_add] at this
      exact this
    · rw [if_neg q] at e
      have := (wvN_pos (T := fun i => w.getD i 0) (s := 0) (k := w.length) fun i hi => hl i hi).1
      omega
