/-! What a text says: the grid, or the first error (code, place). Results: code (0: none), the next token's start or the error's place, and what was read. -/
abbrev GD : Type := (Nat → Int) × (Nat → Int)
def sNum (T : Nat → Int) (L lo hi s : Int) : Int × Int × Int := if tkK T L s = 1 then (if lo ≤ vlT T L s ∧ vlT T L s ≤ hi then (0, nxs T L s, vlT T L s) else (2, s, 0)) else (1, s, 0)
def sOth (T : Nat → Int) (L k a s : Int) : Int × Int × Int := if (sNum T L 0 k s).1 = 0 ∧ (sNum T L 0 k s).2.2 = a then (2, s, 0) else sNum T L 0 k s
def sSem (T : Nat → Int) (L s : Int) : Int × Int := if tkK T L s = 2 then (0, nxs T L s) else (1, s)
def sWrd (T : Nat → Int) (L c s : Int) : Int × Int := if wrd T L s = c then (0, nxs T L s) else (1, s)
def wNODES : Int := 7738489
def wINTERVALS : Int := 2696140927522
def wLINE : Int := 243140
def wEMERGENCY : Int := 1550331485629
def wGENERATOR : Int := 2034813753387
def wDEMAND : Int := 60309823
def wRIGHT : Int := 9748424
def wOUTAGE : Int := 226788449
noncomputable def conB (fv : Nat → Int) (nl : Nat) (z : Int) (n : Nat) : Bool := @decide (CutOK fv nl z n) (Classical.propDecidable _)
theorem conB_t {fv : Nat → Int} {nl n : Nat} {z : Int} : conB fv nl z n = true ↔ CutOK fv nl z n := by
  unfold conB
  exact @decide_eq_true_iff _ (Classical.propDecidable _)
/-- a line, behind its word -/
def sLine (T : Nat → Int) (L s : Int) (nl : Nat) (d : GD) : Int × Int × GD :=
  let r1 := sNum T L 0 (d.1 0 - 1) s
  if r1.1 ≠ 0 then (r1.1, r1.2.1, d) else
  let r2 := sOth T L (d.1 0 - 1) r1.2.2 r1.2.1
  if r2.1 ≠ 0 then (r2.1, r2.2.1, d) else
  let r3 := sNum T L 1 200 r2.2.1
  if r3.1 ≠ 0 then (r3.1, r3.2.1, d) else
  let r4 := if wrd T L r3.2.1 = wEMERGENCY then sNum T L r3.2.2 400 (nxs T L r3.2.1) else (0, r3.2.1, r3.2.2)
  if r4.1 ≠ 0 then (r4.1, r4.2.1, d) else
  let r5 := sSem T L r4.2.1
  if r5.1 ≠ 0 then (r5.1, r5.2, d) else
  (0, r5.2, upI (upI (upI d.1 (5 + nl) r1.2.2) (11 + nl) r2.2.2) 2 (((nl + 1) : Nat) : Int), upI (upI d.2 (0 + nl) r3.2.2) (6 + nl) r4.2.2)
def sLines (T : Nat → Int) (L : Int) : Nat → Int → Nat → GD → Int × Int × GD × Nat
  | 0, s, nl, d => (0, s, d, nl)
  | f + 1, s, nl, d => if wrd T L s = wLINE then (if nl = 6 then (3, s, d, nl) else
      let r := sLine T L (nxs T L s) nl d
      if r.1 ≠ 0 then (r.1, r.2.1, d, nl) else sLines T L f r.2.1 (nl + 1) r.2.2) else (0, s, d, nl)
/-- a generator, behind its word -/
def sGen (T : Nat → Int) (L s : Int) (ng : Nat) (d : GD) : Int × Int × GD :=
  let r1 := sNum T L 0 (d.1 0 - 1) s
  if r1.1 ≠ 0 then (r1.1, r1.2.1, d) else
  let r2 := sNum T L 0 99 r1.2.1
  if r2.1 ≠ 0 then (r2.1, r2.2.1, d) else
  let r3 := sNum T L 1 200 r2.2.1
  if r3.1 ≠ 0 then (r3.1, r3.2.1, d) else
  let r5 := sSem T L r3.2.1
  if r5.1 ≠ 0 then (r5.1, r5.2, d) else
  (0, r5.2, upI (upI d.1 (17 + ng) r1.2.2) 3 (((ng + 1) : Nat) : Int), upI (upI d.2 (12 + ng) r2.2.2) (17 + ng) r3.2.2)
def sGens (T : Nat → Int) (L : Int) : Nat → Int → Nat → GD → Int × Int × GD × Nat
  | 0, s, ng, d => (0, s, d, ng)
  | f + 1, s, ng, d => if wrd T L s = wGENERATOR then (if ng = 5 then (3, s, d, ng) else
      let r := sGen T L (nxs T L s) ng d
      if r.1 ≠ 0 then (r.1, r.2.1, d, ng) else sGens T L f r.2.1 (ng + 1) r.2.2) else (0, s, d, ng)
/-- a demand, behind its word -/
def sDem (T : Nat → Int) (L s : Int) (d : GD) : Int × Int × GD :=
  let r1 := sNum T L 0 (d.1 1 - 1) s
  if r1.1 ≠ 0 then (r1.1, r1.2.1, d) else
  let r2 := sNum T L 0 (d.1 0 - 1) r1.2.1
  if r2.1 ≠ 0 then (r2.1, r2.2.1, d) else
  let r3 := sNum T L 0 200 r2.2.1
  if r3.1 ≠ 0 then (r3.1, r3.2.1, d) else
  let r5 := sSem T L r3.2.1
  if r5.1 ≠ 0 then (r5.1, r5.2, d) else
  (0, r5.2, d.1, upI d.2 (22 + 4 * r1.2.2 + r2.2.2).toNat r3.2.2)
def sDems (T : Nat → Int) (L : Int) : Nat → Int → GD → Int × Int × GD
  | 0, s, d => (0, s, d)
  | f + 1, s, d => if wrd T L s = wDEMAND then (
      let r := sDem T L (nxs T L s) d
      if r.1 ≠ 0 then (r.1, r.2.1, d) else sDems T L f r.2.1 r.2.2) else (0, s, d)
/-- a right, behind its word -/
def sRig (T : Nat → Int) (L s : Int) (nr : Nat) (d : GD) : Int × Int × GD :=
  let r0 := sNum T L 0 3 s
  if r0.1 ≠ 0 then (r0.1, r0.2.1, d) else
  let r1 := sNum T L 0 (d.1 0 - 1) r0.2.1
  if r1.1 ≠ 0 then (r1.1, r1.2.1, d) else
  let r2 := sOth T L (d.1 0 - 1) r1.2.2 r1.2.1
  if r2.1 ≠ 0 then (r2.1, r2.2.1, d) else
  let r3 := sNum T L 1 100 r2.2.1
  if r3.1 ≠ 0 then (r3.1, r3.2.1, d) else
  let r5 := sSem T L r3.2.1
  if r5.1 ≠ 0 then (r5.1, r5.2, d) else
  (0, r5.2, upI (upI (upI (upI (upI d.1 (22 + 4 * nr) r0.2.2) (22 + 4 * nr + 1) r1.2.2) (22 + 4 * nr + 2) r2.2.2) (22 + 4 * nr + 3) r3.2.2) 4 (((nr + 1) : Nat) : Int), d.2)
def sRigs (T : Nat → Int) (L : Int) : Nat → Int → Nat → GD → Int × Int × GD × Nat
  | 0, s, nr, d => (0, s, d, nr)
  | f + 1, s, nr, d => if wrd T L s = wRIGHT then (if nr = 6 then (3, s, d, nr) else
      let r := sRig T L (nxs T L s) nr d
      if r.1 ≠ 0 then (r.1, r.2.1, d, nr) else sRigs T L f r.2.1 (nr + 1) r.2.2) else (0, s, d, nr)
/-- the outage, if one is told -/
noncomputable def sOut (T : Nat → Int) (L s : Int) (nl n : Nat) (d : GD) : Int × Int × GD :=
  if wrd T L s = wOUTAGE then
    let r1 := sNum T L 0 (d.1 2 - 1) (nxs T L s)
    if r1.1 ≠ 0 then (r1.1, r1.2.1, d) else
    if conB d.1 nl r1.2.2 n = false then (5, nxs T L s, d) else
    let r5 := sSem T L r1.2.1
    if r5.1 ≠ 0 then (r5.1, r5.2, d) else
    (0, r5.2, d.1, upI d.2 38 r1.2.2)
  else (0, s, d.1, upI d.2 38 (-1))
/-- nodes and intervals -/
def sHead (T : Nat → Int) (L s : Int) : Int × Int × Int × Int :=
  let w1 := sWrd T L wNODES s
  if w1.1 ≠ 0 then (w1.1, w1.2, 0, 0) else
  let r1 := sNum T L 2 4 w1.2
  if r1.1 ≠ 0 then (r1.1, r1.2.1, 0, 0) else
  let w2 := sWrd T L wINTERVALS r1.2.1
  if w2.1 ≠ 0 then (w2.1, w2.2, 0, 0) else
  let r2 := sNum T L 1 4 w2.2
  if r2.1 ≠ 0 then (r2.1, r2.2.1, 0, 0) else
  let r5 := sSem T L r2.2.1
  if r5.1 ≠ 0 then (r5.1, r5.2, 0, 0) else (0, r5.2, r1.2.2, r2.2.2)
def sBeh (T : Nat → Int) (L s : Int) : Prop := tkK T L s = 3 ∨ wrd T L s = wGENERATOR ∨ wrd T L s = wDEMAND ∨ wrd T L s = wRIGHT ∨ wrd T L s = wOUTAGE
noncomputable def behB (T : Nat → Int) (L s : Int) : Bool := @decide (sBeh T L s) (Classical.propDecidable _)
theorem behB_t {T : Nat → Int} {L s : Int} : behB T L s = true ↔ sBeh T L s := by
  unfold behB
  exact @decide_eq_true_iff _ (Classical.propDecidable _)
abbrev GRD : Type := Int × Int × GD × Nat × Nat × Nat
def gd0 : GD := (fun _ => 0, fun _ => 0)
/-- an error: its code, its place -/
def sErr (c s : Int) : GRD := (c, s, gd0, 0, 0, 0)
/-- at the end nothing may stand -/
def sFin (T : Nat → Int) (L : Int) (nl ng nr : Nat) (s : Int) (d : GD) : GRD := if tkK T L s ≠ 3 then sErr 1 s else (0, s, d, nl, ng, nr)
/-- behind the rights -/
noncomputable def sTl4 (T : Nat → Int) (L : Int) (n nl ng nr : Nat) (s : Int) (d : GD) : GRD :=
  let r := sOut T L s nl n d
  if r.1 ≠ 0 then sErr r.1 r.2.1 else sFin T L nl ng nr r.2.1 r.2.2
/-- behind the demands -/
noncomputable def sTl3 (T : Nat → Int) (L : Int) (n nl ng : Nat) (s : Int) (d : GD) : GRD :=
  let r := sRigs T L (6 + 1 - 0) s 0 d
  if r.1 ≠ 0 then sErr r.1 r.2.1 else sTl4 T L n nl ng r.2.2.2 r.2.1 r.2.2.1
/-- behind the generators -/
noncomputable def sTl2 (T : Nat → Int) (L : Int) (n nl ng : Nat) (s : Int) (d : GD) : GRD :=
  let r := sDems T L 700 s d
  if r.1 ≠ 0 then sErr r.1 r.2.1 else sTl3 T L n nl ng r.2.1 r.2.2
/-- behind the lines, which connect all nodes -/
noncomputable def sTl1 (T : Nat → Int) (L : Int) (n nl : Nat) (s : Int) (d : GD) : GRD :=
  let r := sGens T L (5 + 1 - 0) s 0 d
  if r.1 ≠ 0 then sErr r.1 r.2.1 else sTl2 T L n nl r.2.2.2 r.2.1 r.2.2.1
noncomputable def sCon (T : Nat → Int) (L : Int) (n nl : Nat) (s : Int) (d : GD) : GRD := if conB d.1 nl (-1) n = false then sErr 4 s else sTl1 T L n nl s d
noncomputable def sMid (T : Nat → Int) (L : Int) (n nl : Nat) (s : Int) (d : GD) : GRD := if behB T L s = false then sErr 1 s else sCon T L n nl s d
/-- behind the sizes -/
noncomputable def sBod (T : Nat → Int) (L : Int) (n : Nat) (s : Int) (d : GD) : GRD :=
  let r := sLines T L (6 + 1 - 0) s 0 d
  if r.1 ≠ 0 then sErr r.1 r.2.1 else sMid T L n r.2.2.2 r.2.1 r.2.2.1
/-- the whole text: code, place, the grid, how many lines, generators, rights -/
noncomputable def sText (T : Nat → Int) (L : Int) : GRD :=
  let r := sHead T L (skp T L 0)
  if r.1 ≠ 0 then sErr r.1 r.2.1 else sBod T L (r.2.2.1 - 1).toNat r.2.1 (upI (upI (fun _ => 0) 0 r.2.2.1) 1 r.2.2.2, fun _ => 0)
