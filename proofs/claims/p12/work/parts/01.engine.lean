/-! THE ENGINE: an abstract machine over packed numbers, made to be run by the kernel. Words of 72 bits: a tag (3 bits) and a payload. 0: nothing known (in a local), or the default (in a heap slot); tag 0 otherwise: an int whose lowest six bits are payload - 1; 1: an int between two bounds (excess 2^31); 2: a long (excess 2^63); 3: the cell of that number; 4: null; 5, 6: a float, a double by its bits; 7: a reference outside (0: some one, 1: ArrayList's empty array, 2: the script). -/
noncomputable def br {α : Type} (b : Bool) (t e : α) : α := Bool.rec e t b
noncomputable def fc {α : Type} (x : Nat) (k : Nat → α) : α := Nat.rec (motive := fun _ => α) (k 0) (fun m _ => k m) (Nat.add x 1)
noncomputable def an (a b : Bool) : Bool := Bool.rec false b a
noncomputable def orr (a b : Bool) : Bool := Bool.rec b true a
-- hp (slots below 65536), hb (the others), mt (64 bits a cell: class 6, length 16, place), number of cells, next places, counts
abbrev HP : Type := Nat × Nat × Nat × Nat × Nat × Nat × Nat × Nat
abbrev RES : Type := Nat × Nat × Nat × HP × Nat
abbrev KK : Type := Nat → Nat → HP → Nat → Option RES
abbrev RT : Type := Nat → Nat → Nat → KK
abbrev OP : Type := Nat → Nat → Nat → Nat → Nat → Nat → Nat → Nat → HP → RT → KK → Nat → Option RES
/-- packed numbers stand behind 72 bits that are their rest by a prime: so that two of them have different hashes -/
def mk (d : Nat) : Nat := Nat.add (Nat.shiftLeft d 72) (Nat.mod d 18446744073709551557)
def dt (x : Nat) : Nat := Nat.shiftRight x 72
def pget (x i : Nat) : Nat := Nat.mod (Nat.shiftRight x (Nat.add 72 (Nat.mul 72 i))) 4722366482869645213696
def pset (x i v : Nat) : Nat := mk (Nat.xor (dt x) (Nat.shiftLeft (Nat.xor (pget x i) v) (Nat.mul 72 i)))
def mkI (e : Nat) : Nat := Nat.add 1 (Nat.mul 8 (Nat.mul e 4294967297))
def mkL (e : Nat) : Nat := Nat.add 2 (Nat.mul 8 e)
def wTop : Nat := 147573952555316674561
def iOf (e : Nat) : Int32 := Int32.ofNat (Nat.add e 2147483648)
def iEx (x : Int32) : Nat := Nat.mod (Nat.add x.toBitVec.toNat 2147483648) 4294967296
def lOf (e : Nat) : Int64 := Int64.ofNat (Nat.add e 9223372036854775808)
def lEx (x : Int64) : Nat := Nat.mod (Nat.add x.toBitVec.toNat 9223372036854775808) 18446744073709551616
def tp (S : Nat) : Nat := Nat.mod (Nat.shiftRight S 72) 4722366482869645213696
def r1 (S : Nat) : Nat := mk (Nat.shiftRight S 144)
def sd (S : Nat) : Nat := Nat.mod (Nat.shiftRight S 144) 4722366482869645213696
def r2 (S : Nat) : Nat := mk (Nat.shiftRight S 216)
def td (S : Nat) : Nat := Nat.mod (Nat.shiftRight S 216) 4722366482869645213696
def r3 (S : Nat) : Nat := mk (Nat.shiftRight S 288)
def pu (v S : Nat) : Nat := mk (Nat.add v (Nat.mul 4722366482869645213696 (dt S)))
def nxt (w : Nat) : Nat := Nat.mod (Nat.div w 256) 65536
def fa (w : Nat) : Nat := Nat.mod (Nat.div w 16777216) 16777216
def fb (w : Nat) : Nat := Nat.div w 281474976710656
def isT (t v : Nat) : Bool := Nat.beq (Nat.mod v 8) t
def cat2 (v : Nat) : Bool := Nat.beq (Nat.mod v 4) 2
noncomputable def isA (v : Nat) : Bool := orr (isT 3 v) (orr (isT 4 v) (isT 7 v))
def ilo (v : Nat) : Nat := Nat.mod (Nat.div v 8) 4294967296
def isb (x : Nat) : Nat := Nat.sub x 2147483648
def ihi (v : Nat) : Nat := Nat.div (Nat.div v 8) 4294967296
/-- a single int -/
noncomputable def isS (v : Nat) : Bool := an (isT 1 v) (Nat.beq (ihi v) (ilo v))
noncomputable def o_const : OP := fun _ _ _ _ _ _ w L h _ k S => fc (pu (fb w) S) (k (nxt w) L h)
noncomputable def o_goto : OP := fun _ _ _ _ _ _ w L h _ k S => k (nxt w) L h S
noncomputable def ld2 (ok : Nat → Bool) (nx L : Nat) (h : HP) (k : KK) (S v : Nat) : Option RES := br (ok v) (fc (pu v S) (k nx L h)) none
noncomputable def o_loadI : OP := fun _ _ _ _ _ _ w L h _ k S => fc (pget L (fa w)) (ld2 (isT 1) (nxt w) L h k S)
noncomputable def o_loadL : OP := fun _ _ _ _ _ _ w L h _ k S => fc (pget L (fa w)) (ld2 (isT 2) (nxt w) L h k S)
noncomputable def o_loadF : OP := fun _ _ _ _ _ _ w L h _ k S => fc (pget L (fa w)) (ld2 (isT 5) (nxt w) L h k S)
noncomputable def o_loadA : OP := fun _ _ _ _ _ _ w L h _ k S => fc (pget L (fa w)) (ld2 isA (nxt w) L h k S)
/-- the local below a, where it is wide, is nothing from now on -/
noncomputable def cut (L a : Nat) : Nat := br (Nat.beq a 0) L (br (cat2 (pget L (Nat.sub a 1))) (pset L (Nat.sub a 1) 0) L)
noncomputable def st2 (nx S : Nat) (h : HP) (k : KK) (L : Nat) : Option RES := fc (r1 S) (k nx L h)
noncomputable def o_storeI : OP := fun _ _ _ _ _ _ w L h _ k S => br (isT 1 (tp S)) (fc (pset (cut L (fa w)) (fa w) (tp S)) (st2 (nxt w) S h k)) none
noncomputable def o_storeA : OP := fun _ _ _ _ _ _ w L h _ k S => br (isA (tp S)) (fc (pset (cut L (fa w)) (fa w) (tp S)) (st2 (nxt w) S h k)) none
noncomputable def o_storeL : OP := fun _ _ _ _ _ _ w L h _ k S => br (isT 2 (tp S)) (fc (pset (pset (cut L (fa w)) (fa w) (tp S)) (Nat.add (fa w) 1) 0) (st2 (nxt w) S h k)) none
noncomputable def o_storeD : OP := fun _ _ _ _ _ _ w L h _ k S => br (isT 6 (tp S)) (fc (pset (pset (cut L (fa w)) (fa w) (tp S)) (Nat.add (fa w) 1) 0) (st2 (nxt w) S h k)) none
noncomputable def o_pop : OP := fun _ _ _ _ _ _ w L h _ k S => br (orr (Nat.beq (tp S) 0) (cat2 (tp S))) none (fc (r1 S) (k (nxt w) L h))
noncomputable def o_dup : OP := fun _ _ _ _ _ _ w L h _ k S => br (orr (Nat.beq (tp S) 0) (cat2 (tp S))) none (fc (pu (tp S) S) (k (nxt w) L h))
noncomputable def o_dupx1 : OP := fun _ _ _ _ _ _ w L h _ k S => br (orr (orr (Nat.beq (tp S) 0) (cat2 (tp S))) (orr (Nat.beq (sd S) 0) (cat2 (sd S)))) none (fc (pu (tp S) (pu (sd S) (pu (tp S) (r2 S)))) (k (nxt w) L h))
noncomputable def o_dup2 : OP := fun _ _ _ _ _ _ w L h _ k S => br (orr (orr (Nat.beq (tp S) 0) (cat2 (tp S))) (orr (Nat.beq (sd S) 0) (cat2 (sd S)))) none (fc (pu (tp S) (pu (sd S) S)) (k (nxt w) L h))
noncomputable def bin (f : Nat → Nat → Nat) (w L : Nat) (h : HP) (k : KK) (S : Nat) : Option RES := br (an (isT 1 (tp S)) (isT 1 (sd S))) (br (an (Nat.beq (ihi (tp S)) (ilo (tp S))) (Nat.beq (ihi (sd S)) (ilo (sd S)))) (fc (pu (mkI (f (ilo (sd S)) (ilo (tp S)))) (r2 S)) (k (nxt w) L h)) (fc (pu wTop (r2 S)) (k (nxt w) L h))) none
def f_iadd (x y : Nat) : Nat := Nat.mod (Nat.add (Nat.add x y) 2147483648) 4294967296
def f_isub (x y : Nat) : Nat := Nat.mod (Nat.add (Nat.sub (Nat.add x 4294967296) y) 2147483648) 4294967296
def f_imul (x y : Nat) : Nat := Nat.mod (Nat.add (Nat.mul (Nat.add x 2147483648) (Nat.add y 2147483648)) 2147483648) 4294967296
def f_ishl (x y : Nat) : Nat := iEx (iOf x <<< (iOf y &&& 31))
def f_ishr (x y : Nat) : Nat := iEx (iOf x >>> (iOf y &&& 31))
def f_iand (x y : Nat) : Nat := iEx (iOf x &&& iOf y)
def f_ior (x y : Nat) : Nat := iEx (iOf x ||| iOf y)
noncomputable def o_iadd : OP := fun _ _ _ _ _ _ w L h _ k S => bin f_iadd w L h k S
noncomputable def o_isub : OP := fun _ _ _ _ _ _ w L h _ k S => bin f_isub w L h k S
noncomputable def o_imul : OP := fun _ _ _ _ _ _ w L h _ k S => bin f_imul w L h k S
noncomputable def o_ishl : OP := fun _ _ _ _ _ _ w L h _ k S => bin f_ishl w L h k S
noncomputable def o_ishr : OP := fun _ _ _ _ _ _ w L h _ k S => bin f_ishr w L h k S
noncomputable def o_ior : OP := fun _ _ _ _ _ _ w L h _ k S => bin f_ior w L h k S
noncomputable def o_iand : OP := fun _ _ _ _ _ _ w L h _ k S => br (isT 1 (sd S)) (bin f_iand w L h k S) (br (an (isT 0 (sd S)) (an (Nat.ble 8 (sd S)) (Nat.beq (tp S) 73786978476681593337))) (fc (pu (mkI (Nat.add (Nat.div (sd S) 8) 2147483647)) (r2 S)) (k (nxt w) L h)) none)
/-- division: the divisor is one number, not 0 -/
noncomputable def idv (f : Nat → Nat → Nat) (w L : Nat) (h : HP) (k : KK) (S : Nat) : Option RES := br (an (isS (tp S)) (isS (sd S))) (br (Nat.beq (ilo (tp S)) 2147483648) none (fc (pu (mkI (f (ilo (sd S)) (ilo (tp S)))) (r2 S)) (k (nxt w) L h))) none
def f_idiv (x y : Nat) : Nat := iEx (iOf x / iOf y)
def f_irem (x y : Nat) : Nat := iEx (iOf x - iOf x / iOf y * iOf y)
noncomputable def o_idiv : OP := fun _ _ _ _ _ _ w L h _ k S => idv f_idiv w L h k S
noncomputable def o_irem : OP := fun _ _ _ _ _ _ w L h _ k S => idv f_irem w L h k S
noncomputable def una (f : Nat → Nat) (w L : Nat) (h : HP) (k : KK) (S : Nat) : Option RES := br (isT 1 (tp S)) (br (Nat.beq (ihi (tp S)) (ilo (tp S))) (fc (pu (mkI (f (ilo (tp S)))) (r1 S)) (k (nxt w) L h)) (fc (pu wTop (r1 S)) (k (nxt w) L h))) none
def f_ineg (x : Nat) : Nat := iEx (-iOf x)
def f_i2b (x : Nat) : Nat := iEx (iOf x).toInt8.toInt32
noncomputable def o_ineg : OP := fun _ _ _ _ _ _ w L h _ k S => una f_ineg w L h k S
noncomputable def o_i2b : OP := fun _ _ _ _ _ _ w L h _ k S => una f_i2b w L h k S
noncomputable def lbn (f : Nat → Nat → Nat) (w L : Nat) (h : HP) (k : KK) (S : Nat) : Option RES := br (an (isT 2 (tp S)) (isT 2 (sd S))) (fc (pu (mkL (f (Nat.div (sd S) 8) (Nat.div (tp S) 8))) (r2 S)) (k (nxt w) L h)) none
def f_ladd (x y : Nat) : Nat := Nat.mod (Nat.add (Nat.add x y) 9223372036854775808) 18446744073709551616
def f_lsub (x y : Nat) : Nat := Nat.mod (Nat.add (Nat.sub (Nat.add x 18446744073709551616) y) 9223372036854775808) 18446744073709551616
def f_lmul (x y : Nat) : Nat := Nat.mod (Nat.add (Nat.mul (Nat.add x 9223372036854775808) (Nat.add y 9223372036854775808)) 9223372036854775808) 18446744073709551616
def f_ldiv (x y : Nat) : Nat := lEx (lOf x / lOf y)
def f_lrem (x y : Nat) : Nat := lEx (lOf x - lOf x / lOf y * lOf y)
noncomputable def o_ladd : OP := fun _ _ _ _ _ _ w L h _ k S => lbn f_ladd w L h k S
noncomputable def o_lsub : OP := fun _ _ _ _ _ _ w L h _ k S => lbn f_lsub w L h k S
noncomputable def o_lmul : OP := fun _ _ _ _ _ _ w L h _ k S => lbn f_lmul w L h k S
noncomputable def ldv (f : Nat → Nat → Nat) (w L : Nat) (h : HP) (k : KK) (S : Nat) : Option RES := br (Nat.beq (tp S) 73786976294838206466) none (lbn f w L h k S)
noncomputable def o_ldiv : OP := fun _ _ _ _ _ _ w L h _ k S => ldv f_ldiv w L h k S
noncomputable def o_lrem : OP := fun _ _ _ _ _ _ w L h _ k S => ldv f_lrem w L h k S
noncomputable def o_lneg : OP := fun _ _ _ _ _ _ w L h _ k S => br (isT 2 (tp S)) (fc (pu (mkL (lEx (-lOf (Nat.div (tp S) 8)))) (r1 S)) (k (nxt w) L h)) none
noncomputable def o_lcmp : OP := fun _ _ _ _ _ _ w L h _ k S => br (an (isT 2 (tp S)) (isT 2 (sd S))) (fc (pu (br (Nat.beq (sd S) (tp S)) 73786976312018075649 (br (Nat.ble (sd S) (tp S)) 73786976277658337273 73786976346377814025)) (r2 S)) (k (nxt w) L h)) none
noncomputable def lk (nx S : Nat) (h : HP) (k : KK) (L : Nat) : Option RES := k nx L h S
noncomputable def ii2 (w L : Nat) (h : HP) (k : KK) (S x : Nat) : Option RES := br (isT 1 x) (fc (pset L (fa w) (br (Nat.beq (ihi x) (ilo x)) (mkI (f_iadd (ilo x) (fb w))) wTop)) (lk (nxt w) S h k)) none
noncomputable def o_iinc : OP := fun _ _ _ _ _ _ w L h _ k S => fc (pget L (fa w)) (ii2 w L h k S)
noncomputable def o_i2l : OP := fun _ _ _ _ _ _ w L h _ k S => br (isS (tp S)) (fc (pu (mkL (Nat.add (ilo (tp S)) 9223372034707292160)) (r1 S)) (k (nxt w) L h)) none
noncomputable def o_i2f : OP := fun _ _ _ _ _ _ w L h _ k S => br (isS (tp S)) (fc (pu (Nat.add 5 (Nat.mul 8 (FP.i2f (iOf (ilo (tp S)))).toNat)) (r1 S)) (k (nxt w) L h)) none
noncomputable def o_l2f : OP := fun _ _ _ _ _ _ w L h _ k S => br (isT 2 (tp S)) (fc (pu (Nat.add 5 (Nat.mul 8 (FP.l2f (lOf (Nat.div (tp S) 8))).toNat)) (r1 S)) (k (nxt w) L h)) none
/-- a quotient that is 0 -/
noncomputable def o_fdiv : OP := fun _ _ _ _ _ _ w L h _ k S => br (an (isT 5 (tp S)) (an (isT 5 (sd S)) (Nat.beq (FP.fdiv (UInt32.ofNat (Nat.div (sd S) 8)) (UInt32.ofNat (Nat.div (tp S) 8))).toNat 0))) (fc (pu 5 (r2 S)) (k (nxt w) L h)) none
noncomputable def o_fcmpl : OP := fun _ _ _ _ _ _ w L h _ k S => br (an (Nat.beq (tp S) 5) (Nat.beq (sd S) 5)) (fc (pu 73786976312018075649 (r2 S)) (k (nxt w) L h)) none
/-- surely less, surely not less -/
def lt1 (x y : Nat) : Bool := Nat.ble (Nat.add (ihi x) 1) (ilo y)
def lt0 (x y : Nat) : Bool := Nat.ble (ihi y) (ilo x)
noncomputable def eq1 (x y : Nat) : Bool := an (Nat.beq (ilo x) (ihi x)) (an (Nat.beq (ilo y) (ihi y)) (Nat.beq (ilo x) (ilo y)))
noncomputable def eq0 (x y : Nat) : Bool := orr (lt1 x y) (lt1 y x)
noncomputable def jmp (c1 c0 : Bool) (w L : Nat) (h : HP) (k : KK) (S : Nat) : Option RES := br c1 (fc S (k (fa w) L h)) (br c0 (fc S (k (nxt w) L h)) none)
noncomputable def icm (c1 c0 : Nat → Nat → Bool) (w L : Nat) (h : HP) (k : KK) (S : Nat) : Option RES := br (an (isT 1 (tp S)) (isT 1 (sd S))) (jmp (c1 (sd S) (tp S)) (c0 (sd S) (tp S)) w L h k (r2 S)) none
noncomputable def ifm (c1 c0 : Nat → Nat → Bool) (w L : Nat) (h : HP) (k : KK) (S : Nat) : Option RES := br (isT 1 (tp S)) (jmp (c1 (tp S) 73786976312018075649) (c0 (tp S) 73786976312018075649) w L h k (r1 S)) none
def gt1 (x y : Nat) : Bool := lt1 y x
def gt0 (x y : Nat) : Bool := lt0 y x
noncomputable def o_icmpLt : OP := fun _ _ _ _ _ _ w L h _ k S => icm lt1 lt0 w L h k S
noncomputable def o_icmpGe : OP := fun _ _ _ _ _ _ w L h _ k S => icm lt0 lt1 w L h k S
noncomputable def o_icmpGt : OP := fun _ _ _ _ _ _ w L h _ k S => icm gt1 gt0 w L h k S
noncomputable def o_icmpLe : OP := fun _ _ _ _ _ _ w L h _ k S => icm gt0 gt1 w L h k S
noncomputable def o_icmpEq : OP := fun _ _ _ _ _ _ w L h _ k S => icm eq1 eq0 w L h k S
noncomputable def o_icmpNe : OP := fun _ _ _ _ _ _ w L h _ k S => icm eq0 eq1 w L h k S
noncomputable def o_ifLt : OP := fun _ _ _ _ _ _ w L h _ k S => ifm lt1 lt0 w L h k S
noncomputable def o_ifGe : OP := fun _ _ _ _ _ _ w L h _ k S => ifm lt0 lt1 w L h k S
noncomputable def o_ifGt : OP := fun _ _ _ _ _ _ w L h _ k S => ifm gt1 gt0 w L h k S
noncomputable def o_ifLe : OP := fun _ _ _ _ _ _ w L h _ k S => ifm gt0 gt1 w L h k S
noncomputable def o_ifEq : OP := fun _ _ _ _ _ _ w L h _ k S => ifm eq1 eq0 w L h k S
noncomputable def o_ifNe : OP := fun _ _ _ _ _ _ w L h _ k S => ifm eq0 eq1 w L h k S
/-- only 'both the empty array' is known -/
noncomputable def o_acmpeq : OP := fun _ _ _ _ _ _ w L h _ k S => br (an (Nat.beq (tp S) 15) (Nat.beq (sd S) 15)) (fc (r2 S) (k (fa w) L h)) none
noncomputable def o_ifnonnull : OP := fun _ _ _ _ _ _ w L h _ k S => br (isT 3 (tp S)) (fc (r1 S) (k (fa w) L h)) (br (isT 4 (tp S)) (fc (r1 S) (k (nxt w) L h)) none)
/-- the tables of the switches: low bound (excess, 32 bits), count (16 bits), targets (16 bits each); a: the default -/
noncomputable def swb (i : Nat) : Nat := br (Nat.beq i 0) 0x6fd06d506a1066d06450611060405dc05a805740558053b050704df04a70473043f040b03e303bb039f036b0337030302f302d702a3027b0253020f020201da01b2018a016e016101540144012800dc002880000000 (br (Nat.beq i 1) 0x44003c0034002c0024000580000000 (br (Nat.beq i 2) 0x34002a0020000380000000 (br (Nat.beq i 3) 0x420038002e0024000480000000 (br (Nat.beq i 4) 0x6d005a00470024000480000000 (0)))))
def swn (b : Nat) : Nat := Nat.mod (Nat.div b 4294967296) 65536
def swl (b : Nat) : Nat := Nat.mod b 4294967296
noncomputable def sw2 (w L S : Nat) (h : HP) (k : KK) (b : Nat) : Option RES := br (isT 1 (tp S)) (br (orr (Nat.ble (Nat.add (ihi (tp S)) 1) (swl b)) (Nat.ble (Nat.add (swl b) (swn b)) (ilo (tp S)))) (fc (r1 S) (k (fa w) L h)) (br (an (Nat.beq (ilo (tp S)) (ihi (tp S))) (Nat.ble (swl b) (ilo (tp S)))) (fc (r1 S) (k (Nat.mod (Nat.shiftRight b (Nat.add 48 (Nat.mul 16 (Nat.sub (ilo (tp S)) (swl b))))) 65536) L h)) none)) none
noncomputable def o_switch : OP := fun _ _ _ _ _ _ w L h _ k S => fc (swb (fb w)) (sw2 w L S h k)
noncomputable def hget (h : HP) (o : Nat) : Nat := br (Nat.ble 65536 o) (pget h.2.1 (Nat.sub o 65536)) (pget h.1 o)
noncomputable def hpb (o v : Nat) (hp : Nat) (r : Nat × Nat × Nat × Nat × Nat × Nat × Nat) (k : HP → Option RES) : Option RES := Prod.rec (fun hb r => fc (pset hb (Nat.sub o 65536) v) (fun hb => k (hp, hb, r))) r
noncomputable def hput (h : HP) (o v : Nat) (k : HP → Option RES) : Option RES := br (Nat.ble 4722366482869645213696 v) none (Prod.rec (fun hp r => br (Nat.ble 65536 o) (hpb o v hp r k) (fc (pset hp o v) (fun hp => k (hp, r)))) h)
/-- the row of a cell: class, length, place -/
def mrow (h : HP) (x : Nat) : Nat := Nat.mod (Nat.shiftRight h.2.2.1 (Nat.add 72 (Nat.mul 64 (Nat.div x 8)))) 18446744073709551616
def mcl (m : Nat) : Nat := Nat.mod m 64
def mln (m : Nat) : Nat := Nat.mod (Nat.div m 64) 65536
def mof (m : Nat) : Nat := Nat.div m 4194304
/-- the default word of a type: 0 int, 1 boolean, 2 long, 3 reference, 6 double -/
noncomputable def dfw (ty v : Nat) : Nat := br (Nat.beq v 0) (br (Nat.beq ty 2) 73786976294838206466 (br (Nat.beq ty 3) 4 (br (Nat.beq ty 6) 6 73786976312018075649))) v
/-- a: class + 64 * slot; b: the type -/
noncomputable def gf2 (w L S : Nat) (h : HP) (k : KK) (m : Nat) : Option RES := br (an (Nat.beq (mcl m) (Nat.mod (fa w) 64)) (Nat.ble (Nat.add (Nat.div (fa w) 64) 1) (mln m))) (fc (pu (dfw (fb w) (hget h (Nat.add (mof m) (Nat.div (fa w) 64)))) (r1 S)) (k (nxt w) L h)) none
noncomputable def o_getf : OP := fun _ _ _ _ _ _ w L h _ k S => br (isT 3 (tp S)) (fc (mrow h (tp S)) (gf2 w L S h k)) none
/-- may a word be put where the type is: 0, 1, 2, 3 -/
noncomputable def fitw (ty v : Nat) : Bool := br (Nat.beq ty 3) (isA v) (br (Nat.beq ty 2) (isT 2 v) (br (Nat.beq ty 0) (isT 1 v) (an (Nat.beq ty 1) (orr (Nat.beq v 73786976312018075649) (Nat.beq v 73786976346377814025)))))
noncomputable def kS (nx L S : Nat) (k : KK) (h : HP) : Option RES := fc S (k nx L h)
noncomputable def pf2 (w L S : Nat) (h : HP) (k : KK) (m : Nat) : Option RES := br (an (Nat.beq (mcl m) (Nat.mod (fa w) 64)) (Nat.ble (Nat.add (Nat.div (fa w) 64) 1) (mln m))) (hput h (Nat.add (mof m) (Nat.div (fa w) 64)) (tp S) (kS (nxt w) L (r2 S) k)) none
noncomputable def o_putf : OP := fun _ _ _ _ _ _ w L h _ k S => br (an (isT 3 (sd S)) (fitw (fb w) (tp S))) (fc (mrow h (sd S)) (pf2 w L S h k)) none
/-- element i of an array (of a class that ok takes), of type ty -/
noncomputable def al2 (ok : Nat → Bool) (ty w L S : Nat) (h : HP) (k : KK) (m : Nat) : Option RES := br (an (ok (mcl m)) (an (Nat.ble 2147483648 (ilo (tp S))) (Nat.ble (Nat.add (isb (ilo (tp S))) 1) (mln m)))) (fc (pu (dfw ty (hget h (Nat.add (mof m) (isb (ilo (tp S)))))) (r2 S)) (k (nxt w) L h)) none
noncomputable def ald (ok : Nat → Bool) (ty w L : Nat) (h : HP) (k : KK) (S : Nat) : Option RES := br (an (isT 3 (sd S)) (isS (tp S))) (fc (mrow h (sd S)) (al2 ok ty w L S h k)) none
/-- the script's ints: bx holds their words -/
noncomputable def o_iald : OP := fun bx bl _ _ _ _ w L h _ k S => br (Nat.beq (sd S) 23) (br (an (isS (tp S)) (an (Nat.ble 2147483648 (ilo (tp S))) (Nat.ble (Nat.add (isb (ilo (tp S))) 1) bl))) (fc (pu (pget bx (isb (ilo (tp S)))) (r2 S)) (k (nxt w) L h)) none) (ald (Nat.beq 32) 0 w L h k S)
noncomputable def o_lald : OP := fun _ _ _ _ _ _ w L h _ k S => ald (Nat.beq 33) 2 w L h k S
noncomputable def o_aald : OP := fun _ _ _ _ _ _ w L h _ k S => ald (Nat.ble 37) 3 w L h k S
noncomputable def o_bald : OP := fun _ _ _ _ _ _ w L h _ k S => ald (Nat.beq 35) 0 w L h k S
/-- into an array: the stack has value, index, array -/
noncomputable def as2 (ok : Nat → Bool) (w L v S : Nat) (h : HP) (k : KK) (m : Nat) : Option RES := br (an (ok (mcl m)) (an (Nat.ble 2147483648 (ilo (sd S))) (Nat.ble (Nat.add (isb (ilo (sd S))) 1) (mln m)))) (hput h (Nat.add (mof m) (isb (ilo (sd S)))) v (kS (nxt w) L (r3 S) k)) none
noncomputable def ast (ok : Nat → Bool) (v w L : Nat) (h : HP) (k : KK) (S : Nat) : Option RES := br (an (isT 3 (td S)) (isS (sd S))) (fc (mrow h (td S)) (as2 ok w L v S h k)) none
noncomputable def o_iast : OP := fun _ _ _ _ _ _ w L h _ k S => br (isT 1 (tp S)) (ast (Nat.beq 32) (tp S) w L h k S) none
noncomputable def o_last : OP := fun _ _ _ _ _ _ w L h _ k S => br (isT 2 (tp S)) (ast (Nat.beq 33) (tp S) w L h k S) none
noncomputable def o_bast : OP := fun _ _ _ _ _ _ w L h _ k S => br (orr (Nat.beq (tp S) 73786976312018075649) (Nat.beq (tp S) 73786976346377814025)) (ast (Nat.beq 35) (tp S) w L h k S) (br (isT 1 (tp S)) (ast (Nat.beq 34) wTop w L h k S) none)
/-- which objects an array of references takes: 39 any, 40 Dispatch, 41 Fraction -/
noncomputable def aok (c2 c : Nat) : Bool := br (Nat.beq c 39) (Nat.beq c2 8) (br (Nat.beq c 40) (Nat.beq c2 3) (an (Nat.beq c 41) (Nat.beq c2 2)))
noncomputable def o_aast : OP := fun _ _ _ _ _ _ w L h _ k S => br (isT 4 (tp S)) (ast (Nat.ble 39) (tp S) w L h k S) (br (isT 3 (tp S)) (ast (aok (mcl (mrow h (tp S)))) (tp S) w L h k S) none)
-- new cells
noncomputable def al8 (c n : Nat) (k : Nat → HP → Option RES) (hp hb mt nc t1 t2 kc ks : Nat) : Option RES := br (orr (Nat.ble 65536 n) (orr (Nat.ble 64 c) (Nat.ble 1000000 nc))) none (br (Nat.ble n 100) (br (Nat.ble 65000 t1) none (fc (mk (Nat.add (dt mt) (Nat.shiftLeft (Nat.add (Nat.add c (Nat.mul 64 n)) (Nat.mul 4194304 t1)) (Nat.mul 64 nc)))) (fun mt => fc (Nat.add nc 1) (fun nc' => fc (Nat.add t1 n) (fun t1 => fc (Nat.add kc 1) (fun kc => fc (Nat.add ks n) (fun ks => k nc (hp, hb, mt, nc', t1, t2, kc, ks)))))))) (br (Nat.ble 1000000 t2) none (fc (mk (Nat.add (dt mt) (Nat.shiftLeft (Nat.add (Nat.add c (Nat.mul 64 n)) (Nat.mul 4194304 t2)) (Nat.mul 64 nc)))) (fun mt => fc (Nat.add nc 1) (fun nc' => fc (Nat.add t2 n) (fun t2 => fc (Nat.add kc 1) (fun kc => fc (Nat.add ks n) (fun ks => k nc (hp, hb, mt, nc', t1, t2, kc, ks)))))))))
noncomputable def un8 (h : HP) (k : Nat → Nat → Nat → Nat → Nat → Nat → Nat → Nat → Option RES) : Option RES := Prod.rec (fun hp r => Prod.rec (fun hb r => Prod.rec (fun mt r => Prod.rec (fun nc r => Prod.rec (fun t1 r => Prod.rec (fun t2 r => Prod.rec (fun kc ks => k hp hb mt nc t1 t2 kc ks) r) r) r) r) r) r) h
noncomputable def alloc (c n : Nat) (h : HP) (k : Nat → HP → Option RES) : Option RES := un8 h (al8 c n k)
noncomputable def nw2 (nx L S : Nat) (k : KK) (q : Nat) (h : HP) : Option RES := fc (pu (Nat.add 3 (Nat.mul 8 q)) S) (k nx L h)
noncomputable def o_new : OP := fun _ _ _ _ _ _ w L h _ k S => alloc (fa w) (fb w) h (nw2 (nxt w) L S k)
noncomputable def o_newa : OP := fun _ _ _ _ _ _ w L h _ k S => br (an (isS (tp S)) (Nat.ble 2147483648 (ilo (tp S)))) (fc (isb (ilo (tp S))) (fun n => alloc (fa w) n h (nw2 (nxt w) L (r1 S) k))) none
noncomputable def an2 (w L S : Nat) (h : HP) (k : KK) (m : Nat) : Option RES := br (Nat.ble 32 (mcl m)) (fc (pu (mkI (Nat.add (mln m) 2147483648)) (r1 S)) (k (nxt w) L h)) none
noncomputable def o_alen : OP := fun _ bl _ _ _ _ w L h _ k S => br (Nat.beq (tp S) 23) (fc (pu (mkI (Nat.add bl 2147483648)) (r1 S)) (k (nxt w) L h)) (br (Nat.beq (tp S) 15) (fc (pu 73786976312018075649 (r1 S)) (k (nxt w) L h)) (br (isT 3 (tp S)) (fc (mrow h (tp S)) (an2 w L S h k)) none))
/-- the inner rows of new T[n][m]: i of them are wanting, the next is number j -/
noncomputable def rws (c o m : Nat) (i : Nat) : HP → Nat → (HP → Option RES) → Option RES := Nat.rec (motive := fun _ => HP → Nat → (HP → Option RES) → Option RES) (fun h _ k => k h) (fun _ ih => fun h j k => alloc c m h (fun q h => hput h (Nat.add o j) (Nat.add 3 (Nat.mul 8 q)) (fun h => fc (Nat.add j 1) (fun j => ih h j k)))) i
noncomputable def o_multi : OP := fun _ _ _ _ _ _ w L h _ k S => br (an (isS (tp S)) (an (isS (sd S)) (an (Nat.ble 2147483648 (ilo (tp S))) (an (Nat.ble (ilo (tp S)) 2147549183) (Nat.ble 2147483648 (ilo (sd S))))))) (fc (isb (ilo (sd S))) (fun n => fc (isb (ilo (tp S))) (fun m => alloc (fa w) n h (fun q h => fc (mof (mrow h (Nat.mul 8 q))) (fun o => rws (fb w) o m n h 0 (nw2 (nxt w) L (r2 S) k q)))))) none
noncomputable def o_retI : OP := fun _ _ _ _ _ pc _ L h _ _ S => br (isT 1 (tp S)) (some (0, pc, L, h, S)) none
noncomputable def o_retZ : OP := fun _ _ _ _ _ pc _ L h _ _ S => br (orr (Nat.beq (tp S) 73786976312018075649) (Nat.beq (tp S) 73786976346377814025)) (some (0, pc, L, h, S)) none
noncomputable def o_retL : OP := fun _ _ _ _ _ pc _ L h _ _ S => br (isT 2 (tp S)) (some (0, pc, L, h, S)) none
noncomputable def o_retD : OP := fun _ _ _ _ _ pc _ L h _ _ S => br (isT 6 (tp S)) (some (0, pc, L, h, S)) none
noncomputable def o_retA : OP := fun _ _ _ _ _ pc _ L h _ _ S => br (isA (tp S)) (some (0, pc, L, h, S)) none
noncomputable def o_retV : OP := fun _ _ _ _ _ pc _ L h _ _ S => some (0, pc, L, h, S)
/-- the run is to be looked at here -/
noncomputable def o_stop : OP := fun _ _ _ _ _ pc _ L h _ _ S => some (8, pc, L, h, S)
noncomputable def o_throw : OP := fun _ _ f lam _ pc w L h _ _ S => br (an (Nat.beq S 0) (an (Nat.ble 8 f) (Nat.ble 120 lam))) (some (Nat.add (fa w) 1, pc, L, h, S)) none
/-- arguments into locals: n of them, the last one ends below place i -/
noncomputable def takeA (n : Nat) : Nat → Nat → Nat → (Nat → Nat → Option RES) → Option RES := Nat.rec (motive := fun _ => Nat → Nat → Nat → (Nat → Nat → Option RES) → Option RES) (fun i S acc k => br (Nat.beq i 0) (fc (mk acc) (fun acc => k acc S)) none) (fun _ ih => fun i S acc k => br (Nat.beq (tp S) 0) none (br (cat2 (tp S)) (br (Nat.ble 2 i) (fc (r1 S) (fun r => fc (Nat.sub i 2) (fun i => fc (Nat.add acc (Nat.shiftLeft (tp S) (Nat.mul 72 i))) (fun acc => ih i r acc k)))) none) (br (Nat.ble 1 i) (fc (r1 S) (fun r => fc (Nat.sub i 1) (fun i => fc (Nat.add acc (Nat.shiftLeft (tp S) (Nat.mul 72 i))) (fun acc => ih i r acc k)))) none))) n
/-- what is left on the stack counts at most 8 -/
noncomputable def catk (n : Nat) : Nat → Nat → Bool := Nat.rec (motive := fun _ => Nat → Nat → Bool) (fun _ _ => false) (fun _ ih => fun S acc => br (Nat.beq S 0) (Nat.ble acc 8) (fc (r1 S) (fun r => fc (br (cat2 (tp S)) (Nat.add acc 2) (Nat.add acc 1)) (ih r)))) n
noncomputable def o_objinit : OP := fun _ _ f lam _ _ w L h _ k S => br (an (isT 3 (tp S)) (an (Nat.ble 1 f) (an (Nat.ble 20 lam) (catk 9 (r1 S) 0)))) (fc (r1 S) (k (nxt w) L h)) none
/-- the counts don't fall -/
noncomputable def mono (h h2 : HP) : Bool := an (Nat.ble h.2.2.2.2.2.2.1 h2.2.2.2.2.2.2.1) (Nat.ble h.2.2.2.2.2.2.2 h2.2.2.2.2.2.2.2)
/-- the receiver: a cell of the world, of the class that is asked for -/
noncomputable def rcv (h : HP) (b x : Nat) : Bool := br (Nat.beq (Nat.mod (Nat.div b 524288) 2) 0) true (an (isT 3 x) (orr (Nat.beq (Nat.shiftRight b 68) 0) (Nat.beq (Nat.shiftRight b 68) (Nat.add (mcl (mrow h x)) 1))))
/-- what the callee ended with: returned, thrown here, or thrown below -/
noncomputable def thr (pc b L r : Nat) (k : KK) (e : Nat) (h : HP) : Option RES := br (Nat.ble e 3) (fc (Nat.mod (Nat.shiftRight b (Nat.add 20 (Nat.mul 12 e))) 4096) (fun hd => br (Nat.beq hd 0) (some (Nat.add 16 e, pc, L, h, r)) (k hd L h 33056565380087516495879))) none
noncomputable def thw (pc b L r : Nat) (k : KK) (e : Nat) (hp hb mt nc t1 t2 kc ks : Nat) : Option RES := fc (Nat.add kc 1) (fun kc => fc (Nat.add ks 6) (fun ks => thr pc b L r k e (hp, hb, mt, nc, t1, t2, kc, ks)))
noncomputable def rt2 (nx b L r : Nat) (k : KK) (h : HP) (S2 : Nat) : Option RES := br (Nat.beq (Nat.mod (Nat.div b 262144) 2) 1) (br (Nat.beq (dt (r1 S2)) 0) (fc (pu (tp S2) r) (k nx L h)) none) (br (Nat.beq S2 0) (k nx L h r) none)
noncomputable def af2 (pc nx b L r : Nat) (k : KK) (kd : Nat) (h : HP) (S2 : Nat) : Option RES := br (Nat.beq kd 0) (rt2 nx b L r k h S2) (br (Nat.beq (Nat.mod (Nat.shiftRight b 74) 2) 1) none (br (Nat.ble 16 kd) (fc (Nat.sub kd 16) (fun e => thr pc b L r k e h)) (br (Nat.ble kd 4) (fc (Nat.sub kd 1) (fun e => un8 h (thw pc b L r k e))) none)))
noncomputable def after (pc nx b L r : Nat) (k : KK) (res : RES) : Option RES := Prod.rec (fun kd q => Prod.rec (fun _ q => Prod.rec (fun _ q => Prod.rec (fun h S2 => af2 pc nx b L r k kd h S2) q) q) q) res
noncomputable def mmx (w L : Nat) (h : HP) (k : KK) (S : Nat) : Option RES := br (an (isT 1 (tp S)) (isT 1 (sd S))) (br (Nat.ble (ihi (sd S)) (ilo (tp S))) (fc (pu (tp S) (r2 S)) (k (nxt w) L h)) (br (Nat.ble (ihi (tp S)) (ilo (sd S))) (fc (pu (sd S) (r2 S)) (k (nxt w) L h)) none)) none
noncomputable def o_mmax : OP := fun _ _ f lam _ _ w L h _ k S => br (an (Nat.ble 1 f) (an (Nat.ble 21 lam) (catk 9 (r2 S) 0))) (mmx w L h k S) none
def labE (x : Int64) : Int64 := if 0 < x then x else -x
noncomputable def mab (w L : Nat) (h : HP) (k : KK) (S : Nat) : Option RES := br (isT 2 (tp S)) (fc (pu (mkL (lEx (labE (lOf (Nat.div (tp S) 8))))) (r1 S)) (k (nxt w) L h)) none
noncomputable def o_labs : OP := fun _ _ f lam _ _ w L h _ k S => br (an (Nat.ble 1 f) (an (Nat.ble 21 lam) (catk 9 (r1 S) 0))) (mab w L h k S) none
noncomputable def o_fsub : OP := fun _ _ _ _ _ _ _ _ _ _ _ _ => none
noncomputable def o_fmul : OP := fun _ _ _ _ _ _ _ _ _ _ _ _ => none
noncomputable def o_ddiv : OP := fun _ _ _ _ _ _ _ _ _ _ _ _ => none
noncomputable def o_i2d : OP := fun _ _ _ _ _ _ _ _ _ _ _ _ => none
noncomputable def o_l2d : OP := fun _ _ _ _ _ _ _ _ _ _ _ _ => none
noncomputable def o_f2i : OP := fun _ _ _ _ _ _ _ _ _ _ _ _ => none
noncomputable def o_dast : OP := fun _ _ _ _ _ _ _ _ _ _ _ _ => none
noncomputable def o_storeF : OP := fun _ _ _ _ _ _ _ _ _ _ _ _ => none
noncomputable def o_fcmpg : OP := fun _ _ _ _ _ _ _ _ _ _ _ _ => none
noncomputable def o_cast : OP := fun _ _ _ _ _ _ _ _ _ _ _ _ => none
noncomputable def o_fcon : OP := fun _ _ _ _ _ _ _ _ _ _ _ _ => none
