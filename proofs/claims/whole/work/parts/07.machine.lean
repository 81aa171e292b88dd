/-! ===== a machine of numbers: the methods' own bytecode over cells that are lists; what it answers is what the machine answers (08) ===== -/
abbrev AV : Type := Int ⊕ (Int ⊕ (Option Nat ⊕ Unit))
abbrev aI (z : Int) : AV := Sum.inl z
abbrev aJ (z : Int) : AV := Sum.inr (Sum.inl z)
abbrev aR (r : Option Nat) : AV := Sum.inr (Sum.inr (Sum.inl r))
abbrev aU : AV := Sum.inr (Sum.inr (Sum.inr ()))
abbrev AC : Type := Nat × List AV
abbrev AH : Type := List AC
abbrev RV : Type := Option AV × AH
abbrev Cf : Type := MI × Nat × List AV × List AV × AH
/-- go on; a call, and what goes on behind it; an end -/
abbrev SR : Type := (Nat × List AV × List AV × AH) ⊕ ((MI × List AV × AH × Nat × List AV × List AV) ⊕ RV)
def w32 (z : Int) : Int := (z + 2147483648) % 4294967296 - 2147483648
def w64 (z : Int) : Int := (z + 9223372036854775808) % 18446744073709551616 - 9223372036854775808
def w8 (z : Int) : Int := (z + 128) % 256 - 128
def w16 (z : Int) : Int := (z + 32768) % 65536 - 32768
def gS (pc : Nat) (al st : List AV) (h : AH) : Option SR := some (Sum.inl (pc, al, st, h))
def clr (v : AV) : AV := match v with
  | Sum.inr (Sum.inl _) => aU
  | v => v
def sto1 : List AV → Nat → AV → List AV
  | [], _, _ => []
  | _ :: t, 0, v => v :: t
  | a :: t, 1, v => clr a :: t.set 0 v
  | a :: t, k + 2, v => a :: sto1 t (k + 1) v
def sto2 (al : List AV) (k : Nat) (v : AV) : List AV := (sto1 al k v).set (k + 1) aU
def wds : List AV → Nat
  | [] => 0
  | Sum.inl _ :: t => 1 + wds t
  | Sum.inr (Sum.inl _) :: t => 2 + wds t
  | Sum.inr (Sum.inr (Sum.inl _)) :: t => 1 + wds t
  | Sum.inr (Sum.inr (Sum.inr _)) :: t => 2 + wds t
def esl : List AV → List AV
  | [] => []
  | Sum.inr (Sum.inl z) :: t => aJ z :: aU :: esl t
  | v :: t => v :: esl t
def ent (M : MI) (as : List AV) : List AV := esl as ++ List.replicate (mL M - (esl as).length) aU
-- memory
def rd (h : AH) (t a k : Nat) : Option AV := match h[a]? with
  | some c => bif Nat.beq c.1 t then c.2[k]? else none
  | none => none
def wr (h : AH) (t a k : Nat) (v : AV) : AH := match h[a]? with
  | some c => bif Nat.beq c.1 t then h.set a (t, c.2.set k v) else h
  | none => h
def isO (h : AH) (t a : Nat) : Bool := match h[a]? with
  | some c => Nat.beq c.1 t
  | none => false
def ln (h : AH) (a : Nat) : Option Nat := match h[a]? with
  | some c => bif Nat.ble 10 c.1 then some c.2.length else none
  | none => none
def okV (kd : Nat) (v : AV) : Bool := match v with
  | Sum.inl z => (Nat.beq kd 0) || (Nat.beq kd 1 && (z == 0 || z == 1))
  | Sum.inr (Sum.inl _) => Nat.beq kd 2
  | Sum.inr (Sum.inr (Sum.inl _)) => Nat.beq kd 3
  | _ => false
-- operations
def cnd (c : Jvm.ClassFile.Cond) (a b : Int) : Bool := match c with
  | .eq => decide (a = b)
  | .ne => decide (¬ a = b)
  | .lt => decide (a < b)
  | .ge => decide (b ≤ a)
  | .gt => decide (b < a)
  | .le => decide (a ≤ b)
def tg (pc : Nat) (off : Int) : Option Nat := if 0 ≤ (pc : Int) + off then some ((pc : Int) + off).toNat else none
def fShl (a b : Int) : Int := (Int32.ofInt a <<< (Int32.ofInt b &&& 31)).toInt
def fShr (a b : Int) : Int := (Int32.ofInt a >>> (Int32.ofInt b &&& 31)).toInt
def fAnd (a b : Int) : Int := (Int32.ofInt a &&& Int32.ofInt b).toInt
def fOr (a b : Int) : Int := (Int32.ofInt a ||| Int32.ofInt b).toInt
def fAndJ (a b : Int) : Int := (Int64.ofInt a &&& Int64.ofInt b).toInt
def fXorJ (a b : Int) : Int := (Int64.ofInt a ^^^ Int64.ofInt b).toInt
def fCmp (a b : Int) : Int := if b < a then 1 else if a = b then 0 else -1
def hB32 (f : Int → Int → Int) (pc : Nat) (al st : List AV) (h : AH) : Option SR := match st with
  | Sum.inl b :: Sum.inl a :: st' => gS (pc + 1) al (aI (f a b) :: st') h
  | _ => none
def hB64 (f : Int → Int → Int) (pc : Nat) (al st : List AV) (h : AH) : Option SR := match st with
  | Sum.inr (Sum.inl b) :: Sum.inr (Sum.inl a) :: st' => gS (pc + 1) al (aJ (f a b) :: st') h
  | _ => none
def hD32 (f : Int → Int → Int) (pc : Nat) (al st : List AV) (h : AH) : Option SR := match st with
  | Sum.inl b :: Sum.inl a :: st' => if b = 0 then none else gS (pc + 1) al (aI (f a b) :: st') h
  | _ => none
def hD64 (f : Int → Int → Int) (pc : Nat) (al st : List AV) (h : AH) : Option SR := match st with
  | Sum.inr (Sum.inl b) :: Sum.inr (Sum.inl a) :: st' => if b = 0 then none else gS (pc + 1) al (aJ (f a b) :: st') h
  | _ => none
def hU32 (f : Int → AV) (pc : Nat) (al st : List AV) (h : AH) : Option SR := match st with
  | Sum.inl a :: st' => gS (pc + 1) al (f a :: st') h
  | _ => none
def hU64 (f : Int → AV) (pc : Nat) (al st : List AV) (h : AH) : Option SR := match st with
  | Sum.inr (Sum.inl a) :: st' => gS (pc + 1) al (f a :: st') h
  | _ => none
def hLI (k n pc : Nat) (al st : List AV) (h : AH) : Option SR := match al[k]? with
  | some (Sum.inl z) => gS (pc + n) al (aI z :: st) h
  | _ => none
def hLJ (k n pc : Nat) (al st : List AV) (h : AH) : Option SR := match al[k]? with
  | some (Sum.inr (Sum.inl z)) => gS (pc + n) al (aJ z :: st) h
  | _ => none
def hLR (k n pc : Nat) (al st : List AV) (h : AH) : Option SR := match al[k]? with
  | some (Sum.inr (Sum.inr (Sum.inl r))) => gS (pc + n) al (aR r :: st) h
  | _ => none
def hSI (k n pc : Nat) (al st : List AV) (h : AH) : Option SR := match st with
  | Sum.inl z :: st' => bif Nat.blt k al.length then gS (pc + n) (sto1 al k (aI z)) st' h else none
  | _ => none
def hSJ (k n pc : Nat) (al st : List AV) (h : AH) : Option SR := match st with
  | Sum.inr (Sum.inl z) :: st' => bif Nat.blt (k + 1) al.length then gS (pc + n) (sto2 al k (aJ z)) st' h else none
  | _ => none
def hSR (k n pc : Nat) (al st : List AV) (h : AH) : Option SR := match st with
  | Sum.inr (Sum.inr (Sum.inl r)) :: st' => bif Nat.blt k al.length then gS (pc + n) (sto1 al k (aR r)) st' h else none
  | _ => none
def hInc (k : Nat) (c : Int) (pc : Nat) (al st : List AV) (h : AH) : Option SR := match al[k]? with
  | some (Sum.inl z) => gS (pc + 3) (sto1 al k (aI (w32 (z + c)))) st h
  | _ => none
def hIf (c : Jvm.ClassFile.Cond) (off : Int) (pc : Nat) (al st : List AV) (h : AH) : Option SR := match st with
  | Sum.inl a :: st' => (match tg pc off with
    | some t => bif cnd c a 0 then gS t al st' h else gS (pc + 3) al st' h
    | none => none)
  | _ => none
def hCmp (c : Jvm.ClassFile.Cond) (off : Int) (pc : Nat) (al st : List AV) (h : AH) : Option SR := match st with
  | Sum.inl b :: Sum.inl a :: st' => (match tg pc off with
    | some t => bif cnd c a b then gS t al st' h else gS (pc + 3) al st' h
    | none => none)
  | _ => none
def hNull (neg : Bool) (off : Int) (pc : Nat) (al st : List AV) (h : AH) : Option SR := match st with
  | Sum.inr (Sum.inr (Sum.inl none)) :: st' => bif neg then gS (pc + 3) al st' h else (match tg pc off with
    | some t => gS t al st' h
    | none => none)
  | Sum.inr (Sum.inr (Sum.inl (some _))) :: st' => bif neg then (match tg pc off with
    | some t => gS t al st' h
    | none => none) else gS (pc + 3) al st' h
  | _ => none
def hTab (d lo hi : Int) (offs : Array Int) (pc : Nat) (al st : List AV) (h : AH) : Option SR := match st with
  | Sum.inl x :: st' => if x < lo ∨ hi < x then (match tg pc d with
    | some t => gS t al st' h
    | none => none) else (match offs[(x - lo).toNat]? with
    | some o => (match tg pc o with
      | some t => gS t al st' h
      | none => none)
    | none => none)
  | _ => none
def hGet (M : MI) (idx pc : Nat) (al st : List AV) (h : AH) : Option SR := match fT (mK M) idx with
  | some q => (match st with
    | Sum.inr (Sum.inr (Sum.inl (some a))) :: st' => (match rd h q.1 a q.2.1 with
      | some v => gS (pc + 3) al (v :: st') h
      | none => none)
    | _ => none)
  | none => none
def hPut (M : MI) (idx pc : Nat) (al st : List AV) (h : AH) : Option SR := match fT (mK M) idx with
  | some q => (match st with
    | v :: Sum.inr (Sum.inr (Sum.inl (some a))) :: st' => (match rd h q.1 a q.2.1 with
      | some _ => bif okV q.2.2.1 v && (!q.2.2.2 || (decide ((mY M).name = "<init>") && Nat.beq (mK M) q.1)) then gS (pc + 3) al st' (wr h q.1 a q.2.1 v) else none
      | none => none)
    | _ => none)
  | none => none
def hAld (t pc : Nat) (al st : List AV) (h : AH) : Option SR := match st with
  | Sum.inl i :: Sum.inr (Sum.inr (Sum.inl (some a))) :: st' => if 0 ≤ i then (match rd h t a i.toNat with
    | some v => gS (pc + 1) al (v :: st') h
    | none => none) else none
  | _ => none
def tagR (h : AH) (a : Nat) : Nat := match h[a]? with
  | some c => c.1
  | none => 0
def hAldR (pc : Nat) (al st : List AV) (h : AH) : Option SR := match st with
  | Sum.inl i :: Sum.inr (Sum.inr (Sum.inl (some a))) :: st' => if 0 ≤ i ∧ 12 ≤ tagR h a then (match rd h (tagR h a) a i.toNat with
    | some v => gS (pc + 1) al (v :: st') h
    | none => none) else none
  | _ => none
def hAstI (pc : Nat) (al st : List AV) (h : AH) : Option SR := match st with
  | Sum.inl x :: Sum.inl i :: Sum.inr (Sum.inr (Sum.inl (some a))) :: st' => if 0 ≤ i then (match rd h 10 a i.toNat with
    | some _ => gS (pc + 1) al st' (wr h 10 a i.toNat (aI x))
    | none => none) else none
  | _ => none
def hAstJ (pc : Nat) (al st : List AV) (h : AH) : Option SR := match st with
  | Sum.inr (Sum.inl x) :: Sum.inl i :: Sum.inr (Sum.inr (Sum.inl (some a))) :: st' => if 0 ≤ i then (match rd h 11 a i.toNat with
    | some _ => gS (pc + 1) al st' (wr h 11 a i.toNat (aJ x))
    | none => none) else none
  | _ => none
def elT (t : Nat) : Nat := match t with
  | 12 => 1
  | 13 => 3
  | _ => 0
def hAstR (pc : Nat) (al st : List AV) (h : AH) : Option SR := match st with
  | Sum.inr (Sum.inr (Sum.inl (some x))) :: Sum.inl i :: Sum.inr (Sum.inr (Sum.inl (some a))) :: st' => if 0 ≤ i ∧ 12 ≤ tagR h a ∧ tagR h a ≤ 14 ∧ isO h (elT (tagR h a)) x = true then (match rd h (tagR h a) a i.toNat with
    | some _ => gS (pc + 1) al st' (wr h (tagR h a) a i.toNat (aR (some x)))
    | none => none) else none
  | _ => none
def hLen (pc : Nat) (al st : List AV) (h : AH) : Option SR := match st with
  | Sum.inr (Sum.inr (Sum.inl (some a))) :: st' => (match ln h a with
    | some n => gS (pc + 1) al (aI n :: st') h
    | none => none)
  | _ => none
def dfv (t : FieldType) : AV := match t with
  | .long => aJ 0
  | .object _ => aR none
  | .array _ => aR none
  | _ => aI 0
def dfl (c : Nat) : List AV := (List.range (clsF c)).map fun k => dfv (clsY c k)
def hNew (M : MI) (idx pc : Nat) (al st : List AV) (h : AH) : Option SR := match lk nLst (mK M) idx with
  | some c => gS (pc + 3) al (aR (some h.length) :: st) (h ++ [(c, dfl c)])
  | none => none
def hNwa (t : Nat) (d : AV) (pc : Nat) (al st : List AV) (h : AH) : Option SR := match st with
  | Sum.inl n :: st' => if 0 ≤ n ∧ n ≤ 1000 then gS (pc + 2) al (aR (some h.length) :: st') (h ++ [(t, List.replicate n.toNat d)]) else none
  | _ => none
def hNwr (M : MI) (idx pc : Nat) (al st : List AV) (h : AH) : Option SR := match lk aLst (mK M) idx with
  | some t => (match st with
    | Sum.inl n :: st' => if 0 ≤ n ∧ n ≤ 1000 then gS (pc + 3) al (aR (some h.length) :: st') (h ++ [(t, List.replicate n.toNat (aR none))]) else none
    | _ => none)
  | none => none
def cpL (vs ws : List AV) (sp dp n : Nat) : List AV := (List.range ws.length).map fun k => if dp ≤ k ∧ k < dp + n then vs.getD (sp + (k - dp)) aU else ws.getD k aU
def hCpy (pc : Nat) (al st : List AV) (h : AH) : Option SR := match st with
  | Sum.inl n :: Sum.inl dp :: Sum.inr (Sum.inr (Sum.inl (some d))) :: Sum.inl sp :: Sum.inr (Sum.inr (Sum.inl (some s))) :: st' => (match h[s]?, h[d]? with
    | some c, some e => if c.1 = 11 ∧ e.1 = 11 ∧ 0 ≤ n ∧ 0 ≤ dp ∧ 0 ≤ sp ∧ sp + n ≤ c.2.length ∧ dp + n ≤ e.2.length ∧ wds st' ≤ 8 then gS (pc + 3) al st' (h.set d (11, cpL c.2 e.2 sp.toNat dp.toNat n.toNat)) else none
    | _, _ => none)
  | _ => none
def nU (v : AV) : Bool := match v with
  | Sum.inr (Sum.inr (Sum.inr _)) => false
  | _ => true
def kOk (k ik : Nat) : Bool := match ik with
  | 0 => Nat.beq k 0
  | 1 => Nat.beq k 1
  | _ => Nat.beq k 2 || Nat.beq k 3
def rcv (k : Nat) (M1 : MI) (as : List AV) (h : AH) : Bool := match k with
  | 1 => true
  | 0 => (match as with
    | Sum.inr (Sum.inr (Sum.inl (some a))) :: _ => Nat.blt (mK M1) 6 && isO h (mK M1) a
    | _ => false)
  | _ => (match as with
    | Sum.inr (Sum.inr (Sum.inl (some _))) :: _ => true
    | _ => false)
def hCal (ik : Nat) (M : MI) (idx pc : Nat) (al st : List AV) (h : AH) : Option SR := match cT (mK M) idx with
  | some q => bif kOk q.1 ik && (Nat.blt (mR q.2) (mR M) && (Nat.ble (19 + mL q.2 + mW q.2) (mW M) && (Nat.ble (mN q.2) st.length && (Nat.ble (wds (st.drop (mN q.2))) 8 && (Nat.ble (esl (st.take (mN q.2)).reverse).length (mL q.2) && ((st.take (mN q.2)).reverse.all nU && rcv q.1 q.2 (st.take (mN q.2)).reverse h))))))
    then some (Sum.inr (Sum.inl (q.2, (st.take (mN q.2)).reverse, h, pc + 3, al, st.drop (mN q.2)))) else none
  | none => none
def hObj (M : MI) (pc : Nat) (al st : List AV) (h : AH) : Option SR := match st with
  | Sum.inr (Sum.inr (Sum.inl (some _))) :: st' => bif Nat.ble 1 (mR M) && (Nat.ble 20 (mW M) && Nat.ble (wds st') 8) then gS (pc + 3) al st' h else none
  | _ => none
def hSpe (M : MI) (idx pc : Nat) (al st : List AV) (h : AH) : Option SR := match lk oLst (mK M) idx with
  | some _ => hObj M pc al st h
  | none => hCal 2 M idx pc al st h
def acpI : Nat := 112
def hSta (M : MI) (idx pc : Nat) (al st : List AV) (h : AH) : Option SR := bif Nat.beq (mK M) 4 && Nat.beq idx acpI then (bif Nat.ble 1 (mR M) && Nat.ble 30 (mW M) then hCpy pc al st h else none) else hCal 1 M idx pc al st h
def rS (r : Option AV) (h : AH) : Option SR := some (Sum.inr (Sum.inr (r, h)))
def hRetI (M : MI) (st : List AV) (h : AH) : Option SR := match st with
  | [Sum.inl z] => (match mT M with
    | some .int => rS (some (aI z)) h
    | some .boolean => if z = 0 ∨ z = 1 then rS (some (aI z)) h else none
    | _ => none)
  | _ => none
def hRetJ (M : MI) (st : List AV) (h : AH) : Option SR := match st with
  | [Sum.inr (Sum.inl z)] => (match mT M with
    | some .long => rS (some (aJ z)) h
    | _ => none)
  | _ => none
def hRetR (M : MI) (st : List AV) (h : AH) : Option SR := match st with
  | [Sum.inr (Sum.inr (Sum.inl r))] => (match mT M with
    | some (.object _) => rS (some (aR r)) h
    | _ => none)
  | _ => none
def hRetV (M : MI) (st : List AV) (h : AH) : Option SR := match st with
  | [] => (match mT M with
    | none => rS none h
    | _ => none)
  | _ => none
def hDup (pc : Nat) (al st : List AV) (h : AH) : Option SR := match st with
  | Sum.inl z :: st' => gS (pc + 1) al (aI z :: aI z :: st') h
  | Sum.inr (Sum.inr (Sum.inl r)) :: st' => gS (pc + 1) al (aR r :: aR r :: st') h
  | _ => none
def hDup2 (pc : Nat) (al st : List AV) (h : AH) : Option SR := match st with
  | Sum.inr (Sum.inl z) :: st' => gS (pc + 1) al (aJ z :: aJ z :: st') h
  | Sum.inl z :: Sum.inr (Sum.inr (Sum.inl r)) :: st' => gS (pc + 1) al (aI z :: aR r :: aI z :: aR r :: st') h
  | _ => none
def hPop (pc : Nat) (al st : List AV) (h : AH) : Option SR := match st with
  | Sum.inl _ :: st' => gS (pc + 1) al st' h
  | Sum.inr (Sum.inr (Sum.inl _)) :: st' => gS (pc + 1) al st' h
  | _ => none
def q1 (n k : Nat) (x : Option SR) : Option SR := bif Nat.beq n k then x else none
def stI (M : MI) (i : Instr) (n pc : Nat) (al st : List AV) (h : AH) : Option SR := match i with
  | .iconst z => q1 n 1 (if -1 ≤ z ∧ z ≤ 5 then gS (pc + 1) al (aI z :: st) h else none)
  | .lconst k => q1 n 1 (gS (pc + 1) al (aJ ((k : Nat) : Int) :: st) h)
  | .bipush z => q1 n 2 (if -128 ≤ z ∧ z ≤ 127 then gS (pc + 2) al (aI z :: st) h else none)
  | .sipush z => q1 n 3 (if -32768 ≤ z ∧ z ≤ 32767 then gS (pc + 3) al (aI z :: st) h else none)
  | .ldc k => q1 n 2 (match lk kILst (mK M) k with
    | some z => gS (pc + 2) al (aI z :: st) h
    | none => none)
  | .ldc2_w k => q1 n 3 (match lk kJLst (mK M) k with
    | some z => gS (pc + 3) al (aJ z :: st) h
    | none => none)
  | .aconst_null => q1 n 1 (gS (pc + 1) al (aR none :: st) h)
  | .iload_n k => q1 n 1 (hLI k 1 pc al st h)
  | .iload k => q1 n 2 (hLI k 2 pc al st h)
  | .lload_n k => q1 n 1 (hLJ k 1 pc al st h)
  | .lload k => q1 n 2 (hLJ k 2 pc al st h)
  | .aload_n k => q1 n 1 (hLR k 1 pc al st h)
  | .aload k => q1 n 2 (hLR k 2 pc al st h)
  | .istore_n k => q1 n 1 (hSI k 1 pc al st h)
  | .istore k => q1 n 2 (hSI k 2 pc al st h)
  | .lstore_n k => q1 n 1 (hSJ k 1 pc al st h)
  | .lstore k => q1 n 2 (hSJ k 2 pc al st h)
  | .astore_n k => q1 n 1 (hSR k 1 pc al st h)
  | .astore k => q1 n 2 (hSR k 2 pc al st h)
  | .iinc k c => q1 n 3 (hInc k c pc al st h)
  | .iadd => q1 n 1 (hB32 (fun a b => w32 (a + b)) pc al st h)
  | .isub => q1 n 1 (hB32 (fun a b => w32 (a - b)) pc al st h)
  | .imul => q1 n 1 (hB32 (fun a b => w32 (a * b)) pc al st h)
  | .idiv => q1 n 1 (hD32 (fun a b => w32 (a.tdiv b)) pc al st h)
  | .irem => q1 n 1 (hD32 (fun a b => a.tmod b) pc al st h)
  | .ineg => q1 n 1 (hU32 (fun a => aI (w32 (-a))) pc al st h)
  | .iand => q1 n 1 (hB32 fAnd pc al st h)
  | .ior => q1 n 1 (hB32 fOr pc al st h)
  | .ishl => q1 n 1 (hB32 fShl pc al st h)
  | .ishr => q1 n 1 (hB32 fShr pc al st h)
  | .ladd => q1 n 1 (hB64 (fun a b => w64 (a + b)) pc al st h)
  | .lsub => q1 n 1 (hB64 (fun a b => w64 (a - b)) pc al st h)
  | .lmul => q1 n 1 (hB64 (fun a b => w64 (a * b)) pc al st h)
  | .ldiv => q1 n 1 (hD64 (fun a b => w64 (a.tdiv b)) pc al st h)
  | .lrem => q1 n 1 (hD64 (fun a b => a.tmod b) pc al st h)
  | .lneg => q1 n 1 (hU64 (fun a => aJ (w64 (-a))) pc al st h)
  | .land => q1 n 1 (hB64 fAndJ pc al st h)
  | .lxor => q1 n 1 (hB64 fXorJ pc al st h)
  | .lcmp => q1 n 1 (match st with
    | Sum.inr (Sum.inl b) :: Sum.inr (Sum.inl a) :: st' => gS (pc + 1) al (aI (fCmp a b) :: st') h
    | _ => none)
  | .i2l => q1 n 1 (hU32 (fun a => aJ a) pc al st h)
  | .l2i => q1 n 1 (hU64 (fun a => aI (w32 a)) pc al st h)
  | .i2b => q1 n 1 (hU32 (fun a => aI (w8 a)) pc al st h)
  | .i2s => q1 n 1 (hU32 (fun a => aI (w16 a)) pc al st h)
  | .dup => q1 n 1 (hDup pc al st h)
  | .dup2 => q1 n 1 (hDup2 pc al st h)
  | .pop => q1 n 1 (hPop pc al st h)
  | .goto off => q1 n 3 (match tg pc off with
    | some t => gS t al st h
    | none => none)
  | .ifCond c off => q1 n 3 (hIf c off pc al st h)
  | .if_icmp c off => q1 n 3 (hCmp c off pc al st h)
  | .ifnull off => q1 n 3 (hNull false off pc al st h)
  | .ifnonnull off => q1 n 3 (hNull true off pc al st h)
  | .tableswitch d lo hi offs => hTab d lo hi offs pc al st h
  | .getfield k => q1 n 3 (hGet M k pc al st h)
  | .putfield k => q1 n 3 (hPut M k pc al st h)
  | .iaload => q1 n 1 (hAld 10 pc al st h)
  | .laload => q1 n 1 (hAld 11 pc al st h)
  | .aaload => q1 n 1 (hAldR pc al st h)
  | .iastore => q1 n 1 (hAstI pc al st h)
  | .lastore => q1 n 1 (hAstJ pc al st h)
  | .aastore => q1 n 1 (hAstR pc al st h)
  | .arraylength => q1 n 1 (hLen pc al st h)
  | .new k => q1 n 3 (hNew M k pc al st h)
  | .newarray .int => q1 n 2 (hNwa 10 (aI 0) pc al st h)
  | .newarray .long => q1 n 2 (hNwa 11 (aJ 0) pc al st h)
  | .anewarray k => q1 n 3 (hNwr M k pc al st h)
  | .invokevirtual k => q1 n 3 (hCal 0 M k pc al st h)
  | .invokestatic k => q1 n 3 (hSta M k pc al st h)
  | .invokespecial k => q1 n 3 (hSpe M k pc al st h)
  | .ireturn => q1 n 1 (hRetI M st h)
  | .lreturn => q1 n 1 (hRetJ M st h)
  | .areturn => q1 n 1 (hRetR M st h)
  | .return_ => q1 n 1 (hRetV M st h)
  | _ => none
def stp (M : MI) (pc : Nat) (al st : List AV) (h : AH) : Option SR := match decode (mC M) pc with
  | .ok q => stI M q.1 q.2 pc al st h
  | .error _ => none
def exec : Nat → Cf → Option RV
  | 0, _ => none
  | n + 1, c => match stp c.1 c.2.1 c.2.2.1 c.2.2.2.1 c.2.2.2.2 with
    | none => none
    | some (Sum.inl q) => exec n (c.1, q)
    | some (Sum.inr (Sum.inl q)) => (match exec n (q.1, 0, ent q.1 q.2.1, [], q.2.2.1) with
      | none => none
      | some r => exec n (c.1, q.2.2.2.1, q.2.2.2.2.1, r.1.toList ++ q.2.2.2.2.2, r.2))
    | some (Sum.inr (Sum.inr r)) => some r
theorem exec_succ : ∀ (n : Nat) (c : Cf) (r : RV), exec n c = some r → exec (n + 1) c = some r := by
  intro n
  induction n with
  | zero => intro c r h; cases h
  | succ n ih =>
    intro c r h
    rw [exec] at h ⊢
    cases hs : stp c.1 c.2.1 c.2.2.1 c.2.2.2.1 c.2.2.2.2 with
    | none => rw [hs] at h; cases h
    | some x =>
      rw [hs] at h
      match x, h with
      | Sum.inl q, h => exact ih _ _ h
      | Sum.inr (Sum.inl q), h =>
        simp only at h ⊢
        cases h1 : exec n (q.1, 0, ent q.1 q.2.1, [], q.2.2.1) with
        | none => rw [h1] at h; cases h
        | some r1 =>
          rw [h1] at h
          rw [ih _ _ h1]
          exact ih _ _ h
      | Sum.inr (Sum.inr r1), h => exact h
theorem exec_le {n k : Nat} {c : Cf} {r : RV} (hk : n ≤ k) (h : exec n c = some r) : exec k c = some r := by
  induction hk with
  | refl => exact h
  | step _ ih => exact exec_succ _ _ _ ih
/-- what the bytecode answers from a point on, if it comes to an end -/
noncomputable def X (M : MI) (pc : Nat) (al st : List AV) (h : AH) : Option RV := @dite _ (∃ r n, exec n (M, pc, al, st, h) = some r) (Classical.propDecidable _) (fun e => some e.choose) (fun _ => none)
theorem X_iff {M : MI} {pc : Nat} {al st : List AV} {h : AH} {r : RV} : X M pc al st h = some r ↔ ∃ n, exec n (M, pc, al, st, h) = some r := by
  unfold X
  constructor
  · intro q
    split at q
    · rename_i e
      cases q
      exact e.choose_spec
    · cases q
  · intro q
    obtain ⟨n, hn⟩ := q
    have e : ∃ r n, exec n (M, pc, al, st, h) = some r := ⟨r, n, hn⟩
    rw [dif_pos e]
    obtain ⟨k, hk⟩ := e.choose_spec
    have h1 := exec_le (Nat.le_max_left n k) hn
    have h2 := exec_le (Nat.le_max_right n k) hk
    rw [h1] at h2
    exact congrArg some (Option.some.inj h2).symm
theorem X_ext {M M1 : MI} {pc pc1 : Nat} {al st al1 st1 : List AV} {h h1 : AH} (q : ∀ r, (∃ n, exec n (M, pc, al, st, h) = some r) ↔ ∃ n, exec n (M1, pc1, al1, st1, h1) = some r) : X M pc al st h = X M1 pc1 al1 st1 h1 := by
  cases e : X M pc al st h with
  | some r => exact (X_iff.mpr ((q r).mp (X_iff.mp e))).symm
  | none =>
    cases e1 : X M1 pc1 al1 st1 h1 with
    | none => rfl
    | some r =>
      rw [X_iff.mpr ((q r).mpr (X_iff.mp e1))] at e
      cases e
theorem X_go {M : MI} {pc pc1 : Nat} {al st al1 st1 : List AV} {h h1 : AH} (q : stp M pc al st h = gS pc1 al1 st1 h1) : X M pc al st h = X M pc1 al1 st1 h1 := by
  refine X_ext fun r => ⟨fun ⟨n, hn⟩ => ?_, fun ⟨n, hn⟩ => ⟨n + 1, ?_⟩⟩
  · cases n with
    | zero => cases hn
    | succ n =>
      rw [exec] at hn
      simp only [q, gS] at hn
      exact ⟨n, hn⟩
  · rw [exec]
    simp only [q, gS]
    exact hn
theorem X_ret {M : MI} {pc : Nat} {al st : List AV} {h h1 : AH} {r : Option AV} (q : stp M pc al st h = rS r h1) : X M pc al st h = some (r, h1) := by
  refine X_iff.mpr ⟨1, ?_⟩
  rw [exec]
  simp only [q, rS]
/-- a call, and what goes on with its answer -/
def cK (r : Option RV) (k : Option AV → AH → Option RV) : Option RV := match r with
  | none => none
  | some q => k q.1 q.2
theorem cK_some {v : Option AV} {h : AH} {k : Option AV → AH → Option RV} : cK (some (v, h)) k = k v h := rfl
noncomputable def E (M : MI) (as : List AV) (h : AH) : Option RV := X M 0 (ent M as) [] h
theorem X_call {M M1 : MI} {pc pc1 : Nat} {al st al1 st1 as : List AV} {h h1 : AH} (q : stp M pc al st h = some (Sum.inr (Sum.inl (M1, as, h1, pc1, al1, st1)))) : X M pc al st h = cK (E M1 as h1) fun v h2 => X M pc1 al1 (v.toList ++ st1) h2 := by
  unfold E
  cases e : X M1 0 (ent M1 as) [] h1 with
  | some r =>
    obtain ⟨k, hk⟩ := X_iff.mp e
    refine X_ext fun r2 => ⟨fun ⟨n, hn⟩ => ?_, fun ⟨n, hn⟩ => ⟨max n k + 1, ?_⟩⟩
    · cases n with
      | zero => cases hn
      | succ n =>
        rw [exec] at hn
        simp only [q] at hn
        cases e1 : exec n (M1, 0, ent M1 as, [], h1) with
        | none => rw [e1] at hn; cases hn
        | some r3 =>
          rw [e1] at hn
          have h4 := exec_le (Nat.le_max_left n k) e1
          rw [exec_le (Nat.le_max_right n k) hk] at h4
          cases h4
          exact ⟨n, hn⟩
    · rw [exec]
      simp only [q]
      rw [exec_le (Nat.le_max_right n k) hk]
      exact exec_le (Nat.le_max_left n k) hn
  | none =>
    show X M pc al st h = none
    cases e2 : X M pc al st h with
    | none => rfl
    | some r =>
      obtain ⟨n, hn⟩ := X_iff.mp e2
      cases n with
      | zero => cases hn
      | succ n =>
        rw [exec] at hn
        simp only [q] at hn
        cases e1 : exec n (M1, 0, ent M1 as, [], h1) with
        | none => rw [e1] at hn; cases hn
        | some r3 => rw [X_iff.mpr ⟨n, e1⟩] at e; cases e
