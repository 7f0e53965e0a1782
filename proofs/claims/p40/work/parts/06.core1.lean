/-! ===== THE PURE MACHINE: what the claim's methods do to their cells, as a function; the tables are the part ahead ===== -/
abbrev PL : Type := List (Nat × Value)
/-- a state: how many cells, how many slots; of each cell its kind and size; its references, ints, longs -/
abbrev PSt : Type := Nat × Nat × (Nat → Nat × Nat) × (Nat → Nat → Option Nat) × (Nat → Nat → Int32) × (Nat → Nat → Int64)
abbrev pnc (σ : PSt) : Nat := σ.1
abbrev pns (σ : PSt) : Nat := σ.2.1
abbrev ply (σ : PSt) : Nat → Nat × Nat := σ.2.2.1
abbrev prv (σ : PSt) : Nat → Nat → Option Nat := σ.2.2.2.1
abbrev piv (σ : PSt) : Nat → Nat → Int32 := σ.2.2.2.2.1
abbrev plv (σ : PSt) : Nat → Nat → Int64 := σ.2.2.2.2.2
def up1 {α : Type} (f : Nat → α) (k : Nat) (x : α) : Nat → α := fun j => if j = k then x else f j
def up2 {α : Type} (f : Nat → Nat → α) (k i : Nat) (x : α) : Nat → Nat → α := fun a j => if a = k ∧ j = i then x else f a j
theorem up1_s {α : Type} {f : Nat → α} {k : Nat} {x : α} : up1 f k x k = x := by simp [up1]
theorem up1_n {α : Type} {f : Nat → α} {k j : Nat} {x : α} (h : j ≠ k) : up1 f k x j = f j := by simp [up1, h]
theorem up2_s {α : Type} {f : Nat → Nat → α} {k i : Nat} {x : α} : up2 f k i x k i = x := by simp [up2]
theorem up2_n {α : Type} {f : Nat → Nat → α} {k i a : Nat} {x : α} (h : a ≠ k) : up2 f k i x a = f a := by
  funext j
  simp [up2, h]
def wiv (σ : PSt) (k i : Nat) (x : Int32) : PSt := (σ.1, σ.2.1, σ.2.2.1, σ.2.2.2.1, up2 (piv σ) k i x, σ.2.2.2.2.2)
def wlv (σ : PSt) (k i : Nat) (x : Int64) : PSt := (σ.1, σ.2.1, σ.2.2.1, σ.2.2.2.1, σ.2.2.2.2.1, up2 (plv σ) k i x)
def wrv (σ : PSt) (k i : Nat) (x : Option Nat) : PSt := (σ.1, σ.2.1, σ.2.2.1, up2 (prv σ) k i x, σ.2.2.2.2.1, σ.2.2.2.2.2)
/-- a row of ints, or of longs, anew -/
def riv (σ : PSt) (k : Nat) (f : Nat → Int32) : PSt := (σ.1, σ.2.1, σ.2.2.1, σ.2.2.2.1, up1 (piv σ) k f, σ.2.2.2.2.2)
def rlv (σ : PSt) (k : Nat) (f : Nat → Int64) : PSt := (σ.1, σ.2.1, σ.2.2.1, σ.2.2.2.1, σ.2.2.2.2.1, up1 (plv σ) k f)
/-- a new cell of a kind and size, all 0 -/
def mkc (σ : PSt) (tag a n : Nat) : PSt := (σ.1 + 1, σ.2.1 + n, up1 (ply σ) σ.1 (tag, a), up1 (prv σ) σ.1 (fun _ => none), up1 (piv σ) σ.1 (fun _ => 0), up1 (plv σ) σ.1 (fun _ => 0))
/-- the locals: a list by place -/
def lk : PL → Nat → Option Value
  | [], _ => none
  | q :: t, k => bif Nat.beq q.1 k then some q.2 else lk t k
def put : PL → Nat → Value → PL
  | [], k, v => [(k, v)]
  | q :: t, k, v => bif Nat.blt k q.1 then (k, v) :: q :: t else q :: put t k v
def rmk (L : PL) (i : Nat) : PL := L.filter (fun q => !(Nat.beq q.1 i))
def lg (L : PL) (i : Nat) : Bool := match lk L i with | some v => Nat.beq v.category 2 | none => false
def rm1 (L : PL) (i : Nat) : PL := match i with
  | 0 => rmk L 0
  | j + 1 => bif lg L j then rmk (rmk L (j + 1)) j else rmk L (j + 1)
def rm2 (L : PL) (i : Nat) : PL := rmk (rm1 L i) (i + 1)
def ins1 (L : PL) (k : Nat) (v : Value) : PL := put (rm1 L k) k v
def ins2 (L : PL) (k : Nat) (v : Value) : PL := put (rm2 L k) k v
/-- read-only rows: their lengths and ints (0: the script) -/
abbrev PRo : Type := Nat × (Nat → Nat) × (Nat → Nat → Int32)
def ilen : Instr → Nat
  | .bipush _ => 2 | .iload _ => 2 | .istore _ => 2 | .aload _ => 2 | .astore _ => 2 | .lload _ => 2 | .lstore _ => 2 | .newarray _ => 2
  | .sipush _ => 3 | .getfield _ => 3 | .putfield _ => 3 | .getstatic _ => 3 | .goto _ => 3 | .ifCond _ _ => 3 | .if_icmp _ _ => 3
  | .invokevirtual _ => 3 | .invokestatic _ => 3 | .invokespecial _ => 3 | .new _ => 3 | .iinc _ _ => 3 | .ldc_w _ => 3 | .ldc2_w _ => 3
  | .multianewarray _ _ => 4
  | _ => 1
def lenOk (i : Instr) (len : Nat) : Bool := match i with
  | .tableswitch _ _ _ _ => true
  | .lookupswitch _ _ => true
  | _ => Nat.beq len (ilen i)
def tgt (pc : Nat) (off : Int) : Option Nat := if 0 ≤ (pc : Int) + off then some ((pc : Int) + off).toNat else none
def pbr {α : Type} (cc : ClassFile.Cond) (x y : Int32) (a b : α) : α := match cc with
  | .eq => if x = y then a else b
  | .ne => if x = y then b else a
  | .lt => if x < y then a else b
  | .ge => if y ≤ x then a else b
  | .gt => if y < x then a else b
  | .le => if x ≤ y then a else b
/-- an index within a row -/
abbrev vin (i : Int32) (n : Nat) : Prop := 0 ≤ i.toInt ∧ i.toInt < (n : Int)
abbrev PO : Type := Option (Nat × List Value × PSt)
def oI1 (st : List Value) (f : Int32 → Int32) (pc : Nat) (σ : PSt) : PO := match st with | .int x :: r => some (pc, .int (f x) :: r, σ) | _ => none
def oI2 (st : List Value) (f : Int32 → Int32 → Int32) (pc : Nat) (σ : PSt) : PO := match st with | .int y :: .int x :: r => some (pc, .int (f x y) :: r, σ) | _ => none
def oD2 (st : List Value) (f : Int32 → Int32 → Int32) (pc : Nat) (σ : PSt) : PO := match st with | .int y :: .int x :: r => if y = 0 then none else some (pc, .int (f x y) :: r, σ) | _ => none
def oL2 (st : List Value) (f : Int64 → Int64 → Int64) (pc : Nat) (σ : PSt) : PO := match st with | .long y :: .long x :: r => some (pc, .long (f x y) :: r, σ) | _ => none
def oE2 (st : List Value) (f : Int64 → Int64 → Int64) (pc : Nat) (σ : PSt) : PO := match st with | .long y :: .long x :: r => if y = 0 then none else some (pc, .long (f x y) :: r, σ) | _ => none
def fval (σ : PSt) (ci o f : Nat) : Value := match fk ci f with
  | 0 => (match prv σ o f with | some j => .ref j | none => .null)
  | 2 => .long (plv σ o f)
  | _ => .int (piv σ o f)
def oGet (c k : Nat) (st : List Value) (pc : Nat) (σ : PSt) : PO := match st with
  | .ref o :: r => match fl c k with
    | some (ci, f) => if o < pnc σ ∧ ply σ o = (0, ci) ∧ f < nF ci then some (pc, fval σ ci o f :: r, σ) else none
    | none => none
  | _ => none
/-- what putfield lays, where the kinds agree -/
def pval (σ : PSt) (kd o f : Nat) (v : Value) : Option PSt := match v with
  | .int x => if kd = 1 ∨ (kd = 3 ∧ (x = 0 ∨ x = 1)) then some (wiv σ o f x) else none
  | .long x => if kd = 2 then some (wlv σ o f x) else none
  | .ref j => if kd = 0 then some (wrv σ o f (some j)) else none
  | _ => none
def oPut (ini : Bool) (c k : Nat) (st : List Value) (pc : Nat) (σ : PSt) : PO := match st with
  | v :: .ref o :: r => match fl c k with
    | some (ci, f) => if o < pnc σ ∧ ply σ o = (0, ci) ∧ f < nF ci ∧ (ffin ci f = true → ini = true ∧ c = ci) then (pval σ (fk ci f) o f v).map fun τ => (pc, r, τ) else none
    | none => none
  | _ => none
/-- reading a row: of the kind t -/
def oLdI (Λ : PRo) (t : Nat) (st : List Value) (pc : Nat) (σ : PSt) : PO := match st with
  | .int i :: .ref o :: r => if o < pnc σ ∧ (ply σ o).1 = t ∧ vin i (ply σ o).2 then some (pc, .int (piv σ o i.toNatClampNeg) :: r, σ) else none
  | .int i :: .retAddr o :: r => if t = 1 ∧ o < Λ.1 ∧ vin i (Λ.2.1 o) then some (pc, .int (Λ.2.2 o i.toNatClampNeg) :: r, σ) else none
  | _ => none
def oLdL (st : List Value) (pc : Nat) (σ : PSt) : PO := match st with
  | .int i :: .ref o :: r => if o < pnc σ ∧ (ply σ o).1 = 4 ∧ vin i (ply σ o).2 then some (pc, .long (plv σ o i.toNatClampNeg) :: r, σ) else none
  | _ => none
def oLdA (st : List Value) (pc : Nat) (σ : PSt) : PO := match st with
  | .int i :: .ref o :: r => if o < pnc σ ∧ ((ply σ o).1 = 5 ∨ (ply σ o).1 = 6) ∧ vin i (ply σ o).2 then (prv σ o i.toNatClampNeg).map fun j => (pc, .ref j :: r, σ) else none
  | _ => none
def oStI (t : Nat) (g : Int32 → Int32) (st : List Value) (pc : Nat) (σ : PSt) : PO := match st with
  | .int x :: .int i :: .ref o :: r => if o < pnc σ ∧ (ply σ o).1 = t ∧ vin i (ply σ o).2 then some (pc, r, wiv σ o i.toNatClampNeg (g x)) else none
  | _ => none
def oStL (st : List Value) (pc : Nat) (σ : PSt) : PO := match st with
  | .long x :: .int i :: .ref o :: r => if o < pnc σ ∧ (ply σ o).1 = 4 ∧ vin i (ply σ o).2 then some (pc, r, wlv σ o i.toNatClampNeg x) else none
  | _ => none
def oLen (Λ : PRo) (st : List Value) (pc : Nat) (σ : PSt) : PO := match st with
  | .ref o :: r => if o < pnc σ ∧ 1 ≤ (ply σ o).1 ∧ (ply σ o).1 ≤ 6 then some (pc, .int (Int32.ofNat (ply σ o).2) :: r, σ) else none
  | .retAddr o :: r => if o < Λ.1 then some (pc, .int (Int32.ofNat (Λ.2.1 o)) :: r, σ) else none
  | _ => none
def atag : ArrayType → Nat
  | .int => 1 | .byte => 2 | .short => 3 | .long => 4 | _ => 0
def oNewA (t : Nat) (st : List Value) (pc : Nat) (σ : PSt) : PO := match st with
  | .int n :: r => if ¬ n < 0 ∧ n.toNatClampNeg ≤ 10000 ∧ 1 ≤ t then some (pc, .ref (pnc σ) :: r, mkc σ t n.toNatClampNeg n.toNatClampNeg) else none
  | _ => none
/-- n rows of k places, behind their outer row: how the cells come -/
def mkrows (t n : Nat) : Nat → PSt → PSt
  | 0, σ => σ
  | j + 1, σ => mkrows t n j (mkc σ t n n)
def wrr (σ : PSt) (o : Nat) (g : Nat → Option Nat) : PSt := (σ.1, σ.2.1, σ.2.2.1, up1 (prv σ) o g, σ.2.2.2.2.1, σ.2.2.2.2.2)
def oMna (t : Nat) (st : List Value) (pc : Nat) (σ : PSt) : PO := match st with
  | .int k :: .int n :: r => if ¬ n < 0 ∧ ¬ k < 0 ∧ n.toNatClampNeg ≤ 100 ∧ k.toNatClampNeg ≤ 100 ∧ (t = 5 ∨ t = 6) then
      some (pc, .ref (pnc σ) :: r, mkrows (if t = 5 then 1 else 4) k.toNatClampNeg n.toNatClampNeg (wrr (mkc σ t n.toNatClampNeg n.toNatClampNeg) (pnc σ) (fun i => if i < n.toNatClampNeg then some (pnc σ + 1 + i) else none))) else none
  | _ => none
/-- an instruction that touches no local, and calls nothing -/
def pS (Λ : PRo) (ini : Bool) (c pc pc' : Nat) (σ : PSt) (i : Instr) (st : List Value) : PO :=
  match i with
  | .iconst n => some (pc', .int (Int32.ofInt n) :: st, σ)
  | .bipush n => some (pc', .int (Int8.ofInt n).toInt32 :: st, σ)
  | .sipush n => some (pc', .int (Int16.ofInt n).toInt32 :: st, σ)
  | .lconst n => some (pc', .long (Int64.ofNat (n : Nat)) :: st, σ)
  | .ldc_w k => (ki c k).map fun v => (pc', .int v :: st, σ)
  | .ldc2_w k => (kl c k).map fun v => (pc', .long v :: st, σ)
  | .iadd => oI2 st (fun x y => x + y) pc' σ
  | .isub => oI2 st (fun x y => x - y) pc' σ
  | .imul => oI2 st (fun x y => x * y) pc' σ
  | .iand => oI2 st (fun x y => x &&& y) pc' σ
  | .ior => oI2 st (fun x y => x ||| y) pc' σ
  | .ixor => oI2 st (fun x y => x ^^^ y) pc' σ
  | .ishl => oI2 st (fun x y => x <<< (y &&& 31)) pc' σ
  | .ishr => oI2 st (fun x y => x >>> (y &&& 31)) pc' σ
  | .iushr => oI2 st (fun x y => (x.toUInt32 >>> (y.toUInt32 &&& Int32.toUInt32 31)).toInt32) pc' σ
  | .idiv => oD2 st (fun x y => x / y) pc' σ
  | .irem => oD2 st (fun x y => x - x / y * y) pc' σ
  | .ineg => oI1 st (fun x => -x) pc' σ
  | .i2b => oI1 st (fun x => x.toInt8.toInt32) pc' σ
  | .i2s => oI1 st (fun x => x.toInt16.toInt32) pc' σ
  | .i2l => (match st with | .int x :: r => some (pc', .long x.toInt64 :: r, σ) | _ => none)
  | .l2i => (match st with | .long x :: r => some (pc', .int x.toInt32 :: r, σ) | _ => none)
  | .ladd => oL2 st (fun x y => x + y) pc' σ
  | .lsub => oL2 st (fun x y => x - y) pc' σ
  | .lmul => oL2 st (fun x y => x * y) pc' σ
  | .land => oL2 st (fun x y => x &&& y) pc' σ
  | .lor => oL2 st (fun x y => x ||| y) pc' σ
  | .ldiv => oE2 st (fun x y => x / y) pc' σ
  | .lrem => oE2 st (fun x y => x - x / y * y) pc' σ
  | .lcmp => (match st with | .long y :: .long x :: r => some (pc', .int (lg_cmp x y) :: r, σ) | _ => none)
  | .lshl => (match st with | .int y :: .long x :: r => some (pc', .long (x <<< (y.toInt64 &&& 63)) :: r, σ) | _ => none)
  | .dup => (match st with | v :: r => if v.category = 1 then some (pc', v :: v :: r, σ) else none | _ => none)
  | .dup2 => (match st with | v :: w :: r => if v.category = 1 ∧ w.category = 1 then some (pc', v :: w :: v :: w :: r, σ) else none | _ => none)
  | .pop => (match st with | v :: r => if v.category = 1 then some (pc', r, σ) else none | _ => none)
  | .pop2 => (match st with | v :: r => if v.category = 2 then some (pc', r, σ) else none | _ => none)
  | .goto off => (tgt pc off).map fun t => (t, st, σ)
  | .ifCond cc off => (match st with | .int x :: r => (tgt pc off).map fun t => (pbr cc x 0 t pc', r, σ) | _ => none)
  | .if_icmp cc off => (match st with | .int y :: .int x :: r => (tgt pc off).map fun t => (pbr cc x y t pc', r, σ) | _ => none)
  | .tableswitch d lo hi offs => (match st with
    | .int x :: r => if x.toInt < lo ∨ hi < x.toInt then (tgt pc d).map fun t => (t, r, σ) else (offs[(x.toInt - lo).toNat]?).bind fun off => (tgt pc off).map fun t => (t, r, σ)
    | _ => none)
  | .lookupswitch d ps => (match st with
    | .int x :: r => if (ps.toList.zip (ps.toList.drop 1)).all (fun (a, next) => a.1 < next.1) = true then (tgt pc (Op.lookupswitch.offset ps.toList d x.toInt)).map fun t => (t, r, σ) else none
    | _ => none)
  | .getfield k => oGet c k st pc' σ
  | .putfield k => oPut ini c k st pc' σ
  | .getstatic k => (sk c k).map fun j => (pc', .retAddr j :: st, σ)
  | .iaload => oLdI Λ 1 st pc' σ
  | .baload => oLdI Λ 2 st pc' σ
  | .saload => oLdI Λ 3 st pc' σ
  | .laload => oLdL st pc' σ
  | .aaload => oLdA st pc' σ
  | .iastore => oStI 1 (fun x => x) st pc' σ
  | .bastore => oStI 2 (fun x => x.toInt8.toInt32) st pc' σ
  | .sastore => oStI 3 (fun x => x.toInt16.toInt32) st pc' σ
  | .lastore => oStL st pc' σ
  | .arraylength => oLen Λ st pc' σ
  | .newarray t => oNewA (atag t) st pc' σ
  | .new k => (nw c k).map fun ci => (pc', .ref (pnc σ) :: st, mkc σ 0 ci (nF ci))
  | .multianewarray k d => if d = 2 then (mn c k).bind fun t => oMna t st pc' σ else none
  | _ => none
def okI (v : Value) : Bool := match v with | .int _ => true | _ => false
def okL (v : Value) : Bool := match v with | .long _ => true | _ => false
def okA (v : Value) : Bool := match v with | .ref _ => true | .retAddr _ => true | _ => false
def pLd (ok : Value → Bool) (L : PL) (k : Nat) (st : List Value) : Option (PL × List Value) := (lk L k).bind fun v => bif ok v then some (L, v :: st) else none
def pSt1 (ok : Value → Bool) (nL : Nat) (L : PL) (k : Nat) (st : List Value) : Option (PL × List Value) := match st with
  | v :: r => bif ok v && Nat.blt k nL then some (ins1 L k v, r) else none
  | _ => none
def pSt2 (nL : Nat) (L : PL) (k : Nat) (st : List Value) : Option (PL × List Value) := match st with
  | v :: r => bif okL v && Nat.blt (k + 1) nL then some (ins2 L k v, r) else none
  | _ => none
/-- an instruction over the locals -/
def pL (i : Instr) (nL : Nat) (L : PL) (st : List Value) : Option (PL × List Value) := match i with
  | .iload k => pLd okI L k st
  | .iload_n k => pLd okI L (k : Nat) st
  | .lload k => pLd okL L k st
  | .lload_n k => pLd okL L (k : Nat) st
  | .aload k => pLd okA L k st
  | .aload_n k => pLd okA L (k : Nat) st
  | .istore k => pSt1 okI nL L k st
  | .istore_n k => pSt1 okI nL L (k : Nat) st
  | .astore k => pSt1 okA nL L k st
  | .astore_n k => pSt1 okA nL L (k : Nat) st
  | .lstore k => pSt2 nL L k st
  | .lstore_n k => pSt2 nL L (k : Nat) st
  | .iinc k n => (match lk L k with | some (.int x) => bif Nat.blt k nL then some (ins1 L k (.int (x + Int32.ofInt n)), st) else none | _ => none)
  | _ => none
def retOf (i : Instr) (st : List Value) : Option (Option Value) := match i with
  | .ireturn => (match st with | [.int x] => some (some (.int x)) | _ => none)
  | .lreturn => (match st with | [.long x] => some (some (.long x)) | _ => none)
  | .areturn => (match st with | [.ref x] => some (some (.ref x)) | _ => none)
  | .return_ => (match st with | [] => some none | _ => none)
  | _ => none
def retI (v : Option Value) : Instr := match v with
  | none => .return_
  | some (.int _) => .ireturn
  | some (.long _) => .lreturn
  | _ => .areturn
def okRet (t : Option FieldType) (v : Option Value) : Bool := match t, v with
  | none, none => true
  | some .int, some (.int _) => true
  | some .boolean, some (.int x) => x == 0 || x == 1
  | some .long, some (.long _) => true
  | some (.object _), some (.ref _) => true
  | _, _ => false
/-- which entry a call names: 0 virtual, 1 special, 2 static -/
def callOf (i : Instr) : Option (Nat × Nat) := match i with
  | .invokevirtual k => some (0, k)
  | .invokespecial k => some (1, k)
  | .invokestatic k => some (2, k)
  | _ => none
def popN : Nat → List Value → List Value → Option (List Value × List Value)
  | 0, st, acc => some (acc, st)
  | n + 1, v :: st, acc => popN n st (v :: acc)
  | _ + 1, [], _ => none
def catS (st : List Value) : Nat := (st.map fun v => v.category).sum
/-- System.arraycopy over two of our rows -/
def oCpy (st : List Value) (σ : PSt) : Option (List Value × PSt) := match st with
  | .int n :: .int dp :: .ref b :: .int sp :: .ref a :: r =>
    if a < pnc σ ∧ b < pnc σ ∧ (ply σ a).1 = (ply σ b).1 ∧ ¬ sp < 0 ∧ ¬ dp < 0 ∧ ¬ n < 0 ∧ sp.toNatClampNeg + n.toNatClampNeg ≤ (ply σ a).2 ∧ dp.toNatClampNeg + n.toNatClampNeg ≤ (ply σ b).2 ∧ catS r ≤ 8 then
      if (ply σ a).1 = 1 then some (r, riv σ b (va_cpy (piv σ a) (piv σ b) sp.toNatClampNeg dp.toNatClampNeg n.toNatClampNeg))
      else if (ply σ a).1 = 4 then some (r, rlv σ b (va_cpy (plv σ a) (plv σ b) sp.toNatClampNeg dp.toNatClampNeg n.toNatClampNeg)) else none
    else none
  | _ => none
/-- Math.max, Math.min -/
def oMM (j : Nat) (st : List Value) : Option (List Value) := match st with
  | .int y :: .int x :: r => if catS r ≤ 8 then some ((bif Nat.beq j 0 then .int (if x < y then y else x) else .int (if y < x then y else x)) :: r) else none
  | _ => none
/-- what a method's first locals are -/
def entL (as : List Value) : PL := lv_args 0 as
/-- the receiver is a cell of the method's class -/
def vOk (k y : Nat) (as : List Value) (σ : PSt) : Bool := bif Nat.beq k 2 then true else match as with
  | .ref o :: _ => Nat.blt o (pnc σ) && (Nat.beq (ply σ o).1 0 && Nat.beq (ply σ o).2 (mC y))
  | _ => false
/-- the run: n steps at most, calls d deep at most -/
def prun (Λ : PRo) : Nat → Nat → Nat → Nat → PL → List Value → PSt → Option (Option Value × PSt)
  | 0, _, _, _, _, _, _ => none
  | n + 1, d, m, pc, L, st, σ =>
    match decode (mB m) pc with
    | .error _ => none
    | .ok (i, len) =>
      if lenOk i len = true then
        match retOf i st with
        | some v => if okRet (mR m) v = true then some (v, σ) else none
        | none =>
          match callOf i with
          | some (k, idx) =>
            match d with
            | 0 => none
            | d' + 1 =>
              match ca (mC m) idx with
              | some y =>
                if kdOk k y = true then
                  match popN (nA y) st [] with
                  | some (as, rest) => if catS rest ≤ 8 ∧ catS as ≤ mL y ∧ vOk k y as σ = true then
                      match prun Λ n d' y 0 (entL as) [] σ with
                      | some (v, σ1) => prun Λ n (d' + 1) m (pc + 3) L (v.toList ++ rest) σ1
                      | none => none
                    else none
                  | none => none
                else none
              | none =>
                if k = 1 ∧ oi (mC m) idx = true then
                  match st with
                  | .ref _ :: rest => if catS rest ≤ 8 then prun Λ n (d' + 1) m (pc + 3) L rest σ else none
                  | _ => none
                else if k = 2 ∧ ac (mC m) idx = true then
                  match oCpy st σ with
                  | some (rest, σ1) => prun Λ n (d' + 1) m (pc + 3) L rest σ1
                  | none => none
                else if k = 2 then
                  match mm (mC m) idx with
                  | some j => (match oMM j st with
                    | some st1 => prun Λ n (d' + 1) m (pc + 3) L st1 σ
                    | none => none)
                  | none => none
                else none
          | none =>
            match pS Λ (isIni m) (mC m) pc (pc + len) σ i st with
            | some (pc2, st2, σ2) => prun Λ n d m pc2 L st2 σ2
            | none =>
              match pL i (mL m) L st with
              | some (L2, st2) => prun Λ n d m (pc + len) L2 st2 σ
              | none => none
      else none
