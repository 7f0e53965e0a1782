/-! ===== THE PURE MACHINE: what the claim's methods do to their cells, as a function; the tables are the part ahead ===== -/
abbrev PL : Type := List (Nat × Value)
/-- a state: how many cells, how many slots; of each cell its kind and size; its references, ints, longs -/
abbrev PSt : Type := Nat × Nat × (Nat → Nat × Nat) × (Nat → Nat → Option Nat) × (Nat → Nat → Int32) × (Nat → Nat → Int64)
abbrev pnc (σ : PSt) : Nat := σ.1
abbrev pns (σ : PSt) : Nat := σ.2.1
abbrev ply (σ : PSt) : Nat → Nat × Nat := σ.2.2.1
abbrev prv (σ : PSt) : Nat → Nat → Option Nat := σ.2.2.2.1
abbrev piv (σ : PSt) : Nat → Nat → Int32 := σ.2.2.2.2.1
abbrev plv (σ : PSt) : Nat → Nat → Int64 := σ.2.2.2.2.2
def up1 {α : Type} (f : Nat → α) (k : Nat) (x : α) : Nat → α := fun j => if j = k then x else f j
def up2 {α : Type} (f : Nat → Nat → α) (k i : Nat) (x : α) : Nat → Nat → α := fun a j => if a = k ∧ j = i then x else f a j
theorem up1_s {α : Type} {f : Nat → α} {k : Nat} {x : α} : up1 f k x k = x := by simp [up1]
theorem up1_n {α : Type} {f : Nat → α} {k j : Nat} {x : α} (h : j ≠ k) : up1 f k x j = f j := by simp [up1, h]
theorem up2_s {α : Type} {f : Nat → Nat → α} {k i : Nat} {x : α} : up2 f k i x k i = x := by simp [up2]
theorem up2_n {α : Type} {f : Nat → Nat → α} {k i a : Nat} {x : α} (h : a ≠ k) : up2 f k i x a = f a := by
  funext j
  simp [up2, h]
def wiv (σ : PSt) (k i : Nat) (x : Int32) : PSt := (σ.1, σ.2.1, σ.2.2.1, σ.2.2.2.1, up2 (piv σ) k i x, σ.2.2.2.2.2)
def wlv (σ : PSt) (k i : Nat) (x : Int64) : PSt := (σ.1, σ.2.1, σ.2.2.1, σ.2.2.2.1, σ.2.2.2.2.1, up2 (plv σ) k i x)
def wrv (σ : PSt) (k i : Nat) (x : Option Nat) : PSt := (σ.1, σ.2.1, σ.2.2.1, up2 (prv σ) k i x, σ.2.2.2.2.1, σ.2.2.2.2.2)
/-- a row of ints, or of longs, anew -/
def riv (σ : PSt) (k : Nat) (f : Nat → Int32) : PSt := (σ.1, σ.2.1, σ.2.2.1, σ.2.2.2.1, up1 (piv σ) k f, σ.2.2.2.2.2)
def rlv (σ : PSt) (k : Nat) (f : Nat → Int64) : PSt := (σ.1, σ.2.1, σ.2.2.1, σ.2.2.2.1, σ.2.2.2.2.1, up1 (plv σ) k f)
/-- a new cell of a kind and size, all 0 -/
def mkc (σ : PSt) (tag a n : Nat) : PSt := (σ.1 + 1, σ.2.1 + n, up1 (ply σ) σ.1 (tag, a), up1 (prv σ) σ.1 (fun _ => none), up1 (piv σ) σ.1 (fun _ => 0), up1 (plv σ) σ.1 (fun _ => 0))
/-- the locals: a list by place -/
def lk : PL → Nat → Option Value
  | [], _ => none
  | q :: t, k => bif Nat.beq q.1 k then some q.2 else lk t k
def put : PL → Nat → Value → PL
  | [], k, v => [(k, v)]
  | q :: t, k, v => bif Nat.blt k q.1 then (k, v) :: q :: t else q :: put t k v
def rmk (L : PL) (i : Nat) : PL := L.filter (fun q => !(Nat.beq q.1 i))
def lg (L : PL) (i : Nat) : Bool := match lk L i with | some v => Nat.beq v.category 2 | none => false
def rm1 (L : PL) (i : Nat) : PL := match i with
  | 0 => rmk L 0
  | j + 1 => bif lg L j then rmk (rmk L (j + 1)) j else rmk L (j + 1)
def rm2 (L : PL) (i : Nat) : PL := rmk (rm1 L i) (i + 1)
def ins1 (L : PL) (k : Nat) (v : Value) : PL := put (rm1 L k) k v
def ins2 (L : PL) (k : Nat) (v : Value) : PL := put (rm2 L k) k v
/-- read-only rows: their lengths and ints (0: the script) -/
abbrev PRo : Type := Nat × (Nat → Nat) × (Nat → Nat → Int32)
def ilen : Instr → Nat
  | .bipush _ => 2 | .iload _ => 2 | .istore _ => 2 | .aload _ => 2 | .astore _ => 2 | .lload _ => 2 | .lstore _ => 2 | .newarray _ => 2
  | .sipush _ => 3 | .getfield _ => 3 | .putfield _ => 3 | .getstatic _ => 3 | .goto _ => 3 | .ifCond _ _ => 3 | .if_icmp _ _ => 3
  | .invokevirtual _ => 3 | .invokestatic _ => 3 | .invokespecial _ => 3 | .new _ => 3 | .iinc _ _ => 3 | .ldc_w _ => 3 | .ldc2_w _ => 3
  | .multianewarray _ _ => 4
  | _ => 1
def lenOk (i : Instr) (len : Nat) : Bool := match i with
  | .tableswitch _ _ _ _ => true
  | .lookupswitch _ _ => true
  | _ => Nat.beq len (ilen i)
def tgt (pc : Nat) (off : Int) : Option Nat := if 0 ≤ (pc : Int) + off then some ((pc : Int) + off).toNat else none
def pbr {α : Type} (cc : ClassFile.Cond) (x y : Int32) (a b : α) : α := match cc with
  | .eq => if x = y then a else b
  | .ne => if x = y then b else a
  | .lt => if x < y then a else b
  | .ge => if y ≤ x then a else b
  | .gt => if y < x then a else b
  | .le => if x ≤ y then a else b
/-- an index within a row -/
abbrev vin (i : Int32) (n : Nat) : Prop := 0 ≤ i.toInt ∧ i.toInt < (n : Int)
abbrev PO : Type := Option (Nat × List Value × PSt)
def oI1 (st : List Value) (f : Int32 → Int32) (pc : Nat) (σ : PSt) : PO := match st with | .int x :: r => some (pc, .int (f x) :: r, σ) | _ => none
def oI2 (st : List Value) (f : Int32 → Int32 → Int32) (pc : Nat) (σ : PSt) : PO := match st with | .int y :: .int x :: r => some (pc, .int (f x y) :: r, σ) | _ => none
def oD2 (st : List Value) (f : Int32 → Int32 → Int32) (pc : Nat) (σ : PSt) : PO := match st with | .int y :: .int x :: r => if y = 0 then none else some (pc, .int (f x y) :: r, σ) | _ => none
def oL2 (st : List Value) (f : Int64 → Int64 → Int64) (pc : Nat) (σ : PSt) : PO := match st with | .long y :: .long x :: r => some (pc, .long (f x y) :: r, σ) | _ => none
def oE2 (st : List Value) (f : Int64 → Int64 → Int64) (pc : Nat) (σ : PSt) : PO := match st with | .long y :: .long x :: r => if y = 0 then none else some (pc, .long (f x y) :: r, σ) | _ => none
def fval (σ : PSt) (ci o f : Nat) : Value := match fk ci f with
  | 0 => (match prv σ o f with | some j => .ref j | none => .null)
  | 2 => .long (plv σ o f)
  | _ => .int (piv σ o f)
def oGet (c k : Nat) (st : List Value) (pc : Nat) (σ : PSt) : PO := match st with
  | .ref o :: r => match fl c k with
    | some (ci, f) => if o < pnc σ ∧ ply σ o = (0, ci) ∧ f < nF ci then some (pc, fval σ ci o f :: r, σ) else none
    | none => none
  | _ => none
/-- what putfield lays, where the kinds agree -/
def pval (σ : PSt) (kd o f : Nat) (v : Value) : Option PSt := match v with
  | .int x => if kd = 1 ∨ (kd = 3 ∧ (x = 0 ∨ x = 1)) then some (wiv σ o f x) else none
  | .long x => if kd = 2 then some (wlv σ o f x) else none
  | .ref j => if kd = 0 then some (wrv σ o f (some j)) else none
  | _ => none
def oPut (ini : Bool) (c k : Nat) (st : List Value) (pc : Nat) (σ : PSt) : PO := match st with
  | v :: .ref o :: r => match fl c k with
    | some (ci, f) => if o < pnc σ ∧ ply σ o = (0, ci) ∧ f < nF ci ∧ (ffin ci f = true → ini = true ∧ c = ci) then (pval σ (fk ci f) o f v).map fun τ => (pc, r, τ) else none
    | none => none
  | _ => none
/-- reading a row: of the kind t -/
def oLdI (Λ : PRo) (t : Nat) (st : List Value) (pc : Nat) (σ : PSt) : PO := match st with
  | .int i :: .ref o :: r => if o < pnc σ ∧ (ply σ o).1 = t ∧ vin i (ply σ o).2 then some (pc, .int (piv σ o i.toNatClampNeg) :: r, σ) else none
  | .int i :: .retAddr o :: r => if t = 1 ∧ o < Λ.1 ∧ vin i (Λ.2.1 o) then some (pc, .int (Λ.2.2 o i.toNatClampNeg) :: r, σ) else none
  | _ => none
def oLdL (st : List Value) (pc : Nat) (σ : PSt) : PO := match st with
  | .int i :: .ref o :: r => if o < pnc σ ∧ (ply σ o).1 = 4 ∧ vin i (ply σ o).2 then some (pc, .long (plv σ o i.toNatClampNeg) :: r, σ) else none
  | _ => none
def oLdA (st : List Value) (pc : Nat) (σ : PSt) : PO := match st with
  | .int i :: .ref o :: r => if o < pnc σ ∧ ((ply σ o).1 = 5 ∨ (ply σ o).1 = 6) ∧ vin i (ply σ o).2 then (prv σ o i.toNatClampNeg).map fun j => (pc, .ref j :: r, σ) else none
  | _ => none
def oStI (t : Nat) (g : Int32 → Int32) (st : List Value) (pc : Nat) (σ : PSt) : PO := match st with
  | .int x :: .int i :: .ref o :: r => if o < pnc σ ∧ (ply σ o).1 = t ∧ vin i (ply σ o).2 then some (pc, r, wiv σ o i.toNatClampNeg (g x)) else none
  | _ => none
def oStL (st : List Value) (pc : Nat) (σ : PSt) : PO := match st with
  | .long x :: .int i :: .ref o :: r => if o < pnc σ ∧ (ply σ o).1 = 4 ∧ vin i (ply σ o).2 then some (pc, r, wlv σ o i.toNatClampNeg x) else none
  | _ => none
def oLen (Λ : PRo) (st : List Value) (pc : Nat) (σ : PSt) : PO := match st with
  | .ref o :: r => if o < pnc σ ∧ 1 ≤ (ply σ o).1 ∧ (ply σ o).1 ≤ 6 then some (pc, .int (Int32.ofNat (ply σ o).2) :: r, σ) else none
  | .retAddr o :: r => if o < Λ.1 then some (pc, .int (Int32.ofNat (Λ.2.1 o)) :: r, σ) else none
  | _ => none
def atag : ArrayType → Nat
  | .int => 1 | .byte => 2 | .short => 3 | .long => 4 | _ => 0
def oNewA (t : Nat) (st : List Value) (pc : Nat) (σ : PSt) : PO := match st with
  | .int n :: r => if ¬ n < 0 ∧ n.toNatClampNeg ≤ 10000 ∧ 1 ≤ t then some (pc, .ref (pnc σ) :: r, mkc σ t n.toNatClampNeg n.toNatClampNeg) else none
  | _ => none
/-- n rows of k places, behind their outer row: how the cells come -/
def mkrows (t n : Nat) : Nat → PSt → PSt
  | 0, σ => σ
  | j + 1, σ => mkrows t n j (mkc σ t n n)
def wrr (σ : PSt) (o : Nat) (g : Nat → Option Nat) : PSt := (σ.1, σ.2.1, σ.2.2.1, up1 (prv σ) o g, σ.2.2.2.2.1, σ.2.2.2.2.2)
def oMna (t : Nat) (st : List Value) (pc : Nat) (σ : PSt) : PO := match st with
  | .int k :: .int n :: r => if ¬ n < 0 ∧ ¬ k < 0 ∧ n.toNatClampNeg ≤ 100 ∧ k.toNatClampNeg ≤ 100 ∧ (t = 5 ∨ t = 6) then
      some (pc, .ref (pnc σ) :: r, mkrows (if t = 5 then 1 else 4) k.toNatClampNeg n.toNatClampNeg (wrr (mkc σ t n.toNatClampNeg n.toNatClampNeg) (pnc σ) (fun i => if i < n.toNatClampNeg then some (pnc σ + 1 + i) else none))) else none
  | _ => none
/-- an instruction that touches no local, and calls nothing -/
def pS (Λ : PRo) (ini : Bool) (c pc pc' : Nat) (σ : PSt) (i : Instr) (st : List Value) : PO :=
  match i with
  | .iconst n => some (pc', .int (Int32.ofInt n) :: st, σ)
  | .bipush n => some (pc', .int (Int8.ofInt n).toInt32 :: st, σ)
  | .sipush n => some (pc', .int (Int16.ofInt n).toInt32 :: st, σ)
  | .lconst n => some (pc', .long (Int64.ofNat (n : Nat)) :: st, σ)
  | .ldc_w k => (ki c k).map fun v => (pc', .int v :: st, σ)
  | .ldc2_w k => (kl c k).map fun v => (pc', .long v :: st, σ)
  | .iadd => oI2 st (fun x y => x + y) pc' σ
  | .isub => oI2 st (fun x y => x - y) pc' σ
  | .imul => oI2 st (fun x y => x * y) pc' σ
  | .iand => oI2 st (fun x y => x &&& y) pc' σ
  | .ior => oI2 st (fun x y => x ||| y) pc' σ
  | .ixor => oI2 st (fun x y => x ^^^ y) pc' σ
  | .ishl => oI2 st (fun x y => x <<< (y &&& 31)) pc' σ
  | .ishr => oI2 st (fun x y => x >>> (y &&& 31)) pc' σ
  | .iushr => oI2 st (fun x y => (x.toUInt32 >>> (y.toUInt32 &&& Int32.toUInt32 31)).toInt32) pc' σ
  | .idiv => oD2 st (fun x y => x / y) pc' σ
  | .irem => oD2 st (fun x y => x - x / y * y) pc' σ
  | .ineg => oI1 st (fun x => -x) pc' σ
  | .i2b => oI1 st (fun x => x.toInt8.toInt32) pc' σ
  | .i2s => oI1 st (fun x => x.toInt16.toInt32) pc' σ
  | .i2l => (match st with | .int x :: r => some (pc', .long x.toInt64 :: r, σ) | _ => none)
  | .l2i => (match st with | .long x :: r => some (pc', .int x.toInt32 :: r, σ) | _ => none)
  | .ladd => oL2 st (fun x y => x + y) pc' σ
  | .lsub => oL2 st (fun x y => x - y) pc' σ
  | .lmul => oL2 st (fun x y => x * y) pc' σ
  | .land => oL2 st (fun x y => x &&& y) pc' σ
  | .lor => oL2 st (fun x y => x ||| y) pc' σ
  | .ldiv => oE2 st (fun x y => x / y) pc' σ
  | .lrem => oE2 st (fun x y => x - x / y * y) pc' σ
  | .lcmp => (match st with | .long y :: .long x :: r => some (pc', .int (lg_cmp x y) :: r, σ) | _ => none)
  | .lshl => (match st with | .int y :: .long x :: r => some (pc', .long (x <<< (y.toInt64 &&& 63)) :: r, σ) | _ => none)
  | .dup => (match st with | v :: r => if v.category = 1 then some (pc', v :: v :: r, σ) else none | _ => none)
  | .dup2 => (match st with | v :: w :: r => if v.category = 1 ∧ w.category = 1 then some (pc', v :: w :: v :: w :: r, σ) else none | _ => none)
  | .pop => (match st with | v :: r => if v.category = 1 then some (pc', r, σ) else none | _ => none)
  | .pop2 => (match st with | v :: r => if v.category = 2 then some (pc', r, σ) else none | _ => none)
  | .goto off => (tgt pc off).map fun t => (t, st, σ)
  | .ifCond cc off => (match st with | .int x :: r => (tgt pc off).map fun t => (pbr cc x 0 t pc', r, σ) | _ => none)
  | .if_icmp cc off => (match st with | .int y :: .int x :: r => (tgt pc off).map fun t => (pbr cc x y t pc', r, σ) | _ => none)
  | .tableswitch d lo hi offs => (match st with
    | .int x :: r => if x.toInt < lo ∨ hi < x.toInt then (tgt pc d).map fun t => (t, r, σ) else (offs[(x.toInt - lo).toNat]?).bind fun off => (tgt pc off).map fun t => (t, r, σ)
    | _ => none)
  | .lookupswitch d ps => (match st with
    | .int x :: r => if (ps.toList.zip (ps.toList.drop 1)).all (fun (a, next) => a.1 < next.1) = true then (tgt pc (Op.lookupswitch.offset ps.toList d x.toInt)).map fun t => (t, r, σ) else none
    | _ => none)
  | .getfield k => oGet c k st pc' σ
  | .putfield k => oPut ini c k st pc' σ
  | .getstatic k => (sk c k).map fun j => (pc', .retAddr j :: st, σ)
  | .iaload => oLdI Λ 1 st pc' σ
  | .baload => oLdI Λ 2 st pc' σ
  | .saload => oLdI Λ 3 st pc' σ
  | .laload => oLdL st pc' σ
  | .aaload => oLdA st pc' σ
  | .iastore => oStI 1 (fun x => x) st pc' σ
  | .bastore => oStI 2 (fun x => x.toInt8.toInt32) st pc' σ
  | .sastore => oStI 3 (fun x => x.toInt16.toInt32) st pc' σ
  | .lastore => oStL st pc' σ
  | .arraylength => oLen Λ st pc' σ
  | .newarray t => oNewA (atag t) st pc' σ
  | .new k => (nw c k).map fun ci => (pc', .ref (pnc σ) :: st, mkc σ 0 ci (nF ci))
  | .multianewarray k d => if d = 2 then (mn c k).bind fun t => oMna t st pc' σ else none
  | _ => none
def okI (v : Value) : Bool := match v with | .int _ => true | _ => false
def okL (v : Value) : Bool := match v with | .long _ => true | _ => false
def okA (v : Value) : Bool := match v with | .ref _ => true | .retAddr _ => true | _ => false
def pLd (ok : Value → Bool) (L : PL) (k : Nat) (st : List Value) : Option (PL × List Value) := (lk L k).bind fun v => bif ok v then some (L, v :: st) else none
def pSt1 (ok : Value → Bool) (nL : Nat) (L : PL) (k : Nat) (st : List Value) : Option (PL × List Value) := match st with
  | v :: r => bif ok v && Nat.blt k nL then some (ins1 L k v, r) else none
  | _ => none
def pSt2 (nL : Nat) (L : PL) (k : Nat) (st : List Value) : Option (PL × List Value) := match st with
  | v :: r => bif okL v && Nat.blt (k + 1) nL then some (ins2 L k v, r) else none
  | _ => none
/-- an instruction over the locals -/
def pL (i : Instr) (nL : Nat) (L : PL) (st : List Value) : Option (PL × List Value) := match i with
  | .iload k => pLd okI L k st
  | .iload_n k => pLd okI L (k : Nat) st
  | .lload k => pLd okL L k st
  | .lload_n k => pLd okL L (k : Nat) st
  | .aload k => pLd okA L k st
  | .aload_n k => pLd okA L (k : Nat) st
  | .istore k => pSt1 okI nL L k st
  | .istore_n k => pSt1 okI nL L (k : Nat) st
  | .astore k => pSt1 okA nL L k st
  | .astore_n k => pSt1 okA nL L (k : Nat) st
  | .lstore k => pSt2 nL L k st
  | .lstore_n k => pSt2 nL L (k : Nat) st
  | .iinc k n => (match lk L k with | some (.int x) => bif Nat.blt k nL then some (ins1 L k (.int (x + Int32.ofInt n)), st) else none | _ => none)
  | _ => none
def retOf (i : Instr) (st : List Value) : Option (Option Value) := match i with
  | .ireturn => (match st with | [.int x] => some (some (.int x)) | _ => none)
  | .lreturn => (match st with | [.long x] => some (some (.long x)) | _ => none)
  | .areturn => (match st with | [.ref x] => some (some (.ref x)) | _ => none)
  | .return_ => (match st with | [] => some none | _ => none)
  | _ => none
def retI (v : Option Value) : Instr := match v with
  | none => .return_
  | some (.int _) => .ireturn
  | some (.long _) => .lreturn
  | _ => .areturn
def okRet (t : Option FieldType) (v : Option Value) : Bool := match t, v with
  | none, none => true
  | some .int, some (.int _) => true
  | some .boolean, some (.int x) => x == 0 || x == 1
  | some .long, some (.long _) => true
  | some (.object _), some (.ref _) => true
  | _, _ => false
/-- which entry a call names: 0 virtual, 1 special, 2 static -/
def callOf (i : Instr) : Option (Nat × Nat) := match i with
  | .invokevirtual k => some (0, k)
  | .invokespecial k => some (1, k)
  | .invokestatic k => some (2, k)
  | _ => none
def popN : Nat → List Value → List Value → Option (List Value × List Value)
  | 0, st, acc => some (acc, st)
  | n + 1, v :: st, acc => popN n st (v :: acc)
  | _ + 1, [], _ => none
def catS (st : List Value) : Nat := (st.map fun v => v.category).sum
/-- System.arraycopy over two of our rows -/
def oCpy (st : List Value) (σ : PSt) : Option (List Value × PSt) := match st with
  | .int n :: .int dp :: .ref b :: .int sp :: .ref a :: r =>
    if a < pnc σ ∧ b < pnc σ ∧ (ply σ a).1 = (ply σ b).1 ∧ ¬ sp < 0 ∧ ¬ dp < 0 ∧ ¬ n < 0 ∧ sp.toNatClampNeg + n.toNatClampNeg ≤ (ply σ a).2 ∧ dp.toNatClampNeg + n.toNatClampNeg ≤ (ply σ b).2 ∧ catS r ≤ 8 then
      if (ply σ a).1 = 1 then some (r, riv σ b (va_cpy (piv σ a) (piv σ b) sp.toNatClampNeg dp.toNatClampNeg n.toNatClampNeg))
      else if (ply σ a).1 = 4 then some (r, rlv σ b (va_cpy (plv σ a) (plv σ b) sp.toNatClampNeg dp.toNatClampNeg n.toNatClampNeg)) else none
    else none
  | _ => none
/-- Math.max, Math.min -/
def oMM (j : Nat) (st : List Value) : Option (List Value) := match st with
  | .int y :: .int x :: r => if catS r ≤ 8 then some ((bif Nat.beq j 0 then .int (if x < y then y else x) else .int (if y < x then y else x)) :: r) else none
  | _ => none
/-- what a method's first locals are -/
def entL (as : List Value) : PL := lv_args 0 as
/-- the receiver is a cell of the method's class -/
def vOk (k y : Nat) (as : List Value) (σ : PSt) : Bool := bif Nat.beq k 2 then true else match as with
  | .ref o :: _ => Nat.blt o (pnc σ) && (Nat.beq (ply σ o).1 0 && Nat.beq (ply σ o).2 (mC y))
  | _ => false
/-- the run: n steps at most, calls d deep at most -/
def prun (Λ : PRo) : Nat → Nat → Nat → Nat → PL → List Value → PSt → Option (Option Value × PSt)
  | 0, _, _, _, _, _, _ => none
  | n + 1, d, m, pc, L, st, σ =>
    match decode (mB m) pc with
    | .error _ => none
    | .ok (i, len) =>
      if lenOk i len = true then
        match retOf i st with
        | some v => if okRet (mR m) v = true then some (v, σ) else none
        | none =>
          match callOf i with
          | some (k, idx) =>
            match d with
            | 0 => none
            | d' + 1 =>
              match ca (mC m) idx with
              | some y =>
                if kdOk k y = true then
                  match popN (nA y) st [] with
                  | some (as, rest) => if catS rest ≤ 8 ∧ catS as ≤ mL y ∧ vOk k y as σ = true then
                      match prun Λ n d' y 0 (entL as) [] σ with
                      | some (v, σ1) => prun Λ n (d' + 1) m (pc + 3) L (v.toList ++ rest) σ1
                      | none => none
                    else none
                  | none => none
                else none
              | none =>
                if k = 1 ∧ oi (mC m) idx = true then
                  match st with
                  | .ref _ :: rest => if catS rest ≤ 8 then prun Λ n (d' + 1) m (pc + 3) L rest σ else none
                  | _ => none
                else if k = 2 ∧ ac (mC m) idx = true then
                  match oCpy st σ with
                  | some (rest, σ1) => prun Λ n (d' + 1) m (pc + 3) L rest σ1
                  | none => none
                else if k = 2 then
                  match mm (mC m) idx with
                  | some j => (match oMM j st with
                    | some st1 => prun Λ n (d' + 1) m (pc + 3) L st1 σ
                    | none => none)
                  | none => none
                else none
          | none =>
            match pS Λ (isIni m) (mC m) pc (pc + len) σ i st with
            | some (pc2, st2, σ2) => prun Λ n d m pc2 L st2 σ2
            | none =>
              match pL i (mL m) L st with
              | some (L2, st2) => prun Λ n d m (pc + len) L2 st2 σ
              | none => none
      else none
/-! ===== THE MACHINE DOES WHAT THE PURE MACHINE SAYS: worlds, contexts, one instruction ===== -/
def cv (b0 : Nat) (tt : Nat → Nat) : Value → Value
  | .ref k => .ref (b0 + k)
  | .retAddr k => .ref (tt k)
  | v => v
theorem cv_cat {b0 : Nat} {tt : Nat → Nat} (v : Value) : (cv b0 tt v).category = v.category := by cases v <;> rfl
def arc (b0 : Nat) (σ : PSt) (t k : Nat) : (Nat → Int32) ⊕ (Nat → Int64) ⊕ (Nat → UInt32) ⊕ (Nat → UInt64) ⊕ (Nat → Option Nat) :=
  if t = 4 then .inr (.inl (plv σ k)) else if 5 ≤ t then .inr (.inr (.inr (.inr (fun i => (prv σ k i).map (fun j => b0 + j))))) else .inl (piv σ k)
def fls (b0 : Nat) (tt : Nat → Nat) (σ : PSt) (ci k : Nat) : List Value := (List.range (nF ci)).map fun f => cv b0 tt (fval σ ci k f)
def ent (dA : Nat → ClassId) (b0 : Nat) (tt : Nat → Nat) (σ : PSt) (k : Nat) : va_E :=
  if (ply σ k).1 = 0 then .inr ((ply σ k).2, fls b0 tt σ (ply σ k).2 k) else .inl (dA (ply σ k).1, (ply σ k).2, arc b0 σ (ply σ k).1 k)
theorem ent_o {dA : Nat → ClassId} {b0 : Nat} {tt : Nat → Nat} {σ : PSt} {k ci : Nat} (h : ply σ k = (0, ci)) : ent dA b0 tt σ k = .inr (ci, fls b0 tt σ ci k) := by
  unfold ent
  rw [h]
  rfl
theorem ent_a {dA : Nat → ClassId} {b0 : Nat} {tt : Nat → Nat} {σ : PSt} {k t : Nat} (h : (ply σ k).1 = t) (h0 : t ≠ 0) : ent dA b0 tt σ k = .inl (dA t, (ply σ k).2, arc b0 σ t k) := by
  unfold ent
  rw [if_neg (by rw [h]; exact h0), h]
theorem ent_congr {dA : Nat → ClassId} {b0 : Nat} {tt : Nat → Nat} {σ τ : PSt} {k : Nat} (h1 : ply τ k = ply σ k) (h2 : prv τ k = prv σ k) (h3 : piv τ k = piv σ k) (h4 : plv τ k = plv σ k) : ent dA b0 tt τ k = ent dA b0 tt σ k := by
  unfold ent fls arc fval
  rw [h1, h2, h3, h4]
theorem fls_get {b0 : Nat} {tt : Nat → Nat} {σ : PSt} {ci k f : Nat} (hf : f < nF ci) : (fls b0 tt σ ci k)[f]? = some (cv b0 tt (fval σ ci k f)) := by
  unfold fls
  rw [List.getElem?_map, List.getElem?_range hf]
  rfl
/-- the heap holds a state, from b0 on -/
def Hd (D : va_G) (dA : Nat → ClassId) (b0 : Nat) (tt : Nat → Nat) (σ : PSt) (H : Heap) : Prop := H.size = b0 + pnc σ ∧ ∀ k, k < pnc σ → va_at D vwCl (b0 + k, ent dA b0 tt σ k) H
theorem Hd.upd {D : va_G} {dA : Nat → ClassId} {b0 : Nat} {tt : Nat → Nat} {σ τ : PSt} {H H1 : Heap} {k : Nat} (h : Hd D dA b0 tt σ H) (hn : pnc τ = pnc σ) (hz : H1.size = H.size) (oq : ∀ q : Nat, q ≠ b0 + k → H1[q]? = H[q]?) (he : ∀ j, j ≠ k → ent dA b0 tt τ j = ent dA b0 tt σ j)
    (h1 : va_at D vwCl (b0 + k, ent dA b0 tt τ k) H1) : Hd D dA b0 tt τ H1 := by
  refine ⟨by rw [hz, hn]; exact h.1, fun j hj => ?_⟩
  by_cases hjk : j = k
  · subst hjk; exact h1
  · rw [he j hjk]
    exact (h.2 j (by rw [← hn]; exact hj)).kept (oq (b0 + j) (by omega))
theorem Hd.push {D : va_G} {dA : Nat → ClassId} {b0 : Nat} {tt : Nat → Nat} {σ τ : PSt} {H H1 : Heap} (h : Hd D dA b0 tt σ H) (hn : pnc τ = pnc σ + 1) (hz : H1.size = H.size + 1) (oq : ∀ q : Nat, q < H.size → H1[q]? = H[q]?) (he : ∀ j, j < pnc σ → ent dA b0 tt τ j = ent dA b0 tt σ j)
    (h1 : va_at D vwCl (b0 + pnc σ, ent dA b0 tt τ (pnc σ)) H1) : Hd D dA b0 tt τ H1 := by
  have hs := h.1
  refine ⟨by rw [hz, hn, hs]; omega, fun j hj => ?_⟩
  by_cases hjk : j = pnc σ
  · subst hjk; exact h1
  · have hj2 : j < pnc σ := by omega
    rw [he j hj2]
    exact (h.2 j hj2).kept (oq (b0 + j) (by omega))
def tysL (dA : Nat → ClassId) : List (ClassId × FieldType) := [(dA 1, .int), (dA 2, .byte), (dA 3, .short), (dA 4, .long), (dA 5, .array .int), (dA 6, .array .long)]
theorem tysL_at {dA : Nat → ClassId} {t : Nat} (h0 : 1 ≤ t) (h6 : t ≤ 6) : (tysL dA)[t - 1]? = some (dA t, aty t) := by
  have : t = 1 ∨ t = 2 ∨ t = 3 ∨ t = 4 ∨ t = 5 ∨ t = 6 := by omega
  rcases this with rfl | rfl | rfl | rfl | rfl | rfl <;> rfl
theorem vwCl_at {ci : Nat} (h : ci < NX) : vwCl[ci]? = some (cnm ci, cT ci, nF ci) := by
  have h2 : ci < 13 := h
  have : ci = 0 ∨ ci = 1 ∨ ci = 2 ∨ ci = 3 ∨ ci = 4 ∨ ci = 5 ∨ ci = 6 ∨ ci = 7 ∨ ci = 8 ∨ ci = 9 ∨ ci = 10 ∨ ci = 11 ∨ ci = 12 := by omega
  rcases this with rfl | rfl | rfl | rfl | rfl | rfl | rfl | rfl | rfl | rfl | rfl | rfl | rfl <;> rfl
theorem vwCl_lt {ci : Nat} {r : vw_C} (h : vwCl[ci]? = some r) : ci < NX := (List.getElem?_eq_some_iff.mp h).1
/-- what the tables and the statics say of a state -/
def KN (Λ : PRo) (D : va_G) (dA : Nat → ClassId) (b0 : Nat) (tt : Nat → Nat) (U : State) (Hp : Heap) : Prop :=
  va_K D vwCl (tysL dA) U ∧ b0 ≤ Hp.size ∧ (∀ j, j < Λ.1 → va_T .int (tt j) (Λ.2.1 j) (fun i => .int (Λ.2.2 j i)) (fun a => b0 ≤ a) U Hp) ∧ (∀ j, 1 ≤ j → j < 4 → va_Z (stN j).1 (stN j).2.1 (stN j).2.2 (.ref (tt j)) (fun a => b0 ≤ a) U Hp) ∧ (Cond.arrayOver (.array .int)).before #[] U = true ∧ (Cond.arrayOver (.array .long)).before #[] U = true
theorem KN.moved {Λ : PRo} {D : va_G} {dA : Nat → ClassId} {b0 : Nat} {tt : Nat → Nat} {u U : State} {H H1 : Heap} (hvm : u.vm.Alike U.vm) (h : KN Λ D dA b0 tt u H) (hz : b0 ≤ H1.size) (hq : ∀ q : Nat, q < b0 → H1[q]? = H[q]?) : KN Λ D dA b0 tt U H1 := by
  obtain ⟨h1, h2, h3, h4, h5, h6⟩ := h
  refine ⟨h1.moved hvm, hz, fun j hj => ((h3 j hj).moved hvm).kept (fun a _ ha => hq a (by have ha : ¬ b0 ≤ a := ha; omega)), fun j h0 hj => ((h4 j h0 hj).moved hvm).kept (fun a _ ha => hq a (by have ha : ¬ b0 ≤ a := ha; omega)), Stand.arrayOver_alikeB hvm h5, Stand.arrayOver_alikeB hvm h6⟩
/-- the walk's fixed things -/
abbrev Ctx : Type := Program × Launch × Env × Room × State × MethodId × Array Value × List Frame × Method × Code × (State → Prop) × va_G × (Nat → ClassId) × Nat × (Nat → Nat) × Nat × Nat × Nat
abbrev xp (X : Ctx) : Program := X.1
abbrev xl (X : Ctx) : Launch := X.2.1
abbrev xe (X : Ctx) : Env := X.2.2.1
abbrev xR (X : Ctx) : Room := X.2.2.2.1
abbrev xs (X : Ctx) : State := X.2.2.2.2.1
abbrev xi (X : Ctx) : MethodId := X.2.2.2.2.2.1
abbrev xa (X : Ctx) : Array Value := X.2.2.2.2.2.2.1
abbrev xb (X : Ctx) : List Frame := X.2.2.2.2.2.2.2.1
abbrev xh (X : Ctx) : Method := X.2.2.2.2.2.2.2.2.1
abbrev xc (X : Ctx) : Code := X.2.2.2.2.2.2.2.2.2.1
abbrev xQ (X : Ctx) : State → Prop := X.2.2.2.2.2.2.2.2.2.2.1
abbrev xD (X : Ctx) : va_G := X.2.2.2.2.2.2.2.2.2.2.2.1
abbrev xA (X : Ctx) : Nat → ClassId := X.2.2.2.2.2.2.2.2.2.2.2.2.1
abbrev xo (X : Ctx) : Nat := X.2.2.2.2.2.2.2.2.2.2.2.2.2.1
abbrev xt (X : Ctx) : Nat → Nat := X.2.2.2.2.2.2.2.2.2.2.2.2.2.2.1
abbrev xk (X : Ctx) : Nat := X.2.2.2.2.2.2.2.2.2.2.2.2.2.2.2.1
abbrev xn (X : Ctx) : Nat := X.2.2.2.2.2.2.2.2.2.2.2.2.2.2.2.2.1
abbrev xm (X : Ctx) : Nat := X.2.2.2.2.2.2.2.2.2.2.2.2.2.2.2.2.2
/-- the good words of the tables -/
def WALL : List Cond := lw_tbl.filter goodWord
theorem wall_in {w : Cond} (h : w ∈ lw_tbl) (hg : goodWord w = true) : w ∈ WALL := List.mem_filter.mpr ⟨h, hg⟩
def CX (Λ : PRo) (X : Ctx) : Prop := (xp X).tables.exec = Jvm.exec ∧ (xc X).code = mB (xm X) ∧ (xh X).sig.returnType = mR (xm X) ∧ (xc X).maxLocals = mL (xm X) ∧ (xs X).vm.findClass (cnm (mC (xm X))) = some (xi X).cls ∧ (∀ w ∈ WALL, w.before (xa X) (xs X) = true) ∧ (xh X).locks = false ∧ (isIni (xm X) = true → (xh X).name = "<init>") ∧ KN Λ (xD X) (xA X) (xo X) (xt X) (xs X) (xs X).heap ∧ xm X ≤ NM
abbrev cvL (X : Ctx) (L : PL) : List (Nat × Value) := L.map fun q => (q.1, cv (xo X) (xt X) q.2)
/-- the walk goes on well from here -/
def WS (X : Ctx) (pc : Nat) (L : PL) (st : List Value) (σ : PSt) : Prop := ∀ (H : Heap) (locs : List Loc) (cells slots : Nat) (ls : Array Slot), Hd (xD X) (xA X) (xo X) (xt X) σ H → va_S (fun q => xo X ≤ q) (xs X).heap H locs → pnc σ = xk X + cells → pns σ = xn X + slots → lv_has ls (mL (xm X)) (cvL X L) →
  W (xp X) (xl X) (xe X) (xR X) (xs X) (xi X) (xa X) (xb X) (xh X) (xc X) H locs cells slots (xQ X) (F0 (xi X) pc ls (st.map (cv (xo X) (xt X))))
/-! inversions -/
theorem oI1_i {st : List Value} {f : Int32 → Int32} {pc : Nat} {σ : PSt} {q : Nat × List Value × PSt} (h : oI1 st f pc σ = some q) : ∃ x r, st = .int x :: r ∧ q = (pc, .int (f x) :: r, σ) := by
  unfold oI1 at h
  split at h
  · cases h; exact ⟨_, _, rfl, rfl⟩
  · cases h
theorem oI2_i {st : List Value} {f : Int32 → Int32 → Int32} {pc : Nat} {σ : PSt} {q : Nat × List Value × PSt} (h : oI2 st f pc σ = some q) : ∃ x y r, st = .int y :: .int x :: r ∧ q = (pc, .int (f x y) :: r, σ) := by
  unfold oI2 at h
  split at h
  · cases h; exact ⟨_, _, _, rfl, rfl⟩
  · cases h
theorem oD2_i {st : List Value} {f : Int32 → Int32 → Int32} {pc : Nat} {σ : PSt} {q : Nat × List Value × PSt} (h : oD2 st f pc σ = some q) : ∃ x y r, st = .int y :: .int x :: r ∧ ¬ y = 0 ∧ q = (pc, .int (f x y) :: r, σ) := by
  unfold oD2 at h
  split at h
  · split at h
    · cases h
    · cases h; exact ⟨_, _, _, rfl, by assumption, rfl⟩
  · cases h
theorem oL2_i {st : List Value} {f : Int64 → Int64 → Int64} {pc : Nat} {σ : PSt} {q : Nat × List Value × PSt} (h : oL2 st f pc σ = some q) : ∃ x y r, st = .long y :: .long x :: r ∧ q = (pc, .long (f x y) :: r, σ) := by
  unfold oL2 at h
  split at h
  · cases h; exact ⟨_, _, _, rfl, rfl⟩
  · cases h
theorem oE2_i {st : List Value} {f : Int64 → Int64 → Int64} {pc : Nat} {σ : PSt} {q : Nat × List Value × PSt} (h : oE2 st f pc σ = some q) : ∃ x y r, st = .long y :: .long x :: r ∧ ¬ y = 0 ∧ q = (pc, .long (f x y) :: r, σ) := by
  unfold oE2 at h
  split at h
  · split at h
    · cases h
    · cases h; exact ⟨_, _, _, rfl, by assumption, rfl⟩
  · cases h
theorem tgt_i {pc : Nat} {off : Int} {t : Nat} (h : tgt pc off = some t) : (pc : Int) + off = (t : Int) := by
  unfold tgt at h
  split at h
  · cases h; omega
  · cases h
theorem oGet_i {c k : Nat} {st : List Value} {pc : Nat} {σ : PSt} {q : Nat × List Value × PSt} (h : oGet c k st pc σ = some q) : ∃ o r ci f, st = .ref o :: r ∧ fl c k = some (ci, f) ∧ o < pnc σ ∧ ply σ o = (0, ci) ∧ f < nF ci ∧ q = (pc, fval σ ci o f :: r, σ) := by
  unfold oGet at h
  split at h
  · split at h
    · split at h
      next hh => cases h; exact ⟨_, _, _, _, rfl, by assumption, hh.1, hh.2.1, hh.2.2, rfl⟩
      next => cases h
    · cases h
  · cases h
theorem oPut_i {ini : Bool} {c k : Nat} {st : List Value} {pc : Nat} {σ : PSt} {q : Nat × List Value × PSt} (h : oPut ini c k st pc σ = some q) : ∃ v o r ci f τ, st = v :: .ref o :: r ∧ fl c k = some (ci, f) ∧ o < pnc σ ∧ ply σ o = (0, ci) ∧ f < nF ci ∧ (ffin ci f = true → ini = true ∧ c = ci) ∧ pval σ (fk ci f) o f v = some τ ∧ q = (pc, r, τ) := by
  unfold oPut at h
  split at h
  · split at h
    · split at h
      next hh =>
        rw [Option.map_eq_some_iff] at h
        obtain ⟨τ, h1, rfl⟩ := h
        exact ⟨_, _, _, _, _, _, rfl, by assumption, hh.1, hh.2.1, hh.2.2.1, hh.2.2.2, h1, rfl⟩
      next => cases h
    · cases h
  · cases h
theorem vin_in {i : Int32} {n : Nat} (h : vin i n) : vp_in i n := vp_in_iff.mpr h
theorem vin_lt {i : Int32} {n : Nat} (h : vin i n) : i.toNatClampNeg < n := Nat.not_le.mp fun q => vin_in h (Or.inr q)
/-! ===== words by their places ===== -/
theorem w_code {m : Nat} (h : m < NM) : wCode m ∈ WALL := by
  have h1 : wCode0 m ∈ lw_tbl.filter k2_isCode := by
    rw [sgCode_ok]
    exact List.mem_map.mpr ⟨m, sgCode_all m h, rfl⟩
  have h2 : wCode0 m = wCode m := by
    have h3 := nm_9999
    have e1 : Nat.beq m 9999 = false := by
      cases e : Nat.beq m 9999
      · rfl
      · have := Nat.eq_of_beq_eq_true e; omega
    have e2 : Nat.beq m 9998 = false := by
      cases e : Nat.beq m 9998
      · rfl
      · have := Nat.eq_of_beq_eq_true e; omega
    have e3 : Nat.beq m 9997 = false := by
      cases e : Nat.beq m 9997
      · rfl
      · have := Nat.eq_of_beq_eq_true e; omega
    unfold wCode0
    rw [e1, e2, e3]
    rfl
  rw [h2] at h1
  exact wall_in (List.mem_filter.mp h1).1 rfl
theorem w_code0 {w : Cond} {m : Nat} (hm : m ∈ sgCode) (h : wCode0 m = w) (hg : goodWord w = true) : w ∈ WALL := by
  have h1 : wCode0 m ∈ lw_tbl.filter k2_isCode := by
    rw [sgCode_ok]
    exact List.mem_map.mpr ⟨m, hm, rfl⟩
  rw [h] at h1
  exact wall_in (List.mem_filter.mp h1).1 hg
theorem w_im {m : Nat} (h : m < NM) (hk : ¬ mK m = 2) : Cond.instanceMethod (mY m) ∈ WALL := wall_in (chk_map (f := wIm) sgIm_ok (sgIm_all m h hk)) rfl
theorem w_sel {m : Nat} (h : m < NM) (hk : mK m = 0) : wSel m ∈ WALL := wall_in (chk_map (f := wSel) sgSel_ok (sgSel_all m h hk)) rfl
theorem w_st {m : Nat} (h : m < NM) (hk : mK m = 2) : Cond.static (mY m) ∈ WALL := wall_in (chk_map (f := wSt) sgSt_ok (sgSt_all m h hk)) rfl
theorem w_ca {c k y : Nat} (hc : c < NCL) (h : ca c k = some y) : Cond.methodLink (cnm c) k (mY y) ∈ WALL := wall_in (chk_map (f := wCa1) sgCa_ok (sgCa_all c hc _ (lkp_in h))) rfl
theorem ca_y {c k y : Nat} (hc : c < NCL) (h : ca c k = some y) : y < NM := ca_lt c hc _ (lkp_in h)
theorem w_fl {c k : Nat} {e : Nat × Nat} (hc : c < NCL) (h : fl c k = some e) : wFl c (k, e) ∈ WALL := wall_in (chk_map (f := wFl1) sgFl_ok (sgFl_all c hc _ (lkp_in h))) rfl
theorem fl_y {c k : Nat} {e : Nat × Nat} (hc : c < NCL) (h : fl c k = some e) : e.1 < NX ∧ e.2 < nF e.1 := fl_lt c hc _ (lkp_in h)
theorem w_sk {c k j : Nat} (hc : c < NCL) (h : sk c k = some j) : wSk c (k, j) ∈ WALL := wall_in (chk_map (f := wSk1) sgSk_ok (sgSk_all c hc _ (lkp_in h))) rfl
theorem w_nw {c k j : Nat} (hc : c < NCL) (h : nw c k = some j) : wNw c (k, j) ∈ WALL := wall_in (chk_map (f := wNw1) sgNw_ok (sgNw_all c hc _ (lkp_in h))) rfl
theorem w_mn {c k j : Nat} (hc : c < NCL) (h : mn c k = some j) : wMn c (k, j) ∈ WALL := wall_in (chk_map (f := wMn1) sgMn_ok (sgMn_all c hc _ (lkp_in h))) rfl
theorem w_ki {c k : Nat} {v : Int32} (hc : c < NCL) (h : ki c k = some v) : Cond.constant (cnm c) k v ∈ WALL := wall_in (chk_map (f := wKi) sgKi_ok (sgKi_all c hc _ (lkp_in h))) rfl
theorem w_kl {c k : Nat} {v : Int64} (hc : c < NCL) (h : kl c k = some v) : Cond.constantLong (cnm c) k v ∈ WALL := wall_in (chk_map (f := wKl) sgKl_ok (sgKl_all c hc _ (lkp_in h))) rfl
theorem w_mm {c k j : Nat} (hc : c < NCL) (h : mm c k = some j) : Cond.methodLink (cnm c) k (mmN j) ∈ WALL := wall_in (chk_map (f := wMm) sgMm_ok (sgMm_all c hc _ (lkp_in h))) rfl
theorem w_oi {c k : Nat} (hc : c < NCL) (h : oi c k = true) : Cond.methodLink (cnm c) k objectInit ∈ WALL := wall_in (chk_map (f := wOi) sgOi_ok (sgOi_all c hc _ (List.contains_iff_mem.mp h))) rfl
theorem w_ac {c k : Nat} (hc : c < NCL) (h : ac c k = true) : Cond.methodLink (cnm c) k arraycopyName ∈ WALL := wall_in (chk_map (f := wAc) sgAc_ok (sgAc_all c hc _ (List.contains_iff_mem.mp h))) rfl
theorem w_lay {c : Nat} (hc : c < NX) : ∀ w ∈ u_ws (cnm c) (cT c) (nF c), w ∈ WALL := by
  intro w hw
  obtain ⟨k, hk, rfl⟩ := List.mem_map.mp hw
  refine wall_in (chk_map (f := wLay) sgLay_ok (sgLay_all c hc k (List.mem_range.mp hk))) ?_
  unfold u_lay
  split <;> rfl
theorem w_in {c : Nat} (hc : c < NCL) : Cond.initialized (cnm c) ∈ WALL := wall_in (chk_map (f := wInit) sgIn_ok (sgIn_all c hc)) rfl
theorem w_is {c : Nat} (hc : c < NX) : Cond.instantiable (cnm c) (nF c) ∈ WALL := wall_in (chk_map (f := wIns) sgIs_ok (sgIs_all c hc)) rfl
theorem w_ex {w : Cond} (h : w ∈ sgEx.map (fun q => q.2)) (hg : goodWord w = true) : w ∈ WALL := wall_in (chk_map (f := wEx) sgEx_ok h) hg
theorem nx_cl {c : Nat} (h : c < NX) : c < NCL := by
  have h1 : c < 13 := h
  show c < 15
  omega
/-! ===== one instruction: a field read, a field written, rows ===== -/
theorem CX.mc {Λ : PRo} {X : Ctx} (C : CX Λ X) : mC (xm X) < NCL := mC_lt _ C.2.2.2.2.2.2.2.2.2
theorem ws_get {Λ : PRo} {X : Ctx} (C : CX Λ X) {pc : Nat} {L : PL} {o ci f k : Nat} {r : List Value} {σ : PSt} (hd : decode (mB (xm X)) pc = .ok (.getfield k, 3)) (hfl : fl (mC (xm X)) k = some (ci, f)) (ho : o < pnc σ) (hp : ply σ o = (0, ci)) (hf : f < nF ci)
    (kk : WS X (pc + 3) L (fval σ ci o f :: r) σ) : WS X pc L (.ref o :: r) σ := by
  intro H locs cells slots ls hH hS hc hs hl
  obtain ⟨hci, -⟩ := fl_y C.mc hfl
  have hat := hH.2 o ho
  rw [ent_o hp] at hat
  obtain ⟨r0, h1, cell, q1, q2, q3, q4⟩ := hat
  have hr : r0 = (cnm ci, cT ci, nF ci) := Option.some.inj (h1.symm.trans (vwCl_at hci))
  subst hr
  obtain ⟨hSl, hfc, kC, hkC, hkind⟩ := C.2.2.2.2.2.2.2.2.1.1.1 ci _ h1
  obtain ⟨cf, kf, fi, fd, hi, hsl⟩ := hSl f hf
  have hlink := C.2.2.2.2.2.1 _ (w_fl C.mc hfl)
  have hT1 := (fk_ok ci hci f hf).2.2.2.2.2.2
  have hi2 : (xs X).fieldFound? (cnm ci) (cT ci f).2.1 (cT ci f).2.2.1 = some (cf, kf, fi, fd) := by rw [← hT1]; exact hi
  refine W.getf C.1 C.2.1 C.2.2.2.2.1 hlink hi2 (u_facts hfc hkC (u_lays C.2.2.2.2.2.1 (w_lay hci) hf) hi).1 q1 (by rw [q3]; exact fun h => by cases h) (v := cv (xo X) (xt X) (fval σ ci o f)) ?_ rfl rfl hd (kk H locs cells slots ls hH hS hc hs hl)
  rw [hsl, q4 f hf]
  have := fls_get (b0 := xo X) (tt := xt X) (σ := σ) (k := o) hf
  simp [vp_V, this]
theorem pval_i {σ τ : PSt} {ci o f : Nat} {v : Value} (h : pval σ (fk ci f) o f v = some τ) : pnc τ = pnc σ ∧ pns τ = pns σ ∧ ply τ = ply σ ∧ (∀ j, j ≠ o → prv τ j = prv σ j ∧ piv τ j = piv σ j ∧ plv τ j = plv σ j) ∧ ∀ j, fval τ ci o j = if j = f then v else fval σ ci o j := by
  unfold pval at h
  split at h
  · split at h
    next x hk =>
      cases h
      refine ⟨rfl, rfl, rfl, fun j hj => ⟨rfl, up2_n hj, rfl⟩, fun j => ?_⟩
      by_cases hj : j = f
      · subst hj
        rw [if_pos rfl]
        have : fk ci j = 1 ∨ fk ci j = 3 := by rcases hk with h | h; exact Or.inl h; exact Or.inr h.1
        unfold fval
        rcases this with e | e <;> rw [e] <;> exact congrArg Value.int up2_s
      · rw [if_neg hj]
        unfold fval
        have e : piv (wiv σ o f x) o j = piv σ o j := by show up2 (piv σ) o f x o j = _; simp [up2, hj]
        rw [e]
        rfl
    next => cases h
  · split at h
    next x hk =>
      cases h
      refine ⟨rfl, rfl, rfl, fun j hj => ⟨rfl, rfl, up2_n hj⟩, fun j => ?_⟩
      by_cases hj : j = f
      · subst hj
        rw [if_pos rfl]
        unfold fval
        rw [hk]
        exact congrArg Value.long up2_s
      · rw [if_neg hj]
        unfold fval
        have e : plv (wlv σ o f x) o j = plv σ o j := by show up2 (plv σ) o f x o j = _; simp [up2, hj]
        rw [e]
        rfl
    next => cases h
  · split at h
    next x hk =>
      cases h
      refine ⟨rfl, rfl, rfl, fun j hj => ⟨up2_n hj, rfl, rfl⟩, fun j => ?_⟩
      by_cases hj : j = f
      · subst hj
        rw [if_pos rfl]
        unfold fval
        rw [hk]
        have e : prv (wrv σ o j (some x)) o j = some x := up2_s
        rw [e]
        rfl
      · rw [if_neg hj]
        unfold fval
        have e : prv (wrv σ o f (some x)) o j = prv σ o j := by show up2 (prv σ) o f (some x) o j = _; simp [up2, hj]
        rw [e]
        rfl
    next => cases h
  · cases h
theorem pval_fit {σ τ : PSt} {ci o f : Nat} {v : Value} {b0 : Nat} {tt : Nat → Nat} (hci : ci < NX) (hf : f < nF ci) (h : pval σ (fk ci f) o f v = some τ) : narrow (cTy ci f) (cv b0 tt v) = cv b0 tt v ∧ fits (cTy ci f) (cv b0 tt v) = true := by
  obtain ⟨k1, k2, k3, k4, -⟩ := fk_ok ci hci f hf
  unfold pval at h
  split at h
  · split at h
    next x hk =>
      rcases hk with hk | ⟨hk, hx⟩
      · rw [k1 hk]; exact ⟨rfl, rfl⟩
      · rw [k3 hk]
        rcases hx with rfl | rfl
        · show narrow .boolean (.int 0) = .int 0 ∧ fits .boolean (.int 0) = true
          decide
        · show narrow .boolean (.int 1) = .int 1 ∧ fits .boolean (.int 1) = true
          decide
    next => cases h
  · split at h
    next x hk => rw [k2 hk]; exact ⟨rfl, rfl⟩
    next => cases h
  · split at h
    next x hk =>
      have := k4 hk
      generalize cTy ci f = t at this
      cases t <;> first | exact ⟨rfl, rfl⟩ | cases this
    next => cases h
  · cases h
theorem Hd.fld {D : va_G} {dA : Nat → ClassId} {b0 : Nat} {tt : Nat → Nat} {σ τ : PSt} {H H1 : Heap} {o ci f : Nat} {v : Value} {cell : Cell} (h : Hd D dA b0 tt σ H) (hp : ply σ o = (0, ci)) (hci : ci < NX) (hf : f < nF ci) (hv : pval σ (fk ci f) o f v = some τ) (hz : H1.size = H.size) (oq : ∀ q : Nat, q ≠ b0 + o → H1[q]? = H[q]?)
    (q2 : cell.cls = D.1 ci) (q3 : cell.vm = .none) (q4 : ∀ k, k < nF ci → cell.slots[D.2 ci k]? = some (vp_V (fls b0 tt σ ci o) k)) (hap : ∀ x y, x < nF ci → y < nF ci → x ≠ y → D.2 ci x ≠ D.2 ci y) (e1 : H1[b0 + o]? = some (cell.setSlot (D.2 ci f) (cv b0 tt v))) : Hd D dA b0 tt τ H1 := by
  obtain ⟨i1, i2, i3, i4, i5⟩ := pval_i hv
  refine h.upd i1 hz oq (fun j hj => ent_congr (by rw [i3]) (i4 j hj).1 (i4 j hj).2.1 (i4 j hj).2.2) ?_
  rw [ent_o (show ply τ o = (0, ci) by rw [i3]; exact hp)]
  refine ⟨_, vwCl_at hci, t_OB.to (V := updV (vp_V (fls b0 tt σ ci o)) f (cv b0 tt v)) ⟨_, e1, q2, q3, t_set q4 hap hf _⟩ (fun j hj => ?_)⟩
  have hj2 : j < nF ci := hj
  have a1 : vp_V (fls b0 tt σ ci o) j = cv b0 tt (fval σ ci o j) := by simp [vp_V, fls_get hj2]
  have a2 : vp_V (fls b0 tt τ ci o) j = cv b0 tt (fval τ ci o j) := by simp [vp_V, fls_get hj2]
  rw [a2, i5 j]
  by_cases hjf : j = f
  · subst hjf; simp [updV]
  · simp [updV, hjf, a1]
theorem ws_put {Λ : PRo} {X : Ctx} (C : CX Λ X) {pc : Nat} {L : PL} {o ci f k : Nat} {v : Value} {r : List Value} {σ τ : PSt} (hd : decode (mB (xm X)) pc = .ok (.putfield k, 3)) (hfl : fl (mC (xm X)) k = some (ci, f)) (ho : o < pnc σ) (hp : ply σ o = (0, ci)) (hf : f < nF ci)
    (hfin : ffin ci f = true → isIni (xm X) = true ∧ mC (xm X) = ci) (hv : pval σ (fk ci f) o f v = some τ) (kk : WS X (pc + 3) L r τ) : WS X pc L (v :: .ref o :: r) σ := by
  intro H locs cells slots ls hH hS hc hs hl
  obtain ⟨hci, -⟩ := fl_y C.mc hfl
  have hat := hH.2 o ho
  rw [ent_o hp] at hat
  obtain ⟨r0, h1, cell, q1, q2, q3, q4⟩ := hat
  have hr : r0 = (cnm ci, cT ci, nF ci) := Option.some.inj (h1.symm.trans (vwCl_at hci))
  subst hr
  have hap := va_apart (own := cnm ci) C.2.2.2.2.2.1 (w_lay hci) (cTy ci) (cT_ty hci) (cT_nm hci) C.2.2.2.2.2.2.2.2.1.1 h1
  obtain ⟨hSl, hfc, kC, hkC, hkind⟩ := C.2.2.2.2.2.2.2.2.1.1.1 ci _ h1
  obtain ⟨cf, kf, fi, fd, hi, hsl⟩ := hSl f hf
  have hlink := C.2.2.2.2.2.1 _ (w_fl C.mc hfl)
  obtain ⟨-, -, -, -, -, hff, hT1⟩ := fk_ok ci hci f hf
  have hi2 : (xs X).fieldFound? (cnm ci) (cT ci f).2.1 (cT ci f).2.2.1 = some (cf, kf, fi, fd) := by rw [← hT1]; exact hi
  have hlay := C.2.2.2.2.2.1 _ (w_lay hci _ (u_in_lay hf))
  have hst := (u_facts hfc hkC (u_lays C.2.2.2.2.2.1 (w_lay hci) hf) hi).1
  obtain ⟨hn9, hfit⟩ := pval_fit (b0 := xo X) (tt := xt X) hci hf hv
  obtain ⟨i1, i2, -⟩ := pval_i hv
  cases hb : ffin ci f with
  | false =>
    unfold u_lay at hlay
    rw [if_neg (by rw [← hff, hb]; decide)] at hlay
    have h6 := u_store hfc hkC hkind hlay hi (cT_ty hci f hf) hn9 hfit
    refine W.putK C.1 C.2.1 (f := fd) ⟨C.2.2.2.2.1, hlink, ⟨_, _, _, hi2⟩, hst⟩ (by rw [q2]; exact h6) q1 q3 (by rw [hsl]; exact k2_hasslot (q4 f hf)) rfl rfl hd fun H' e1 e2 e3 => ?_
    rw [hsl] at e1
    exact kk H' _ cells slots ls (hH.fld hp hci hf hv e2 e3 q2 q3 q4 hap e1) (hS.put e2 e3 (show xo X ≤ xo X + o by omega)) (by rw [i1]; exact hc) (by rw [i2]; exact hs) hl
  | true =>
    unfold u_lay at hlay
    rw [if_pos (by rw [← hff, hb])] at hlay
    obtain ⟨hini, hcc⟩ := hfin hb
    have hcf : (xi X).cls = cf := by
      obtain ⟨_, _, c', _, _, _, -, -, hf', -, -, -, hown2, -⟩ := Cond.laysFinal_spec hlay
      have e1 : c' = cf := by have := hi.symm.trans hf'; simp at this; exact this.1.symm
      rw [hT1] at hown2
      have hown := C.2.2.2.2.1
      rw [hcc] at hown
      rw [← e1]; exact Option.some.inj (hown.symm.trans hown2)
    have h6 := u_fits hfc hkC hkind (Or.inr hlay) hi (cT_ty hci f hf) hn9 hfit
    refine W.putFinK C.1 C.2.1 C.2.2.2.2.1 hlink hi2 hst hcf (C.2.2.2.2.2.2.2.1 hini) (by rw [q2]; exact h6) q1 q3 (by rw [hsl]; exact k2_hasslot (q4 f hf)) rfl rfl hd fun H' e1 e2 e3 => ?_
    rw [hsl] at e1
    exact kk H' _ cells slots ls (hH.fld hp hci hf hv e2 e3 q2 q3 q4 hap e1) (hS.put e2 e3 (show xo X ≤ xo X + o by omega)) (by rw [i1]; exact hc) (by rw [i2]; exact hs) hl
/-! ===== one instruction: rows ===== -/
theorem CX.kn {Λ : PRo} {X : Ctx} (C : CX Λ X) : KN Λ (xD X) (xA X) (xo X) (xt X) (xs X) (xs X).heap := C.2.2.2.2.2.2.2.2.1
theorem va_S.lo {b0 : Nat} {H0 H : Heap} {locs : List Loc} (h : va_S (fun q => b0 ≤ q) H0 H locs) (hz : b0 ≤ H0.size) : b0 ≤ H.size ∧ ∀ q : Nat, q < b0 → H[q]? = H0[q]? := ⟨Nat.le_trans hz h.1, fun q hq => h.2.1 q (by omega) (by show ¬ b0 ≤ q; omega)⟩
theorem KN.at {Λ : PRo} {X : Ctx} (C : CX Λ X) {H : Heap} {locs : List Loc} (hS : va_S (fun q => xo X ≤ q) (xs X).heap H locs) : KN Λ (xD X) (xA X) (xo X) (xt X) (xs X) H := by
  have h := hS.lo C.kn.2.1
  exact C.kn.moved (Vm.Alike.refl _) h.1 h.2
theorem ws_iald {Λ : PRo} {X : Ctx} (C : CX Λ X) {pc : Nat} {L : PL} {o : Nat} {i : Int32} {r : List Value} {σ : PSt} (hd : decode (mB (xm X)) pc = .ok (.iaload, 1)) (ho : o < pnc σ) (hp : (ply σ o).1 = 1) (hi : vin i (ply σ o).2)
    (kk : WS X (pc + 1) L (.int (piv σ o i.toNatClampNeg) :: r) σ) : WS X pc L (.int i :: .ref o :: r) σ := by
  intro H locs cells slots ls hH hS hc hs hl
  have hat := hH.2 o ho
  rw [ent_a hp (by decide)] at hat
  have hcell : H[xo X + o]? = some (vp_cell (xA X 1) ((ply σ o).2, .inl (piv σ o))) := hat
  have hT := (C.kn.1.2 0 _ rfl).1
  exact W.iald (v := .int (piv σ o i.toNatClampNeg)) C.1 C.2.1 hcell (hT _ (fun j => .int (piv σ o j))) (fun q => by cases q) (by show ¬ (i < 0 ∨ (arrV _ _ _).slots.size ≤ _); rw [arrV_size]; exact vin_in hi) (by show (arrV _ _ _).slots[_]? = _; rw [arrV_read _ _ (vin_lt hi)]) rfl rfl hd (kk H locs cells slots ls hH hS hc hs hl)
theorem ws_bald {Λ : PRo} {X : Ctx} (C : CX Λ X) {pc : Nat} {L : PL} {o : Nat} {i : Int32} {r : List Value} {σ : PSt} (hd : decode (mB (xm X)) pc = .ok (.baload, 1)) (ho : o < pnc σ) (hp : (ply σ o).1 = 2) (hi : vin i (ply σ o).2)
    (kk : WS X (pc + 1) L (.int (piv σ o i.toNatClampNeg) :: r) σ) : WS X pc L (.int i :: .ref o :: r) σ := by
  intro H locs cells slots ls hH hS hc hs hl
  have hat := hH.2 o ho
  rw [ent_a hp (by decide)] at hat
  have hcell : H[xo X + o]? = some (vp_cell (xA X 2) ((ply σ o).2, .inl (piv σ o))) := hat
  have hT := (C.kn.1.2 1 _ rfl).1
  exact W.bald (v := .int (piv σ o i.toNatClampNeg)) C.1 C.2.1 hcell (hT _ (fun j => .int (piv σ o j))) (fun q => by cases q) (by show ¬ (i < 0 ∨ (arrV _ _ _).slots.size ≤ _); rw [arrV_size]; exact vin_in hi) (by show (arrV _ _ _).slots[_]? = _; rw [arrV_read _ _ (vin_lt hi)]) rfl rfl hd (kk H locs cells slots ls hH hS hc hs hl)
theorem ws_sald {Λ : PRo} {X : Ctx} (C : CX Λ X) {pc : Nat} {L : PL} {o : Nat} {i : Int32} {r : List Value} {σ : PSt} (hd : decode (mB (xm X)) pc = .ok (.saload, 1)) (ho : o < pnc σ) (hp : (ply σ o).1 = 3) (hi : vin i (ply σ o).2)
    (kk : WS X (pc + 1) L (.int (piv σ o i.toNatClampNeg) :: r) σ) : WS X pc L (.int i :: .ref o :: r) σ := by
  intro H locs cells slots ls hH hS hc hs hl
  have hat := hH.2 o ho
  rw [ent_a hp (by decide)] at hat
  have hcell : H[xo X + o]? = some (vp_cell (xA X 3) ((ply σ o).2, .inl (piv σ o))) := hat
  have hT := (C.kn.1.2 2 _ rfl).1
  exact W.sald (v := .int (piv σ o i.toNatClampNeg)) C.1 C.2.1 hcell (hT _ (fun j => .int (piv σ o j))) (fun q => by cases q) (by show ¬ (i < 0 ∨ (arrV _ _ _).slots.size ≤ _); rw [arrV_size]; exact vin_in hi) (by show (arrV _ _ _).slots[_]? = _; rw [arrV_read _ _ (vin_lt hi)]) rfl rfl hd (kk H locs cells slots ls hH hS hc hs hl)
theorem ws_lald {Λ : PRo} {X : Ctx} (C : CX Λ X) {pc : Nat} {L : PL} {o : Nat} {i : Int32} {r : List Value} {σ : PSt} (hd : decode (mB (xm X)) pc = .ok (.laload, 1)) (ho : o < pnc σ) (hp : (ply σ o).1 = 4) (hi : vin i (ply σ o).2)
    (kk : WS X (pc + 1) L (.long (plv σ o i.toNatClampNeg) :: r) σ) : WS X pc L (.int i :: .ref o :: r) σ := by
  intro H locs cells slots ls hH hS hc hs hl
  have hat := hH.2 o ho
  rw [ent_a hp (by decide)] at hat
  have hcell : H[xo X + o]? = some (vp_cell (xA X 4) ((ply σ o).2, .inr (.inl (plv σ o)))) := hat
  have hT := (C.kn.1.2 3 _ rfl).1
  exact W.lald (v := .long (plv σ o i.toNatClampNeg)) C.1 C.2.1 hcell (hT _ (fun j => .long (plv σ o j))) (fun q => by cases q) (by show ¬ (i < 0 ∨ (arrV _ _ _).slots.size ≤ _); rw [arrV_size]; exact vin_in hi) (by show (arrV _ _ _).slots[_]? = _; rw [arrV_read _ _ (vin_lt hi)]) rfl rfl hd (kk H locs cells slots ls hH hS hc hs hl)
theorem ws_aald {Λ : PRo} {X : Ctx} (C : CX Λ X) {pc : Nat} {L : PL} {o j : Nat} {i : Int32} {r : List Value} {σ : PSt} (hd : decode (mB (xm X)) pc = .ok (.aaload, 1)) (ho : o < pnc σ) (hp : (ply σ o).1 = 5 ∨ (ply σ o).1 = 6) (hi : vin i (ply σ o).2) (hj : prv σ o i.toNatClampNeg = some j)
    (kk : WS X (pc + 1) L (.ref j :: r) σ) : WS X pc L (.int i :: .ref o :: r) σ := by
  intro H locs cells slots ls hH hS hc hs hl
  have hat := hH.2 o ho
  rcases hp with hp | hp
  · rw [ent_a hp (by decide)] at hat
    have hcell : H[xo X + o]? = some (vp_cell (xA X 5) ((ply σ o).2, .inr (.inr (.inr (.inr (fun i => (prv σ o i).map (fun j => xo X + j))))))) := hat
    have hT := (C.kn.1.2 4 _ rfl).1
    exact W.aald (v := .ref (xo X + j)) C.1 C.2.1 hcell (hT _ (fun i => va_rf ((prv σ o i).map (fun j => xo X + j)))) rfl (fun q => by cases q) (by show ¬ (i < 0 ∨ (arrV _ _ _).slots.size ≤ _); rw [arrV_size]; exact vin_in hi) (by show (arrV _ _ _).slots[_]? = _; rw [arrV_read _ _ (vin_lt hi)]; show some (va_rf ((prv σ o i.toNatClampNeg).map (fun j => xo X + j))) = _; rw [hj]; rfl) rfl rfl hd (kk H locs cells slots ls hH hS hc hs hl)
  · rw [ent_a hp (by decide)] at hat
    have hcell : H[xo X + o]? = some (vp_cell (xA X 6) ((ply σ o).2, .inr (.inr (.inr (.inr (fun i => (prv σ o i).map (fun j => xo X + j))))))) := hat
    have hT := (C.kn.1.2 5 _ rfl).1
    exact W.aald (v := .ref (xo X + j)) C.1 C.2.1 hcell (hT _ (fun i => va_rf ((prv σ o i).map (fun j => xo X + j)))) rfl (fun q => by cases q) (by show ¬ (i < 0 ∨ (arrV _ _ _).slots.size ≤ _); rw [arrV_size]; exact vin_in hi) (by show (arrV _ _ _).slots[_]? = _; rw [arrV_read _ _ (vin_lt hi)]; show some (va_rf ((prv σ o i.toNatClampNeg).map (fun j => xo X + j))) = _; rw [hj]; rfl) rfl rfl hd (kk H locs cells slots ls hH hS hc hs hl)
theorem ws_rold {Λ : PRo} {X : Ctx} (C : CX Λ X) {pc : Nat} {L : PL} {o : Nat} {i : Int32} {r : List Value} {σ : PSt} (hd : decode (mB (xm X)) pc = .ok (.iaload, 1)) (ho : o < Λ.1) (hi : vin i (Λ.2.1 o))
    (kk : WS X (pc + 1) L (.int (Λ.2.2 o i.toNatClampNeg) :: r) σ) : WS X pc L (.int i :: .retAddr o :: r) σ := by
  intro H locs cells slots ls hH hS hc hs hl
  exact va_ti C.1 C.2.1 (C.kn.2.2.1 o ho) hS (vin_in hi) rfl hd (kk H locs cells slots ls hH hS hc hs hl)
theorem ws_rolen {Λ : PRo} {X : Ctx} (C : CX Λ X) {pc : Nat} {L : PL} {o : Nat} {r : List Value} {σ : PSt} (hd : decode (mB (xm X)) pc = .ok (.arraylength, 1)) (ho : o < Λ.1)
    (kk : WS X (pc + 1) L (.int (Int32.ofNat (Λ.2.1 o)) :: r) σ) : WS X pc L (.retAddr o :: r) σ := by
  intro H locs cells slots ls hH hS hc hs hl
  exact va_tlen C.1 C.2.1 (C.kn.2.2.1 o ho) hS rfl hd (kk H locs cells slots ls hH hS hc hs hl)
theorem ws_len {Λ : PRo} {X : Ctx} (C : CX Λ X) {pc : Nat} {L : PL} {o : Nat} {r : List Value} {σ : PSt} (hd : decode (mB (xm X)) pc = .ok (.arraylength, 1)) (ho : o < pnc σ) (h1 : 1 ≤ (ply σ o).1) (h6 : (ply σ o).1 ≤ 6)
    (kk : WS X (pc + 1) L (.int (Int32.ofNat (ply σ o).2) :: r) σ) : WS X pc L (.ref o :: r) σ := by
  intro H locs cells slots ls hH hS hc hs hl
  have hat := hH.2 o ho
  rw [ent_a rfl (by omega)] at hat
  have hT := (C.kn.1.2 ((ply σ o).1 - 1) _ (tysL_at h1 h6)).1
  have hcell : H[xo X + o]? = some (vp_cell (xA X (ply σ o).1) ((ply σ o).2, arc (xo X) σ (ply σ o).1 o)) := hat
  have e : ∃ f, vp_cell (xA X (ply σ o).1) ((ply σ o).2, arc (xo X) σ (ply σ o).1 o) = arrV (xA X (ply σ o).1) (ply σ o).2 f := by
    unfold arc vp_cell
    dsimp only
    split <;> exact ⟨_, rfl⟩
  obtain ⟨f, e⟩ := e
  rw [e] at hcell
  exact W.alen (n := Int32.ofNat (ply σ o).2) C.1 C.2.1 hcell (hT _ f) (by rw [arrV_size] <;> rfl) rfl rfl hd (kk H locs cells slots ls hH hS hc hs hl)
theorem ws_iast {Λ : PRo} {X : Ctx} (C : CX Λ X) {pc : Nat} {L : PL} {o : Nat} {i x : Int32} {r : List Value} {σ : PSt} (hd : decode (mB (xm X)) pc = .ok (.iastore, 1)) (ho : o < pnc σ) (hp : (ply σ o).1 = 1) (hi : vin i (ply σ o).2)
    (kk : WS X (pc + 1) L r (wiv σ o i.toNatClampNeg (x))) : WS X pc L (.int x :: .int i :: .ref o :: r) σ := by
  intro H locs cells slots ls hH hS hc hs hl
  have hat := hH.2 o ho
  rw [ent_a hp (by decide)] at hat
  have hcell : H[xo X + o]? = some (vp_cell (xA X 1) ((ply σ o).2, .inl (piv σ o))) := hat
  have hT := (C.kn.1.2 0 _ rfl).1
  refine W.iast C.1 C.2.1 hcell (hT _ (fun j => .int (piv σ o j))) (fun q => by cases q) (by show ¬ (i < 0 ∨ (arrV _ _ _).slots.size ≤ _); rw [arrV_size]; exact vin_in hi) rfl rfl hd fun H1 e z oq => ?_
  refine kk H1 _ cells slots ls (hH.upd (k := o) rfl z oq (fun j hj => ent_congr rfl rfl (up2_n hj) rfl) ?_) (hS.put z oq (show xo X ≤ xo X + o by omega)) hc hs hl
  rw [ent_a (show (ply (wiv σ o i.toNatClampNeg (x)) o).1 = 1 from hp) (by decide)]
  show H1[xo X + o]? = some (vp_cell (xA X 1) ((ply σ o).2, .inl (up2 (piv σ) o i.toNatClampNeg (x) o)))
  rw [e, vp_cell_i, vp_cell_i, arrV_store]
  congr 2
  funext q
  by_cases hq : q = i.toNatClampNeg
  · subst hq
    simp [updV, up2]
    try rfl
  · simp [updV, up2, hq]
theorem ws_bast {Λ : PRo} {X : Ctx} (C : CX Λ X) {pc : Nat} {L : PL} {o : Nat} {i x : Int32} {r : List Value} {σ : PSt} (hd : decode (mB (xm X)) pc = .ok (.bastore, 1)) (ho : o < pnc σ) (hp : (ply σ o).1 = 2) (hi : vin i (ply σ o).2)
    (kk : WS X (pc + 1) L r (wiv σ o i.toNatClampNeg (x.toInt8.toInt32))) : WS X pc L (.int x :: .int i :: .ref o :: r) σ := by
  intro H locs cells slots ls hH hS hc hs hl
  have hat := hH.2 o ho
  rw [ent_a hp (by decide)] at hat
  have hcell : H[xo X + o]? = some (vp_cell (xA X 2) ((ply σ o).2, .inl (piv σ o))) := hat
  have hT := (C.kn.1.2 1 _ rfl).1
  refine W.bast C.1 C.2.1 hcell (hT _ (fun j => .int (piv σ o j))) (fun q => by cases q) (by show ¬ (i < 0 ∨ (arrV _ _ _).slots.size ≤ _); rw [arrV_size]; exact vin_in hi) rfl rfl hd fun H1 e z oq => ?_
  refine kk H1 _ cells slots ls (hH.upd (k := o) rfl z oq (fun j hj => ent_congr rfl rfl (up2_n hj) rfl) ?_) (hS.put z oq (show xo X ≤ xo X + o by omega)) hc hs hl
  rw [ent_a (show (ply (wiv σ o i.toNatClampNeg (x.toInt8.toInt32)) o).1 = 2 from hp) (by decide)]
  show H1[xo X + o]? = some (vp_cell (xA X 2) ((ply σ o).2, .inl (up2 (piv σ) o i.toNatClampNeg (x.toInt8.toInt32) o)))
  rw [e, vp_cell_i, vp_cell_i, arrV_store]
  congr 2
  funext q
  by_cases hq : q = i.toNatClampNeg
  · subst hq
    simp [updV, up2]
    try rfl
  · simp [updV, up2, hq]
theorem ws_sast {Λ : PRo} {X : Ctx} (C : CX Λ X) {pc : Nat} {L : PL} {o : Nat} {i x : Int32} {r : List Value} {σ : PSt} (hd : decode (mB (xm X)) pc = .ok (.sastore, 1)) (ho : o < pnc σ) (hp : (ply σ o).1 = 3) (hi : vin i (ply σ o).2)
    (kk : WS X (pc + 1) L r (wiv σ o i.toNatClampNeg (x.toInt16.toInt32))) : WS X pc L (.int x :: .int i :: .ref o :: r) σ := by
  intro H locs cells slots ls hH hS hc hs hl
  have hat := hH.2 o ho
  rw [ent_a hp (by decide)] at hat
  have hcell : H[xo X + o]? = some (vp_cell (xA X 3) ((ply σ o).2, .inl (piv σ o))) := hat
  have hT := (C.kn.1.2 2 _ rfl).1
  refine W.sast C.1 C.2.1 hcell (hT _ (fun j => .int (piv σ o j))) (fun q => by cases q) (by show ¬ (i < 0 ∨ (arrV _ _ _).slots.size ≤ _); rw [arrV_size]; exact vin_in hi) rfl rfl hd fun H1 e z oq => ?_
  refine kk H1 _ cells slots ls (hH.upd (k := o) rfl z oq (fun j hj => ent_congr rfl rfl (up2_n hj) rfl) ?_) (hS.put z oq (show xo X ≤ xo X + o by omega)) hc hs hl
  rw [ent_a (show (ply (wiv σ o i.toNatClampNeg (x.toInt16.toInt32)) o).1 = 3 from hp) (by decide)]
  show H1[xo X + o]? = some (vp_cell (xA X 3) ((ply σ o).2, .inl (up2 (piv σ) o i.toNatClampNeg (x.toInt16.toInt32) o)))
  rw [e, vp_cell_i, vp_cell_i, arrV_store]
  congr 2
  funext q
  by_cases hq : q = i.toNatClampNeg
  · subst hq
    simp [updV, up2]
    try rfl
  · simp [updV, up2, hq]
theorem ws_last {Λ : PRo} {X : Ctx} (C : CX Λ X) {pc : Nat} {L : PL} {o : Nat} {i : Int32} {x : Int64} {r : List Value} {σ : PSt} (hd : decode (mB (xm X)) pc = .ok (.lastore, 1)) (ho : o < pnc σ) (hp : (ply σ o).1 = 4) (hi : vin i (ply σ o).2)
    (kk : WS X (pc + 1) L r (wlv σ o i.toNatClampNeg x)) : WS X pc L (.long x :: .int i :: .ref o :: r) σ := by
  intro H locs cells slots ls hH hS hc hs hl
  have hat := hH.2 o ho
  rw [ent_a hp (by decide)] at hat
  have hcell : H[xo X + o]? = some (vp_cell (xA X 4) ((ply σ o).2, .inr (.inl (plv σ o)))) := hat
  have hT := (C.kn.1.2 3 _ rfl).1
  refine W.last C.1 C.2.1 hcell (hT _ (fun j => .long (plv σ o j))) (fun q => by cases q) (by show ¬ (i < 0 ∨ (arrV _ _ _).slots.size ≤ _); rw [arrV_size]; exact vin_in hi) rfl rfl hd fun H1 e z oq => ?_
  refine kk H1 _ cells slots ls (hH.upd (k := o) rfl z oq (fun j hj => ent_congr rfl rfl rfl (up2_n hj)) ?_) (hS.put z oq (show xo X ≤ xo X + o by omega)) hc hs hl
  rw [ent_a (show (ply (wlv σ o i.toNatClampNeg x) o).1 = 4 from hp) (by decide)]
  show H1[xo X + o]? = some (vp_cell (xA X 4) ((ply σ o).2, .inr (.inl (up2 (plv σ) o i.toNatClampNeg x o))))
  rw [e, vp_cell_l, vp_cell_l, arrV_store]
  congr 2
  funext q
  by_cases hq : q = i.toNatClampNeg
  · subst hq
    simp [updV, up2]
  · simp [updV, up2, hq]
theorem ws_gets {Λ : PRo} {X : Ctx} (C : CX Λ X) {pc : Nat} {L : PL} {j k : Nat} {r : List Value} {σ : PSt} (hd : decode (mB (xm X)) pc = .ok (.getstatic k, 3)) (h : sk (mC (xm X)) k = some j) (kk : WS X (pc + 3) L (.retAddr j :: r) σ) : WS X pc L r σ := by
  intro H locs cells slots ls hH hS hc hs hl
  obtain ⟨h1, h4⟩ := sk_14 _ C.mc _ (lkp_in h)
  exact va_gets C.1 C.2.1 (C.kn.2.2.2.1 j h1 h4) hS C.2.2.2.2.1 (C.2.2.2.2.2.1 _ (w_sk C.mc h)) (fun _ h9 => h9) hd (kk H locs cells slots ls hH hS hc hs hl)
theorem mkc_old {σ : PSt} {t a n j : Nat} (hj : j ≠ pnc σ) : ply (mkc σ t a n) j = ply σ j ∧ prv (mkc σ t a n) j = prv σ j ∧ piv (mkc σ t a n) j = piv σ j ∧ plv (mkc σ t a n) j = plv σ j := ⟨up1_n hj, up1_n hj, up1_n hj, up1_n hj⟩
theorem mkc_new {σ : PSt} {t a n : Nat} : ply (mkc σ t a n) (pnc σ) = (t, a) ∧ prv (mkc σ t a n) (pnc σ) = (fun _ => none) ∧ piv (mkc σ t a n) (pnc σ) = (fun _ => 0) ∧ plv (mkc σ t a n) (pnc σ) = (fun _ => 0) := ⟨up1_s, up1_s, up1_s, up1_s⟩
theorem va_S.grow {b0 : Nat} {H0 H H1 : Heap} {locs : List Loc} (h : va_S (fun q => b0 ≤ q) H0 H locs) (z : H.size ≤ H1.size) (o : ∀ q : Nat, q < H.size → H1[q]? = H[q]?) : va_S (fun q => b0 ≤ q) H0 H1 locs := ⟨Nat.le_trans h.1 z, fun q h1 h2 => (o q (Nat.lt_of_lt_of_le h1 h.1)).trans (h.2.1 q h1 h2), h.2.2⟩
theorem ws_new {Λ : PRo} {X : Ctx} (C : CX Λ X) {pc : Nat} {L : PL} {k ci : Nat} {r : List Value} {σ : PSt} (hd : decode (mB (xm X)) pc = .ok (.new k, 3)) (h : nw (mC (xm X)) k = some ci) (hr1 : pnc σ + 1 ≤ xk X + (xR X).cells) (hr2 : pns σ + nF ci ≤ xn X + (xR X).slots)
    (kk : WS X (pc + 3) L (.ref (pnc σ) :: r) (mkc σ 0 ci (nF ci))) : WS X pc L r σ := by
  intro H locs cells slots ls hH hS hc hs hl
  have hci : ci < NX := nw_lt _ C.mc _ (lkp_in h)
  have hKn := C.kn.1.1 ci _ (vwCl_at hci)
  have hb : xo X + pnc σ = H.size := hH.1.symm
  refine W.newcK (n := nF ci) C.1 C.2.1 C.2.2.2.2.1 (C.2.2.2.2.2.1 _ (w_nw C.mc h)) (C.2.2.2.2.2.1 _ (w_is hci)) (C.2.2.2.2.2.1 _ (w_in (nx_cl hci))) rfl hd (by omega) (by omega) hKn.2.1 rfl fun H1 kC hkC e1 z1 o1 => ?_
  rw [← hb]
  refine kk H1 locs (cells + 1) (slots + nF ci) ls (hH.push (τ := mkc σ 0 ci (nF ci)) rfl z1 o1 (fun j hj => ?_) ?_) (hS.grow (by omega) o1) (by show pnc σ + 1 = _; omega) (by show pns σ + nF ci = _; omega) hl
  · obtain ⟨a1, a2, a3, a4⟩ := mkc_old (σ := σ) (t := 0) (a := ci) (n := nF ci) (show j ≠ pnc σ by omega)
    exact ent_congr a1 a2 a3 a4
  · obtain ⟨a1, a2, a3, a4⟩ := mkc_new (σ := σ) (t := 0) (a := ci) (n := nF ci)
    rw [ent_o a1]
    refine ⟨_, vwCl_at hci, ?_⟩
    have hB := u_born (cTy ci) C.2.2.2.2.2.1 (w_lay hci) hKn hkC e1 (cT_ty hci)
    rw [hb]
    refine hB.to fun j hj => ?_
    have hj2 : j < nF ci := hj
    have a5 : vp_V (fls (xo X) (xt X) (mkc σ 0 ci (nF ci)) ci (pnc σ)) j = cv (xo X) (xt X) (fval (mkc σ 0 ci (nF ci)) ci (pnc σ) j) := by simp [vp_V, fls_get hj2]
    rw [a5]
    obtain ⟨k1, k2, k3, k4, k5, -⟩ := fk_ok ci hci j hj2
    have hfk : fk ci j = 0 ∨ fk ci j = 1 ∨ fk ci j = 2 ∨ fk ci j = 3 := by omega
    unfold fval
    rcases hfk with e | e | e | e
    · rw [e, a2]
      have := k4 e
      generalize cTy ci j = t at this
      cases t <;> first | rfl | cases this
    · rw [e, a3, k1 e]; rfl
    · rw [e, a4, k2 e]; rfl
    · rw [e, a3, k3 e]; rfl
theorem ws_newa_int {Λ : PRo} {X : Ctx} (C : CX Λ X) {pc : Nat} {L : PL} {n : Int32} {r : List Value} {σ : PSt} (hd : decode (mB (xm X)) pc = .ok (.newarray .int, 2)) (hn : ¬ n < 0) (hn2 : n.toNatClampNeg ≤ 10000) (hr1 : pnc σ + 1 ≤ xk X + (xR X).cells) (hr2 : pns σ + n.toNatClampNeg ≤ xn X + (xR X).slots)
    (kk : WS X (pc + 2) L (.ref (pnc σ) :: r) (mkc σ 1 n.toNatClampNeg n.toNatClampNeg)) : WS X pc L (.int n :: r) σ := by
  intro H locs cells slots ls hH hS hc hs hl
  have hb : xo X + pnc σ = H.size := hH.1.symm
  refine va_newaK C.1 C.2.1 (atype := .int) (C.2.2.2.2.2.1 (.arrayClass .int) (w_ex (by decide +kernel) rfl)) rfl hd rfl hn rfl (Nat.le_trans (Nat.mul_le_mul hn2 (show componentBytes .int ≤ 8 by decide)) (Nat.le_of_ble_eq_true rfl)) (by omega) (by omega) rfl fun H1 cA e1 z1 o1 hAr hNm => ?_
  have hRA : (xs X).vm.findClass ("[" ++ (newarray.typeOf .int).toString) = some (xA X 1) := (C.kn.1.2 0 _ rfl).2
  obtain rfl : cA = xA X 1 := Option.some.inj (hNm.symm.trans hRA)
  rw [← hb]
  refine kk H1 locs (cells + 1) (slots + n.toNatClampNeg) ls (hH.push (τ := mkc σ 1 n.toNatClampNeg n.toNatClampNeg) rfl z1 o1 (fun j hj => ?_) ?_) (hS.grow (by omega) o1) (by show pnc σ + 1 = _; omega) (by show pns σ + n.toNatClampNeg = _; omega) hl
  · obtain ⟨a1, a2, a3, a4⟩ := mkc_old (σ := σ) (t := 1) (a := n.toNatClampNeg) (n := n.toNatClampNeg) (show j ≠ pnc σ by omega)
    exact ent_congr a1 a2 a3 a4
  · obtain ⟨a1, a2, a3, a4⟩ := mkc_new (σ := σ) (t := 1) (a := n.toNatClampNeg) (n := n.toNatClampNeg)
    rw [ent_a (t := 1) (by rw [a1]) (by decide), a1]
    show H1[xo X + pnc σ]? = some (vp_cell (xA X 1) (n.toNatClampNeg, .inl (piv (mkc σ 1 n.toNatClampNeg n.toNatClampNeg) (pnc σ))))
    rw [a3, hb, e1]
    rfl
theorem ws_newa_byte {Λ : PRo} {X : Ctx} (C : CX Λ X) {pc : Nat} {L : PL} {n : Int32} {r : List Value} {σ : PSt} (hd : decode (mB (xm X)) pc = .ok (.newarray .byte, 2)) (hn : ¬ n < 0) (hn2 : n.toNatClampNeg ≤ 10000) (hr1 : pnc σ + 1 ≤ xk X + (xR X).cells) (hr2 : pns σ + n.toNatClampNeg ≤ xn X + (xR X).slots)
    (kk : WS X (pc + 2) L (.ref (pnc σ) :: r) (mkc σ 2 n.toNatClampNeg n.toNatClampNeg)) : WS X pc L (.int n :: r) σ := by
  intro H locs cells slots ls hH hS hc hs hl
  have hb : xo X + pnc σ = H.size := hH.1.symm
  refine va_newaK C.1 C.2.1 (atype := .byte) (C.2.2.2.2.2.1 (.arrayClass .byte) (w_ex (by decide +kernel) rfl)) rfl hd rfl hn rfl (Nat.le_trans (Nat.mul_le_mul hn2 (show componentBytes .byte ≤ 8 by decide)) (Nat.le_of_ble_eq_true rfl)) (by omega) (by omega) rfl fun H1 cA e1 z1 o1 hAr hNm => ?_
  have hRA : (xs X).vm.findClass ("[" ++ (newarray.typeOf .byte).toString) = some (xA X 2) := (C.kn.1.2 1 _ rfl).2
  obtain rfl : cA = xA X 2 := Option.some.inj (hNm.symm.trans hRA)
  rw [← hb]
  refine kk H1 locs (cells + 1) (slots + n.toNatClampNeg) ls (hH.push (τ := mkc σ 2 n.toNatClampNeg n.toNatClampNeg) rfl z1 o1 (fun j hj => ?_) ?_) (hS.grow (by omega) o1) (by show pnc σ + 1 = _; omega) (by show pns σ + n.toNatClampNeg = _; omega) hl
  · obtain ⟨a1, a2, a3, a4⟩ := mkc_old (σ := σ) (t := 2) (a := n.toNatClampNeg) (n := n.toNatClampNeg) (show j ≠ pnc σ by omega)
    exact ent_congr a1 a2 a3 a4
  · obtain ⟨a1, a2, a3, a4⟩ := mkc_new (σ := σ) (t := 2) (a := n.toNatClampNeg) (n := n.toNatClampNeg)
    rw [ent_a (t := 2) (by rw [a1]) (by decide), a1]
    show H1[xo X + pnc σ]? = some (vp_cell (xA X 2) (n.toNatClampNeg, .inl (piv (mkc σ 2 n.toNatClampNeg n.toNatClampNeg) (pnc σ))))
    rw [a3, hb, e1]
    rfl
theorem ws_newa_short {Λ : PRo} {X : Ctx} (C : CX Λ X) {pc : Nat} {L : PL} {n : Int32} {r : List Value} {σ : PSt} (hd : decode (mB (xm X)) pc = .ok (.newarray .short, 2)) (hn : ¬ n < 0) (hn2 : n.toNatClampNeg ≤ 10000) (hr1 : pnc σ + 1 ≤ xk X + (xR X).cells) (hr2 : pns σ + n.toNatClampNeg ≤ xn X + (xR X).slots)
    (kk : WS X (pc + 2) L (.ref (pnc σ) :: r) (mkc σ 3 n.toNatClampNeg n.toNatClampNeg)) : WS X pc L (.int n :: r) σ := by
  intro H locs cells slots ls hH hS hc hs hl
  have hb : xo X + pnc σ = H.size := hH.1.symm
  refine va_newaK C.1 C.2.1 (atype := .short) (C.2.2.2.2.2.1 (.arrayClass .short) (w_ex (by decide +kernel) rfl)) rfl hd rfl hn rfl (Nat.le_trans (Nat.mul_le_mul hn2 (show componentBytes .short ≤ 8 by decide)) (Nat.le_of_ble_eq_true rfl)) (by omega) (by omega) rfl fun H1 cA e1 z1 o1 hAr hNm => ?_
  have hRA : (xs X).vm.findClass ("[" ++ (newarray.typeOf .short).toString) = some (xA X 3) := (C.kn.1.2 2 _ rfl).2
  obtain rfl : cA = xA X 3 := Option.some.inj (hNm.symm.trans hRA)
  rw [← hb]
  refine kk H1 locs (cells + 1) (slots + n.toNatClampNeg) ls (hH.push (τ := mkc σ 3 n.toNatClampNeg n.toNatClampNeg) rfl z1 o1 (fun j hj => ?_) ?_) (hS.grow (by omega) o1) (by show pnc σ + 1 = _; omega) (by show pns σ + n.toNatClampNeg = _; omega) hl
  · obtain ⟨a1, a2, a3, a4⟩ := mkc_old (σ := σ) (t := 3) (a := n.toNatClampNeg) (n := n.toNatClampNeg) (show j ≠ pnc σ by omega)
    exact ent_congr a1 a2 a3 a4
  · obtain ⟨a1, a2, a3, a4⟩ := mkc_new (σ := σ) (t := 3) (a := n.toNatClampNeg) (n := n.toNatClampNeg)
    rw [ent_a (t := 3) (by rw [a1]) (by decide), a1]
    show H1[xo X + pnc σ]? = some (vp_cell (xA X 3) (n.toNatClampNeg, .inl (piv (mkc σ 3 n.toNatClampNeg n.toNatClampNeg) (pnc σ))))
    rw [a3, hb, e1]
    rfl
theorem ws_newa_long {Λ : PRo} {X : Ctx} (C : CX Λ X) {pc : Nat} {L : PL} {n : Int32} {r : List Value} {σ : PSt} (hd : decode (mB (xm X)) pc = .ok (.newarray .long, 2)) (hn : ¬ n < 0) (hn2 : n.toNatClampNeg ≤ 10000) (hr1 : pnc σ + 1 ≤ xk X + (xR X).cells) (hr2 : pns σ + n.toNatClampNeg ≤ xn X + (xR X).slots)
    (kk : WS X (pc + 2) L (.ref (pnc σ) :: r) (mkc σ 4 n.toNatClampNeg n.toNatClampNeg)) : WS X pc L (.int n :: r) σ := by
  intro H locs cells slots ls hH hS hc hs hl
  have hb : xo X + pnc σ = H.size := hH.1.symm
  refine va_newaK C.1 C.2.1 (atype := .long) (C.2.2.2.2.2.1 (.arrayClass .long) (w_ex (by decide +kernel) rfl)) rfl hd rfl hn rfl (Nat.le_trans (Nat.mul_le_mul hn2 (show componentBytes .long ≤ 8 by decide)) (Nat.le_of_ble_eq_true rfl)) (by omega) (by omega) rfl fun H1 cA e1 z1 o1 hAr hNm => ?_
  have hRA : (xs X).vm.findClass ("[" ++ (newarray.typeOf .long).toString) = some (xA X 4) := (C.kn.1.2 3 _ rfl).2
  obtain rfl : cA = xA X 4 := Option.some.inj (hNm.symm.trans hRA)
  rw [← hb]
  refine kk H1 locs (cells + 1) (slots + n.toNatClampNeg) ls (hH.push (τ := mkc σ 4 n.toNatClampNeg n.toNatClampNeg) rfl z1 o1 (fun j hj => ?_) ?_) (hS.grow (by omega) o1) (by show pnc σ + 1 = _; omega) (by show pns σ + n.toNatClampNeg = _; omega) hl
  · obtain ⟨a1, a2, a3, a4⟩ := mkc_old (σ := σ) (t := 4) (a := n.toNatClampNeg) (n := n.toNatClampNeg) (show j ≠ pnc σ by omega)
    exact ent_congr a1 a2 a3 a4
  · obtain ⟨a1, a2, a3, a4⟩ := mkc_new (σ := σ) (t := 4) (a := n.toNatClampNeg) (n := n.toNatClampNeg)
    rw [ent_a (t := 4) (by rw [a1]) (by decide), a1]
    show H1[xo X + pnc σ]? = some (vp_cell (xA X 4) (n.toNatClampNeg, .inr (.inl (plv (mkc σ 4 n.toNatClampNeg n.toNatClampNeg) (pnc σ)))))
    rw [a4, hb, e1]
    rfl
/-! ===== new int[n][k], new long[n][k]; then any instruction that calls nothing ===== -/
theorem mkrows_spec (t n : Nat) : ∀ (j : Nat) (σ : PSt), pnc (mkrows t n j σ) = pnc σ + j ∧ pns (mkrows t n j σ) = pns σ + j * n ∧
    (∀ q, q < pnc σ → ply (mkrows t n j σ) q = ply σ q ∧ prv (mkrows t n j σ) q = prv σ q ∧ piv (mkrows t n j σ) q = piv σ q ∧ plv (mkrows t n j σ) q = plv σ q) ∧
    ∀ q, pnc σ ≤ q → q < pnc σ + j → ply (mkrows t n j σ) q = (t, n) ∧ prv (mkrows t n j σ) q = (fun _ => none) ∧ piv (mkrows t n j σ) q = (fun _ => 0) ∧ plv (mkrows t n j σ) q = (fun _ => 0)
  | 0, σ => ⟨rfl, by show pns σ = pns σ + 0 * n; omega, fun _ _ => ⟨rfl, rfl, rfl, rfl⟩, fun q h1 h2 => by omega⟩
  | j + 1, σ => by
    obtain ⟨h1, h2, h3, h4⟩ := mkrows_spec t n j (mkc σ t n n)
    have e1 : pnc (mkc σ t n n) = pnc σ + 1 := rfl
    have e2 : pns (mkc σ t n n) = pns σ + n := rfl
    refine ⟨by show pnc (mkrows t n j (mkc σ t n n)) = _; rw [h1, e1]; omega, by show pns (mkrows t n j (mkc σ t n n)) = _; rw [h2, e2, Nat.succ_mul]; omega, fun q hq => ?_, fun q hq1 hq2 => ?_⟩
    · obtain ⟨a1, a2, a3, a4⟩ := h3 q (by rw [e1]; omega)
      obtain ⟨b1, b2, b3, b4⟩ := mkc_old (σ := σ) (t := t) (a := n) (n := n) (show q ≠ pnc σ by omega)
      exact ⟨a1.trans b1, a2.trans b2, a3.trans b3, a4.trans b4⟩
    · by_cases hq : q = pnc σ
      · subst hq
        obtain ⟨a1, a2, a3, a4⟩ := h3 (pnc σ) (by rw [e1]; omega)
        obtain ⟨b1, b2, b3, b4⟩ := mkc_new (σ := σ) (t := t) (a := n) (n := n)
        exact ⟨a1.trans b1, a2.trans b2, a3.trans b3, a4.trans b4⟩
      · exact h4 q (by rw [e1]; omega) (by rw [e1]; omega)
theorem mna_outer (c : ClassId) (N h0 : Nat) : ∀ i : Nat, Jvm.Free.Multi.outerC c N h0 i = arrV c N (fun j => va_rf (if j < i then some (h0 + 1 + j) else none))
  | 0 => by
    show ({ cls := c, slots := Array.replicate N .null, vm := .none } : Cell) = _
    rw [arrV_new]
    refine congrArg (arrV c N) (funext fun j => ?_)
    simp [va_rf]
  | i + 1 => by
    show (Jvm.Free.Multi.outerC c N h0 i).setSlot i (.ref (h0 + 1 + i)) = _
    rw [mna_outer c N h0 i, arrV_store]
    refine congrArg (arrV c N) (funext fun j => ?_)
    by_cases e : j = i
    · subst e
      simp [updV, va_rf]
    · by_cases h : j < i
      · simp [updV, e, h, Nat.lt_succ_of_lt h]
      · simp [updV, e, h, show ¬ j < i + 1 by omega]
theorem ws_mna {Λ : PRo} {X : Ctx} (C : CX Λ X) {pc : Nat} {L : PL} {n k : Int32} {idx t t1 : Nat} {ty : FieldType} {r : List Value} {σ : PSt} (hd : decode (mB (xm X)) pc = .ok (.multianewarray idx 2, 4)) (hm : mn (mC (xm X)) idx = some t) (hty : aty t = .array ty) (h56 : t = 5 ∧ t1 = 1 ∧ ty = .int ∨ t = 6 ∧ t1 = 4 ∧ ty = .long)
    (hn : ¬ n < 0) (hk : ¬ k < 0) (hn2 : n.toNatClampNeg ≤ 100) (hk2 : k.toNatClampNeg ≤ 100)
    (hr1 : pnc σ + 1 + n.toNatClampNeg ≤ xk X + (xR X).cells) (hr2 : pns σ + n.toNatClampNeg + n.toNatClampNeg * k.toNatClampNeg ≤ xn X + (xR X).slots)
    (kk : WS X (pc + 4) L (.ref (pnc σ) :: r) (mkrows t1 k.toNatClampNeg n.toNatClampNeg (wrr (mkc σ t n.toNatClampNeg n.toNatClampNeg) (pnc σ) (fun i => if i < n.toNatClampNeg then some (pnc σ + 1 + i) else none)))) : WS X pc L (.int k :: .int n :: r) σ := by
  intro H locs cells slots ls hH hS hc hs hl
  have hb : xo X + pnc σ = H.size := hH.1.symm
  have hcl : (Cond.classLink (cnm (mC (xm X))) idx ("[" ++ (FieldType.array ty).toString)).before (xa X) (xs X) = true := by
    have := C.2.2.2.2.2.1 _ (w_mn C.mc hm)
    unfold wMn at this
    rw [hty] at this
    exact this
  have hov : (Cond.arrayOver (.array ty)).before (xa X) (xs X) = true := by
    rcases h56 with ⟨-, -, rfl⟩ | ⟨-, -, rfl⟩
    · exact C.kn.2.2.2.2.1
    · exact C.kn.2.2.2.2.2
  have har : (Cond.arrayClass ty).before (xa X) (xs X) = true := by
    rcases h56 with ⟨-, -, rfl⟩ | ⟨-, -, rfl⟩
    · exact C.2.2.2.2.2.1 _ (w_ex (by decide +kernel) rfl)
    · exact C.2.2.2.2.2.1 _ (w_ex (by decide +kernel) rfl)
  have hcb : componentBytes ty ≤ 8 ∧ fits ty (defaultValue ty) = true ∧ (defaultValue ty).isDefault = true := by
    rcases h56 with ⟨-, -, rfl⟩ | ⟨-, -, rfl⟩ <;> decide
  have hmul : n.toNatClampNeg * 4 ≤ 400 := by omega
  have hmul2 : k.toNatClampNeg * componentBytes ty ≤ 100 * 8 := Nat.mul_le_mul hk2 hcb.1
  intro T hT Xs
  obtain ⟨vm₁, cA, comp, -, fA, fC, hO, hI, X', step⟩ := Xs.multianewarray2F C.1 C.2.2.2.2.1 hcl hov har (g := F0 (xi X) pc ls (.int k :: .int n :: r.map (cv (xo X) (xt X)))) rfl (by rw [C.2.1]; exact hd) rfl hn hk (by omega) (by omega) (by omega) hcb.2.1 hcb.2.2 (by omega) (by omega)
  have hRt : (xs X).vm.findClass ("[" ++ (FieldType.array ty).toString) = some (xA X t) := by
    rcases h56 with ⟨rfl, -, rfl⟩ | ⟨rfl, -, rfl⟩
    · exact (C.kn.1.2 4 _ rfl).2
    · exact (C.kn.1.2 5 _ rfl).2
  have hR1 : (xs X).vm.findClass (FieldType.array ty).toString = some (xA X t1) := by
    rcases h56 with ⟨-, rfl, rfl⟩ | ⟨-, rfl, rfl⟩
    · exact (C.kn.1.2 0 _ rfl).2
    · exact (C.kn.1.2 3 _ rfl).2
  obtain rfl : cA = xA X t := Option.some.inj (fA.symm.trans hRt)
  obtain rfl : comp = xA X t1 := Option.some.inj (fC.symm.trans hR1)
  generalize hF : Jvm.Free.Multi.fill (T.setVm vm₁) (xA X t) (xA X t1) n.toNatClampNeg k.toNatClampNeg (defaultValue ty) n.toNatClampNeg = F at X' step
  have hTh : (T.setVm vm₁).heap = H := hT
  obtain ⟨f1, f2, -, -⟩ := Jvm.Free.Multi.fill_facts (T.setVm vm₁) (xA X t) (xA X t1) n.toNatClampNeg k.toNatClampNeg (defaultValue ty) n.toNatClampNeg
  rw [hF, hTh] at f1 f2
  have hold : ∀ x : Nat, x < H.size → F.heap[x]? = H[x]? := fun x hx => by
    have := Jvm.Free.Multi.fill_old (T.setVm vm₁) (xA X t) (xA X t1) n.toNatClampNeg k.toNatClampNeg (defaultValue ty) (a := x) (by rw [hTh]; exact hx) n.toNatClampNeg
    rw [hF, hTh] at this
    exact this
  have hrow : ∀ j : Nat, j < n.toNatClampNeg → F.heap[H.size + 1 + j]? = some (Jvm.Free.Multi.innerC (xA X t1) k.toNatClampNeg (defaultValue ty)) := fun j hj => by
    have := Jvm.Free.Multi.fill_inner (T.setVm vm₁) (xA X t) (xA X t1) n.toNatClampNeg k.toNatClampNeg (defaultValue ty) n.toNatClampNeg j hj
    rw [hF, hTh] at this
    exact this
  rw [mna_outer] at f2
  generalize hσ0 : wrr (mkc σ t n.toNatClampNeg n.toNatClampNeg) (pnc σ) (fun i => if i < n.toNatClampNeg then some (pnc σ + 1 + i) else none) = σ0 at kk
  have z1 : pnc σ0 = pnc σ + 1 := by rw [← hσ0]; rfl
  have z2 : pns σ0 = pns σ + n.toNatClampNeg := by rw [← hσ0]; rfl
  have z3 : ∀ j, j ≠ pnc σ → ply σ0 j = ply σ j ∧ prv σ0 j = prv σ j ∧ piv σ0 j = piv σ j ∧ plv σ0 j = plv σ j := by
    intro j hj
    rw [← hσ0]
    obtain ⟨a1, a2, a3, a4⟩ := mkc_old (σ := σ) (t := t) (a := n.toNatClampNeg) (n := n.toNatClampNeg) hj
    refine ⟨a1, ?_, a3, a4⟩
    show up1 (prv (mkc σ t n.toNatClampNeg n.toNatClampNeg)) (pnc σ) _ j = _
    rw [up1_n hj]
    exact a2
  have z4 : ply σ0 (pnc σ) = (t, n.toNatClampNeg) ∧ prv σ0 (pnc σ) = (fun i => if i < n.toNatClampNeg then some (pnc σ + 1 + i) else none) := by
    rw [← hσ0]
    refine ⟨(mkc_new (σ := σ) (t := t) (a := n.toNatClampNeg) (n := n.toNatClampNeg)).1, ?_⟩
    show up1 (prv (mkc σ t n.toNatClampNeg n.toNatClampNeg)) (pnc σ) _ (pnc σ) = _
    exact up1_s
  obtain ⟨m1, m2, m3, m4⟩ := mkrows_spec t1 k.toNatClampNeg n.toNatClampNeg σ0
  generalize hτ : mkrows t1 k.toNatClampNeg n.toNatClampNeg σ0 = τ at kk m1 m2 m3 m4
  have ht0 : t ≠ 0 ∧ t1 ≠ 0 := by omega
  have hHd : Hd (xD X) (xA X) (xo X) (xt X) τ F.heap := by
    refine ⟨by rw [f1, m1, z1]; omega, fun j hj => ?_⟩
    by_cases hj1 : j < pnc σ
    · obtain ⟨a1, a2, a3, a4⟩ := m3 j (by omega)
      obtain ⟨b1, b2, b3, b4⟩ := z3 j (by omega)
      rw [ent_congr (a1.trans b1) (a2.trans b2) (a3.trans b3) (a4.trans b4)]
      exact (hH.2 j hj1).kept (hold _ (by show xo X + j < H.size; omega))
    · by_cases hj2 : j = pnc σ
      · subst hj2
        obtain ⟨a1, a2, a3, a4⟩ := m3 (pnc σ) (by omega)
        rw [ent_a (t := t) (by rw [a1, z4.1]) ht0.1, a1, z4.1]
        show F.heap[xo X + pnc σ]? = some (vp_cell (xA X t) (n.toNatClampNeg, arc (xo X) τ t (pnc σ)))
        rw [hb, f2]
        have ea : arc (xo X) τ t (pnc σ) = .inr (.inr (.inr (.inr (fun i => (prv τ (pnc σ) i).map (fun j => xo X + j))))) := by
          unfold arc
          rw [if_neg (by omega), if_pos (by omega)]
        rw [ea, vp_cell_q, a2, z4.2]
        refine congrArg some (congrArg (arrV (xA X t) n.toNatClampNeg) (funext fun q => congrArg va_rf ?_))
        by_cases hq : q < n.toNatClampNeg
        · simp only [hq, if_true, Option.map_some]
          congr 1
          omega
        · simp only [hq, if_false, Option.map_none]
      · obtain ⟨a1, a2, a3, a4⟩ := m4 j (by omega) (by omega)
        rw [ent_a (t := t1) (by rw [a1]) ht0.2, a1]
        show F.heap[xo X + j]? = some (vp_cell (xA X t1) (k.toNatClampNeg, arc (xo X) τ t1 j))
        have hr := hrow (j - (pnc σ + 1)) (by omega)
        rw [show H.size + 1 + (j - (pnc σ + 1)) = xo X + j by omega] at hr
        rw [hr]
        have e9 : Jvm.Free.Multi.innerC (xA X t1) k.toNatClampNeg (defaultValue ty) = arrV (xA X t1) k.toNatClampNeg (fun _ => defaultValue ty) := arrV_new _ _ _
        rw [e9]
        rcases h56 with ⟨-, rfl, rfl⟩ | ⟨-, rfl, rfl⟩
        · show some (arrV _ _ _) = some (arrV (xA X 1) k.toNatClampNeg (fun q => .int (piv τ j q)))
          rw [a3]; rfl
        · show some (arrV _ _ _) = some (arrV (xA X 4) k.toNatClampNeg (fun q => .long (plv τ j q)))
          rw [a4]; rfl
  obtain ⟨t9, a1, b1⟩ := kk F.heap locs (cells + 1 + n.toNatClampNeg) (slots + n.toNatClampNeg + n.toNatClampNeg * k.toNatClampNeg) ls hHd (hS.grow (by rw [f1]; omega) hold) (by rw [m1, z1]; omega) (by rw [m2, z2]; omega) hl F rfl X'
  refine ⟨t9, step t9 ?_, b1⟩
  have e : T.heap.size = xo X + pnc σ := by rw [hT, hb]
  rw [e]
  exact a1
theorem oLdI_i {Λ : PRo} {t : Nat} {st : List Value} {pc : Nat} {σ : PSt} {q : Nat × List Value × PSt} (h : oLdI Λ t st pc σ = some q) : (∃ i o r, st = .int i :: .ref o :: r ∧ (o < pnc σ ∧ (ply σ o).1 = t ∧ vin i (ply σ o).2) ∧ q = (pc, .int (piv σ o i.toNatClampNeg) :: r, σ)) ∨ ∃ i o r, st = .int i :: .retAddr o :: r ∧ (t = 1 ∧ o < Λ.1 ∧ vin i (Λ.2.1 o)) ∧ q = (pc, .int (Λ.2.2 o i.toNatClampNeg) :: r, σ) := by
  unfold oLdI at h
  split at h
  · split at h
    next hh => cases h; exact Or.inl ⟨_, _, _, rfl, hh, rfl⟩
    next => cases h
  · split at h
    next hh => cases h; exact Or.inr ⟨_, _, _, rfl, hh, rfl⟩
    next => cases h
  · cases h
theorem oLdL_i {st : List Value} {pc : Nat} {σ : PSt} {q : Nat × List Value × PSt} (h : oLdL st pc σ = some q) : ∃ i o r, st = .int i :: .ref o :: r ∧ (o < pnc σ ∧ (ply σ o).1 = 4 ∧ vin i (ply σ o).2) ∧ q = (pc, .long (plv σ o i.toNatClampNeg) :: r, σ) := by
  unfold oLdL at h
  split at h
  · split at h
    next hh => cases h; exact ⟨_, _, _, rfl, hh, rfl⟩
    next => cases h
  · cases h
theorem oLdA_i {st : List Value} {pc : Nat} {σ : PSt} {q : Nat × List Value × PSt} (h : oLdA st pc σ = some q) : ∃ i o r j, st = .int i :: .ref o :: r ∧ (o < pnc σ ∧ ((ply σ o).1 = 5 ∨ (ply σ o).1 = 6) ∧ vin i (ply σ o).2) ∧ prv σ o i.toNatClampNeg = some j ∧ q = (pc, .ref j :: r, σ) := by
  unfold oLdA at h
  split at h
  · split at h
    next hh =>
      rw [Option.map_eq_some_iff] at h
      obtain ⟨j, h1, rfl⟩ := h
      exact ⟨_, _, _, j, rfl, hh, h1, rfl⟩
    next => cases h
  · cases h
theorem oStI_i {t : Nat} {g : Int32 → Int32} {st : List Value} {pc : Nat} {σ : PSt} {q : Nat × List Value × PSt} (h : oStI t g st pc σ = some q) : ∃ x i o r, st = .int x :: .int i :: .ref o :: r ∧ (o < pnc σ ∧ (ply σ o).1 = t ∧ vin i (ply σ o).2) ∧ q = (pc, r, wiv σ o i.toNatClampNeg (g x)) := by
  unfold oStI at h
  split at h
  · split at h
    next hh => cases h; exact ⟨_, _, _, _, rfl, hh, rfl⟩
    next => cases h
  · cases h
theorem oStL_i {st : List Value} {pc : Nat} {σ : PSt} {q : Nat × List Value × PSt} (h : oStL st pc σ = some q) : ∃ x i o r, st = .long x :: .int i :: .ref o :: r ∧ (o < pnc σ ∧ (ply σ o).1 = 4 ∧ vin i (ply σ o).2) ∧ q = (pc, r, wlv σ o i.toNatClampNeg x) := by
  unfold oStL at h
  split at h
  · split at h
    next hh => cases h; exact ⟨_, _, _, _, rfl, hh, rfl⟩
    next => cases h
  · cases h
theorem oLen_i {Λ : PRo} {st : List Value} {pc : Nat} {σ : PSt} {q : Nat × List Value × PSt} (h : oLen Λ st pc σ = some q) : (∃ o r, st = .ref o :: r ∧ (o < pnc σ ∧ 1 ≤ (ply σ o).1 ∧ (ply σ o).1 ≤ 6) ∧ q = (pc, .int (Int32.ofNat (ply σ o).2) :: r, σ)) ∨ ∃ o r, st = .retAddr o :: r ∧ o < Λ.1 ∧ q = (pc, .int (Int32.ofNat (Λ.2.1 o)) :: r, σ) := by
  unfold oLen at h
  split at h
  · split at h
    next hh => cases h; exact Or.inl ⟨_, _, rfl, hh, rfl⟩
    next => cases h
  · split at h
    next hh => cases h; exact Or.inr ⟨_, _, rfl, hh, rfl⟩
    next => cases h
  · cases h
theorem oNewA_i {t : Nat} {st : List Value} {pc : Nat} {σ : PSt} {q : Nat × List Value × PSt} (h : oNewA t st pc σ = some q) : ∃ n r, st = .int n :: r ∧ (¬ n < 0 ∧ n.toNatClampNeg ≤ 10000 ∧ 1 ≤ t) ∧ q = (pc, .ref (pnc σ) :: r, mkc σ t n.toNatClampNeg n.toNatClampNeg) := by
  unfold oNewA at h
  split at h
  · split at h
    next hh => cases h; exact ⟨_, _, rfl, hh, rfl⟩
    next => cases h
  · cases h
theorem oMna_i {t : Nat} {st : List Value} {pc : Nat} {σ : PSt} {q : Nat × List Value × PSt} (h : oMna t st pc σ = some q) : ∃ k n r, st = .int k :: .int n :: r ∧ (¬ n < 0 ∧ ¬ k < 0 ∧ n.toNatClampNeg ≤ 100 ∧ k.toNatClampNeg ≤ 100 ∧ (t = 5 ∨ t = 6)) ∧ q = (pc, .ref (pnc σ) :: r, mkrows (if t = 5 then 1 else 4) k.toNatClampNeg n.toNatClampNeg (wrr (mkc σ t n.toNatClampNeg n.toNatClampNeg) (pnc σ) (fun i => if i < n.toNatClampNeg then some (pnc σ + 1 + i) else none))) := by
  unfold oMna at h
  split at h
  · split at h
    next hh => cases h; exact ⟨_, _, _, rfl, hh, rfl⟩
    next => cases h
  · cases h
set_option maxHeartbeats 4000000 in
theorem ws_pS {Λ : PRo} {X : Ctx} (C : CX Λ X) {i : Instr} {len pc : Nat} {L : PL} {st : List Value} {σ : PSt} {pc2 : Nat} {st2 : List Value} {σ2 : PSt} (hd : decode (mB (xm X)) pc = .ok (i, len)) (hlen : lenOk i len = true) (h : pS Λ (isIni (xm X)) (mC (xm X)) pc (pc + len) σ i st = some (pc2, st2, σ2))
    (hr1 : pnc σ2 ≤ xk X + (xR X).cells) (hr2 : pns σ2 ≤ xn X + (xR X).slots) (kk : WS X pc2 L st2 σ2) : WS X pc L st σ := by
  cases i
  case iconst n =>
    obtain rfl : len = 1 := Nat.eq_of_beq_eq_true hlen
    cases h
    exact fun H locs c1 s1 ls a b c d e => lv_iconst C.1 C.2.1  hd rfl (kk H locs c1 s1 ls a b c d e)
  case bipush n =>
    obtain rfl : len = 2 := Nat.eq_of_beq_eq_true hlen
    cases h
    exact fun H locs c1 s1 ls a b c d e => lv_bipush C.1 C.2.1  hd rfl (kk H locs c1 s1 ls a b c d e)
  case sipush n =>
    obtain rfl : len = 3 := Nat.eq_of_beq_eq_true hlen
    cases h
    exact fun H locs c1 s1 ls a b c d e => lv_sipush C.1 C.2.1  hd rfl (kk H locs c1 s1 ls a b c d e)
  case lconst n =>
    obtain rfl : len = 1 := Nat.eq_of_beq_eq_true hlen
    cases h
    exact fun H locs c1 s1 ls a b c d e => lv_lconst C.1 C.2.1  hd rfl (kk H locs c1 s1 ls a b c d e)
  case ldc_w k =>
    obtain rfl : len = 3 := Nat.eq_of_beq_eq_true hlen
    obtain ⟨v, hv, e⟩ := Option.map_eq_some_iff.mp h
    cases e
    exact fun H locs c1 s1 ls a b c d e => lv_ldcw C.1 C.2.1 C.2.2.2.2.1 (C.2.2.2.2.2.1 _ (w_ki C.mc hv)) hd  (kk H locs c1 s1 ls a b c d e)
  case ldc2_w k =>
    obtain rfl : len = 3 := Nat.eq_of_beq_eq_true hlen
    obtain ⟨v, hv, e⟩ := Option.map_eq_some_iff.mp h
    cases e
    exact fun H locs c1 s1 ls a b c d e => lv_ldc2 C.1 C.2.1 C.2.2.2.2.1 (C.2.2.2.2.2.1 _ (w_kl C.mc hv)) hd  (kk H locs c1 s1 ls a b c d e)
  case iadd =>
    obtain rfl : len = 1 := Nat.eq_of_beq_eq_true hlen
    obtain ⟨x, y, r, rfl, e⟩ := oI2_i h
    cases e
    exact fun H locs c1 s1 ls a b c d e => lv_iadd C.1 C.2.1  hd  (kk H locs c1 s1 ls a b c d e)
  case isub =>
    obtain rfl : len = 1 := Nat.eq_of_beq_eq_true hlen
    obtain ⟨x, y, r, rfl, e⟩ := oI2_i h
    cases e
    exact fun H locs c1 s1 ls a b c d e => lv_isub C.1 C.2.1  hd  (kk H locs c1 s1 ls a b c d e)
  case imul =>
    obtain rfl : len = 1 := Nat.eq_of_beq_eq_true hlen
    obtain ⟨x, y, r, rfl, e⟩ := oI2_i h
    cases e
    exact fun H locs c1 s1 ls a b c d e => lv_imul C.1 C.2.1  hd  (kk H locs c1 s1 ls a b c d e)
  case iand =>
    obtain rfl : len = 1 := Nat.eq_of_beq_eq_true hlen
    obtain ⟨x, y, r, rfl, e⟩ := oI2_i h
    cases e
    exact fun H locs c1 s1 ls a b c d e => lv_iand C.1 C.2.1  hd  (kk H locs c1 s1 ls a b c d e)
  case ior =>
    obtain rfl : len = 1 := Nat.eq_of_beq_eq_true hlen
    obtain ⟨x, y, r, rfl, e⟩ := oI2_i h
    cases e
    exact fun H locs c1 s1 ls a b c d e => lv_ior C.1 C.2.1  hd  (kk H locs c1 s1 ls a b c d e)
  case ixor =>
    obtain rfl : len = 1 := Nat.eq_of_beq_eq_true hlen
    obtain ⟨x, y, r, rfl, e⟩ := oI2_i h
    cases e
    exact fun H locs c1 s1 ls a b c d e => lv_ixor C.1 C.2.1  hd  (kk H locs c1 s1 ls a b c d e)
  case ishl =>
    obtain rfl : len = 1 := Nat.eq_of_beq_eq_true hlen
    obtain ⟨x, y, r, rfl, e⟩ := oI2_i h
    cases e
    exact fun H locs c1 s1 ls a b c d e => lv_ishl C.1 C.2.1  hd  (kk H locs c1 s1 ls a b c d e)
  case ishr =>
    obtain rfl : len = 1 := Nat.eq_of_beq_eq_true hlen
    obtain ⟨x, y, r, rfl, e⟩ := oI2_i h
    cases e
    exact fun H locs c1 s1 ls a b c d e => lv_ishr C.1 C.2.1  hd  (kk H locs c1 s1 ls a b c d e)
  case iushr =>
    obtain rfl : len = 1 := Nat.eq_of_beq_eq_true hlen
    obtain ⟨x, y, r, rfl, e⟩ := oI2_i h
    cases e
    exact fun H locs c1 s1 ls a b c d e => lv_iushr C.1 C.2.1  hd rfl (kk H locs c1 s1 ls a b c d e)
  case idiv =>
    obtain rfl : len = 1 := Nat.eq_of_beq_eq_true hlen
    obtain ⟨x, y, r, rfl, hne, e⟩ := oD2_i h
    cases e
    exact fun H locs c1 s1 ls a b c d e => lv_idiv C.1 C.2.1  hd hne (kk H locs c1 s1 ls a b c d e)
  case irem =>
    obtain rfl : len = 1 := Nat.eq_of_beq_eq_true hlen
    obtain ⟨x, y, r, rfl, hne, e⟩ := oD2_i h
    cases e
    exact fun H locs c1 s1 ls a b c d e => lv_irem C.1 C.2.1  hd hne (kk H locs c1 s1 ls a b c d e)
  case ineg =>
    obtain rfl : len = 1 := Nat.eq_of_beq_eq_true hlen
    obtain ⟨x, r, rfl, e⟩ := oI1_i h
    cases e
    exact fun H locs c1 s1 ls a b c d e => lv_ineg C.1 C.2.1  hd  (kk H locs c1 s1 ls a b c d e)
  case i2b =>
    obtain rfl : len = 1 := Nat.eq_of_beq_eq_true hlen
    obtain ⟨x, r, rfl, e⟩ := oI1_i h
    cases e
    exact fun H locs c1 s1 ls a b c d e => lv_i2b C.1 C.2.1  hd rfl (kk H locs c1 s1 ls a b c d e)
  case i2s =>
    obtain rfl : len = 1 := Nat.eq_of_beq_eq_true hlen
    obtain ⟨x, r, rfl, e⟩ := oI1_i h
    cases e
    exact fun H locs c1 s1 ls a b c d e => lv_i2s C.1 C.2.1  hd rfl (kk H locs c1 s1 ls a b c d e)
  case i2l =>
    obtain rfl : len = 1 := Nat.eq_of_beq_eq_true hlen
    unfold pS at h
    dsimp only at h
    split at h
    · cases h
      exact fun H locs c1 s1 ls a b c d e => lv_i2l C.1 C.2.1 hd rfl (kk H locs c1 s1 ls a b c d e)
    · cases h
  case l2i =>
    obtain rfl : len = 1 := Nat.eq_of_beq_eq_true hlen
    unfold pS at h
    dsimp only at h
    split at h
    · cases h
      exact fun H locs c1 s1 ls a b c d e => lv_l2i C.1 C.2.1 hd rfl (kk H locs c1 s1 ls a b c d e)
    · cases h
  case ladd =>
    obtain rfl : len = 1 := Nat.eq_of_beq_eq_true hlen
    obtain ⟨x, y, r, rfl, e⟩ := oL2_i h
    cases e
    exact fun H locs c1 s1 ls a b c d e => lv_ladd C.1 C.2.1  hd  (kk H locs c1 s1 ls a b c d e)
  case lsub =>
    obtain rfl : len = 1 := Nat.eq_of_beq_eq_true hlen
    obtain ⟨x, y, r, rfl, e⟩ := oL2_i h
    cases e
    exact fun H locs c1 s1 ls a b c d e => lv_lsub C.1 C.2.1  hd  (kk H locs c1 s1 ls a b c d e)
  case lmul =>
    obtain rfl : len = 1 := Nat.eq_of_beq_eq_true hlen
    obtain ⟨x, y, r, rfl, e⟩ := oL2_i h
    cases e
    exact fun H locs c1 s1 ls a b c d e => lv_lmul C.1 C.2.1  hd  (kk H locs c1 s1 ls a b c d e)
  case land =>
    obtain rfl : len = 1 := Nat.eq_of_beq_eq_true hlen
    obtain ⟨x, y, r, rfl, e⟩ := oL2_i h
    cases e
    exact fun H locs c1 s1 ls a b c d e => lv_land C.1 C.2.1  hd  (kk H locs c1 s1 ls a b c d e)
  case lor =>
    obtain rfl : len = 1 := Nat.eq_of_beq_eq_true hlen
    obtain ⟨x, y, r, rfl, e⟩ := oL2_i h
    cases e
    exact fun H locs c1 s1 ls a b c d e => lv_lor C.1 C.2.1  hd  (kk H locs c1 s1 ls a b c d e)
  case ldiv =>
    obtain rfl : len = 1 := Nat.eq_of_beq_eq_true hlen
    obtain ⟨x, y, r, rfl, hne, e⟩ := oE2_i h
    cases e
    exact fun H locs c1 s1 ls a b c d e => lv_ldiv C.1 C.2.1  hd hne (kk H locs c1 s1 ls a b c d e)
  case lrem =>
    obtain rfl : len = 1 := Nat.eq_of_beq_eq_true hlen
    obtain ⟨x, y, r, rfl, hne, e⟩ := oE2_i h
    cases e
    exact fun H locs c1 s1 ls a b c d e => lv_lrem C.1 C.2.1  hd hne (kk H locs c1 s1 ls a b c d e)
  case lcmp =>
    obtain rfl : len = 1 := Nat.eq_of_beq_eq_true hlen
    unfold pS at h
    dsimp only at h
    split at h
    · cases h
      exact fun H locs c1 s1 ls a b c d e => W.lcmp C.1 C.2.1 hd (kk H locs c1 s1 ls a b c d e)
    · cases h
  case lshl =>
    obtain rfl : len = 1 := Nat.eq_of_beq_eq_true hlen
    unfold pS at h
    dsimp only at h
    split at h
    · cases h
      exact fun H locs c1 s1 ls a b c d e => lv_lshl C.1 C.2.1 hd rfl (kk H locs c1 s1 ls a b c d e)
    · cases h
  case dup =>
    obtain rfl : len = 1 := Nat.eq_of_beq_eq_true hlen
    unfold pS at h
    dsimp only at h
    split at h
    · split at h
      next hv =>
        cases h
        exact fun H locs c1 s1 ls a b c d e => lv_dup C.1 C.2.1 hd ((cv_cat _).trans hv) (kk H locs c1 s1 ls a b c d e)
      next => cases h
    · cases h
  case dup2 =>
    obtain rfl : len = 1 := Nat.eq_of_beq_eq_true hlen
    unfold pS at h
    dsimp only at h
    split at h
    · split at h
      next hv =>
        cases h
        exact fun H locs c1 s1 ls a b c d e => lv_dup2_11 C.1 C.2.1 hd ((cv_cat _).trans hv.1) ((cv_cat _).trans hv.2) (kk H locs c1 s1 ls a b c d e)
      next => cases h
    · cases h
  case pop =>
    obtain rfl : len = 1 := Nat.eq_of_beq_eq_true hlen
    unfold pS at h
    dsimp only at h
    split at h
    · split at h
      next hv =>
        cases h
        exact fun H locs c1 s1 ls a b c d e => lv_pop C.1 C.2.1 hd ((cv_cat _).trans hv) (kk H locs c1 s1 ls a b c d e)
      next => cases h
    · cases h
  case pop2 =>
    obtain rfl : len = 1 := Nat.eq_of_beq_eq_true hlen
    unfold pS at h
    dsimp only at h
    split at h
    · split at h
      next hv =>
        cases h
        exact fun H locs c1 s1 ls a b c d e => lv_pop2_2 C.1 C.2.1 hd ((cv_cat _).trans hv) (kk H locs c1 s1 ls a b c d e)
      next => cases h
    · cases h
  case goto off =>
    obtain rfl : len = 3 := Nat.eq_of_beq_eq_true hlen
    obtain ⟨t, ht, e⟩ := Option.map_eq_some_iff.mp h
    cases e
    exact fun H locs c1 s1 ls a b c d e => lv_goto C.1 C.2.1  hd (tgt_i ht) (kk H locs c1 s1 ls a b c d e)
  case ifCond cc off =>
    obtain rfl : len = 3 := Nat.eq_of_beq_eq_true hlen
    unfold pS at h
    dsimp only at h
    split at h
    next x r =>
      obtain ⟨t, ht, e⟩ := Option.map_eq_some_iff.mp h
      cases e
      cases cc
      case eq =>
        exact fun H locs c1 s1 ls a b c d e => lv_if_eq C.1 C.2.1 hd (tgt_i ht) (fun hq => by have k2 := kk; rw [show pbr .eq x 0 t (pc + 3) = t from if_pos hq] at k2; exact k2 H locs c1 s1 ls a b c d e) (fun hq => by have k2 := kk; rw [show pbr .eq x 0 t (pc + 3) = pc + 3 from if_neg hq] at k2; exact k2 H locs c1 s1 ls a b c d e)
      case ne =>
        exact fun H locs c1 s1 ls a b c d e => lv_if_ne C.1 C.2.1 hd (tgt_i ht) (fun hq => by have k2 := kk; rw [show pbr .ne x 0 t (pc + 3) = t from if_neg hq] at k2; exact k2 H locs c1 s1 ls a b c d e) (fun hq => by have k2 := kk; rw [show pbr .ne x 0 t (pc + 3) = pc + 3 from if_pos hq] at k2; exact k2 H locs c1 s1 ls a b c d e)
      case lt =>
        exact fun H locs c1 s1 ls a b c d e => lv_if_lt C.1 C.2.1 hd (tgt_i ht) (fun hq => by have k2 := kk; rw [show pbr .lt x 0 t (pc + 3) = t from if_pos hq] at k2; exact k2 H locs c1 s1 ls a b c d e) (fun hq => by have k2 := kk; rw [show pbr .lt x 0 t (pc + 3) = pc + 3 from if_neg hq] at k2; exact k2 H locs c1 s1 ls a b c d e)
      case ge =>
        exact fun H locs c1 s1 ls a b c d e => lv_if_ge C.1 C.2.1 hd (tgt_i ht) (fun hq => by have k2 := kk; rw [show pbr .ge x 0 t (pc + 3) = t from if_pos hq] at k2; exact k2 H locs c1 s1 ls a b c d e) (fun hq => by have k2 := kk; rw [show pbr .ge x 0 t (pc + 3) = pc + 3 from if_neg hq] at k2; exact k2 H locs c1 s1 ls a b c d e)
      case gt =>
        exact fun H locs c1 s1 ls a b c d e => lv_if_gt C.1 C.2.1 hd (tgt_i ht) (fun hq => by have k2 := kk; rw [show pbr .gt x 0 t (pc + 3) = t from if_pos hq] at k2; exact k2 H locs c1 s1 ls a b c d e) (fun hq => by have k2 := kk; rw [show pbr .gt x 0 t (pc + 3) = pc + 3 from if_neg hq] at k2; exact k2 H locs c1 s1 ls a b c d e)
      case le =>
        exact fun H locs c1 s1 ls a b c d e => lv_if_le C.1 C.2.1 hd (tgt_i ht) (fun hq => by have k2 := kk; rw [show pbr .le x 0 t (pc + 3) = t from if_pos hq] at k2; exact k2 H locs c1 s1 ls a b c d e) (fun hq => by have k2 := kk; rw [show pbr .le x 0 t (pc + 3) = pc + 3 from if_neg hq] at k2; exact k2 H locs c1 s1 ls a b c d e)
    next => cases h
  case if_icmp cc off =>
    obtain rfl : len = 3 := Nat.eq_of_beq_eq_true hlen
    unfold pS at h
    dsimp only at h
    split at h
    next y x r =>
      obtain ⟨t, ht, e⟩ := Option.map_eq_some_iff.mp h
      cases e
      cases cc
      case eq =>
        exact fun H locs c1 s1 ls a b c d e => lv_icmp_eq C.1 C.2.1 hd (tgt_i ht) (fun hq => by have k2 := kk; rw [show pbr .eq x y t (pc + 3) = t from if_pos hq] at k2; exact k2 H locs c1 s1 ls a b c d e) (fun hq => by have k2 := kk; rw [show pbr .eq x y t (pc + 3) = pc + 3 from if_neg hq] at k2; exact k2 H locs c1 s1 ls a b c d e)
      case ne =>
        exact fun H locs c1 s1 ls a b c d e => lv_icmp_ne C.1 C.2.1 hd (tgt_i ht) (fun hq => by have k2 := kk; rw [show pbr .ne x y t (pc + 3) = t from if_neg hq] at k2; exact k2 H locs c1 s1 ls a b c d e) (fun hq => by have k2 := kk; rw [show pbr .ne x y t (pc + 3) = pc + 3 from if_pos hq] at k2; exact k2 H locs c1 s1 ls a b c d e)
      case lt =>
        exact fun H locs c1 s1 ls a b c d e => lv_icmp_lt C.1 C.2.1 hd (tgt_i ht) (fun hq => by have k2 := kk; rw [show pbr .lt x y t (pc + 3) = t from if_pos hq] at k2; exact k2 H locs c1 s1 ls a b c d e) (fun hq => by have k2 := kk; rw [show pbr .lt x y t (pc + 3) = pc + 3 from if_neg hq] at k2; exact k2 H locs c1 s1 ls a b c d e)
      case ge =>
        exact fun H locs c1 s1 ls a b c d e => lv_icmp_ge C.1 C.2.1 hd (tgt_i ht) (fun hq => by have k2 := kk; rw [show pbr .ge x y t (pc + 3) = t from if_pos hq] at k2; exact k2 H locs c1 s1 ls a b c d e) (fun hq => by have k2 := kk; rw [show pbr .ge x y t (pc + 3) = pc + 3 from if_neg hq] at k2; exact k2 H locs c1 s1 ls a b c d e)
      case gt =>
        exact fun H locs c1 s1 ls a b c d e => lv_icmp_gt C.1 C.2.1 hd (tgt_i ht) (fun hq => by have k2 := kk; rw [show pbr .gt x y t (pc + 3) = t from if_pos hq] at k2; exact k2 H locs c1 s1 ls a b c d e) (fun hq => by have k2 := kk; rw [show pbr .gt x y t (pc + 3) = pc + 3 from if_neg hq] at k2; exact k2 H locs c1 s1 ls a b c d e)
      case le =>
        exact fun H locs c1 s1 ls a b c d e => lv_icmp_le C.1 C.2.1 hd (tgt_i ht) (fun hq => by have k2 := kk; rw [show pbr .le x y t (pc + 3) = t from if_pos hq] at k2; exact k2 H locs c1 s1 ls a b c d e) (fun hq => by have k2 := kk; rw [show pbr .le x y t (pc + 3) = pc + 3 from if_neg hq] at k2; exact k2 H locs c1 s1 ls a b c d e)
    next => cases h
  case tableswitch dd lo hi offs =>
    unfold pS at h
    dsimp only at h
    split at h
    next x r =>
      split at h
      next hh =>
        obtain ⟨t, ht, e⟩ := Option.map_eq_some_iff.mp h
        cases e
        exact fun H locs c1 s1 ls a b c d e => lv_tableOut C.1 C.2.1 hd hh (tgt_i ht) (kk H locs c1 s1 ls a b c d e)
      next hh =>
        obtain ⟨off, ho, h2⟩ := Option.bind_eq_some_iff.mp h
        obtain ⟨t, ht, e⟩ := Option.map_eq_some_iff.mp h2
        cases e
        exact fun H locs c1 s1 ls a b c d e => lv_tableIn C.1 C.2.1 hd (fun q => hh (Or.inl q)) (fun q => hh (Or.inr q)) ho (tgt_i ht) (kk H locs c1 s1 ls a b c d e)
    next => cases h
  case lookupswitch dd ps =>
    unfold pS at h
    dsimp only at h
    split at h
    next x r =>
      split at h
      next hh =>
        obtain ⟨t, ht, e⟩ := Option.map_eq_some_iff.mp h
        cases e
        exact fun H locs c1 s1 ls a b c d e => lv_lookup C.1 C.2.1 hd hh rfl (tgt_i ht) (kk H locs c1 s1 ls a b c d e)
      next => cases h
    next => cases h
  case getfield k =>
    obtain rfl : len = 3 := Nat.eq_of_beq_eq_true hlen
    obtain ⟨ob, r, ci, f, rfl, hfl, ho, hp, hf, e⟩ := oGet_i h
    cases e
    exact ws_get C hd hfl ho hp hf kk
  case putfield k =>
    obtain rfl : len = 3 := Nat.eq_of_beq_eq_true hlen
    obtain ⟨v, ob, r, ci, f, τ, rfl, hfl, ho, hp, hf, hfin, hv, e⟩ := oPut_i h
    cases e
    exact ws_put C hd hfl ho hp hf hfin hv kk
  case getstatic k =>
    obtain rfl : len = 3 := Nat.eq_of_beq_eq_true hlen
    obtain ⟨j, hj, e⟩ := Option.map_eq_some_iff.mp h
    cases e
    exact ws_gets C hd hj kk
  case iaload =>
    obtain rfl : len = 1 := Nat.eq_of_beq_eq_true hlen
    rcases oLdI_i h with ⟨i, ob, r, rfl, hh, e⟩ | ⟨i, ob, r, rfl, hh, e⟩
    · cases e
      exact ws_iald C hd hh.1 hh.2.1 hh.2.2 kk
    · cases e
      exact ws_rold C hd hh.2.1 hh.2.2 kk
  case baload =>
    obtain rfl : len = 1 := Nat.eq_of_beq_eq_true hlen
    rcases oLdI_i h with ⟨i, ob, r, rfl, hh, e⟩ | ⟨i, ob, r, rfl, hh, e⟩
    · cases e
      exact ws_bald C hd hh.1 hh.2.1 hh.2.2 kk
    · exact absurd hh.1 (by decide)
  case saload =>
    obtain rfl : len = 1 := Nat.eq_of_beq_eq_true hlen
    rcases oLdI_i h with ⟨i, ob, r, rfl, hh, e⟩ | ⟨i, ob, r, rfl, hh, e⟩
    · cases e
      exact ws_sald C hd hh.1 hh.2.1 hh.2.2 kk
    · exact absurd hh.1 (by decide)
  case laload =>
    obtain rfl : len = 1 := Nat.eq_of_beq_eq_true hlen
    obtain ⟨i, ob, r, rfl, hh, e⟩ := oLdL_i h
    cases e
    exact ws_lald C hd hh.1 hh.2.1 hh.2.2 kk
  case aaload =>
    obtain rfl : len = 1 := Nat.eq_of_beq_eq_true hlen
    obtain ⟨i, ob, r, j, rfl, hh, hj, e⟩ := oLdA_i h
    cases e
    exact ws_aald C hd hh.1 hh.2.1 hh.2.2 hj kk
  case iastore =>
    obtain rfl : len = 1 := Nat.eq_of_beq_eq_true hlen
    obtain ⟨x, i, ob, r, rfl, hh, e⟩ := oStI_i h
    cases e
    exact ws_iast C hd hh.1 hh.2.1 hh.2.2 kk
  case bastore =>
    obtain rfl : len = 1 := Nat.eq_of_beq_eq_true hlen
    obtain ⟨x, i, ob, r, rfl, hh, e⟩ := oStI_i h
    cases e
    exact ws_bast C hd hh.1 hh.2.1 hh.2.2 kk
  case sastore =>
    obtain rfl : len = 1 := Nat.eq_of_beq_eq_true hlen
    obtain ⟨x, i, ob, r, rfl, hh, e⟩ := oStI_i h
    cases e
    exact ws_sast C hd hh.1 hh.2.1 hh.2.2 kk
  case lastore =>
    obtain rfl : len = 1 := Nat.eq_of_beq_eq_true hlen
    obtain ⟨x, i, ob, r, rfl, hh, e⟩ := oStL_i h
    cases e
    exact ws_last C hd hh.1 hh.2.1 hh.2.2 kk
  case arraylength =>
    obtain rfl : len = 1 := Nat.eq_of_beq_eq_true hlen
    rcases oLen_i h with ⟨ob, r, rfl, hh, e⟩ | ⟨ob, r, rfl, hh, e⟩
    · cases e
      exact ws_len C hd hh.1 hh.2.1 hh.2.2 kk
    · cases e
      exact ws_rolen C hd hh kk
  case newarray at_ =>
    obtain rfl : len = 2 := Nat.eq_of_beq_eq_true hlen
    obtain ⟨n, r, rfl, hh, e⟩ := oNewA_i h
    cases e
    cases at_
    case boolean => exact absurd hh.2.2 (by decide)
    case char => exact absurd hh.2.2 (by decide)
    case float => exact absurd hh.2.2 (by decide)
    case double => exact absurd hh.2.2 (by decide)
    case byte =>
      exact ws_newa_byte C hd hh.1 hh.2.1 hr1 hr2 kk
    case short =>
      exact ws_newa_short C hd hh.1 hh.2.1 hr1 hr2 kk
    case int =>
      exact ws_newa_int C hd hh.1 hh.2.1 hr1 hr2 kk
    case long =>
      exact ws_newa_long C hd hh.1 hh.2.1 hr1 hr2 kk
  case new k =>
    obtain rfl : len = 3 := Nat.eq_of_beq_eq_true hlen
    obtain ⟨ci, hci, e⟩ := Option.map_eq_some_iff.mp h
    cases e
    exact ws_new C hd hci hr1 hr2 kk
  case multianewarray k dm =>
    obtain rfl : len = 4 := Nat.eq_of_beq_eq_true hlen
    unfold pS at h
    dsimp only at h
    split at h
    next hdm =>
      subst hdm
      obtain ⟨t, ht, h2⟩ := Option.bind_eq_some_iff.mp h
      obtain ⟨kx, n, r, rfl, hh, e⟩ := oMna_i h2
      cases e
      rcases hh.2.2.2.2 with rfl | rfl
      · obtain ⟨q1, q2, -⟩ := mkrows_spec 1 kx.toNatClampNeg n.toNatClampNeg (wrr (mkc σ 5 n.toNatClampNeg n.toNatClampNeg) (pnc σ) (fun i => if i < n.toNatClampNeg then some (pnc σ + 1 + i) else none))
        exact ws_mna C hd ht rfl (Or.inl ⟨rfl, rfl, rfl⟩) hh.1 hh.2.1 hh.2.2.1 hh.2.2.2.1 (by rw [if_pos rfl, q1] at hr1; exact hr1) (by rw [if_pos rfl, q2] at hr2; exact hr2) kk
      · obtain ⟨q1, q2, -⟩ := mkrows_spec 4 kx.toNatClampNeg n.toNatClampNeg (wrr (mkc σ 6 n.toNatClampNeg n.toNatClampNeg) (pnc σ) (fun i => if i < n.toNatClampNeg then some (pnc σ + 1 + i) else none))
        exact ws_mna C hd ht rfl (Or.inr ⟨rfl, rfl, rfl⟩) hh.1 hh.2.1 hh.2.2.1 hh.2.2.2.1 (by rw [if_neg (by decide), q1] at hr1; exact hr1) (by rw [if_neg (by decide), q2] at hr2; exact hr2) kk
    next => cases h
  all_goals (have h2 : (none : PO) = some (pc2, st2, σ2) := h; cases h2)
/-! ===== locals ===== -/
theorem lk_mem : ∀ {L : PL} {k : Nat} {v : Value}, lk L k = some v → (k, v) ∈ L
  | [], _, _, h => by cases h
  | q :: t, k, v, h => by
    unfold lk at h
    cases e : Nat.beq q.1 k with
    | true =>
      rw [e] at h
      cases h
      have e2 : q.1 = k := Nat.eq_of_beq_eq_true e
      subst e2
      exact List.mem_cons_self
    | false =>
      rw [e] at h
      exact List.mem_cons_of_mem _ (lk_mem h)
theorem put_mem : ∀ {L : PL} {k : Nat} {v : Value} {q : Nat × Value}, q ∈ put L k v → q = (k, v) ∨ q ∈ L
  | [], k, v, q, h => Or.inl (List.mem_singleton.mp h)
  | a :: t, k, v, q, h => by
    unfold put at h
    cases e : Nat.blt k a.1 with
    | true =>
      rw [e] at h
      rcases List.mem_cons.mp h with h | h
      · exact Or.inl h
      · exact Or.inr h
    | false =>
      rw [e] at h
      rcases List.mem_cons.mp h with h | h
      · exact Or.inr (h ▸ List.mem_cons_self)
      · rcases put_mem h with h | h
        · exact Or.inl h
        · exact Or.inr (List.mem_cons_of_mem _ h)
theorem has_at {X : Ctx} {ls : Array Slot} {n : Nat} {L : PL} {k : Nat} {v : Value} (hl : lv_has ls n (cvL X L)) (h : lk L k = some v) : ls[k]? = some (.val (cv (xo X) (xt X) v)) := hl.2.2 (k, cv (xo X) (xt X) v) (List.mem_map.mpr ⟨(k, v), lk_mem h, rfl⟩)
theorem has_weak {ls : Array Slot} {n : Nat} {l l' : List (Nat × Value)} (h : lv_has ls n l) (hs : ∀ q ∈ l', q ∈ l) : lv_has ls n l' := ⟨h.1, h.2.1, fun q hq => h.2.2 q (hs q hq)⟩
theorem rmk_in {L : PL} {i : Nat} {q : Nat × Value} (h : q ∈ rmk L i) : q ∈ L ∧ q.1 ≠ i := by
  obtain ⟨h1, h2⟩ := List.mem_filter.mp h
  refine ⟨h1, fun e => ?_⟩
  rw [e] at h2
  have : Nat.beq i i = true := Nat.beq_refl i
  rw [this] at h2
  cases h2
theorem lk_some_of {L : PL} {k : Nat} {v : Value} (h : (k, v) ∈ L) : ∃ w, lk L k = some w := by
  induction L with
  | nil => cases h
  | cons a t ih =>
    unfold lk
    cases e : Nat.beq a.1 k with
    | true => exact ⟨_, rfl⟩
    | false =>
      rcases List.mem_cons.mp h with h | h
      · subst h
        have : Nat.beq k k = true := Nat.beq_refl k
        rw [this] at e
        cases e
      · exact ih h
theorem rm1_in {X : Ctx} {ls : Array Slot} {n : Nat} {L : PL} {k : Nat} {q : Nat × Value} (hl : lv_has ls n (cvL X L)) (h : q ∈ rm1 L k) : q ∈ L ∧ q.1 ≠ k ∧ ¬ (q.1 + 1 = k ∧ q.2.category = 2) := by
  cases k with
  | zero =>
    obtain ⟨h1, h2⟩ := rmk_in h
    exact ⟨h1, h2, by omega⟩
  | succ j =>
    unfold rm1 at h
    dsimp only at h
    cases e : lg L j with
    | true =>
      rw [e] at h
      obtain ⟨h1, h2⟩ := rmk_in h
      obtain ⟨h3, h4⟩ := rmk_in h1
      exact ⟨h3, h4, by omega⟩
    | false =>
      rw [e] at h
      obtain ⟨h1, h2⟩ := rmk_in h
      refine ⟨h1, h2, fun hh => ?_⟩
      obtain ⟨h3, h4⟩ := hh
      have e3 : q.1 = j := by omega
      obtain ⟨w, hw⟩ := lk_some_of (L := L) (k := j) (v := q.2) (by rw [← e3]; exact h1)
      have a1 := has_at hl hw
      have a2 : ls[q.1]? = some (.val (cv (xo X) (xt X) q.2)) := hl.2.2 (q.1, cv (xo X) (xt X) q.2) (List.mem_map.mpr ⟨q, h1, rfl⟩)
      rw [e3, a1] at a2
      have a3 : cv (xo X) (xt X) w = cv (xo X) (xt X) q.2 := Slot.val.inj (Option.some.inj a2)
      have a4 : w.category = q.2.category := by
        have := congrArg Value.category a3
        rwa [cv_cat, cv_cat] at this
      unfold lg at e
      rw [hw] at e
      dsimp only at e
      rw [a4, h4] at e
      cases e
theorem has_ins1 {X : Ctx} {ls0 ls : Array Slot} {n : Nat} {L : PL} {k : Nat} {v w : Value} (h0 : lv_has ls0 n (cvL X L)) (hw : cv (xo X) (xt X) v = w) (h : lv_has ls n ((k, w) :: (cvL X L).filter (fun q => !(q.1 == k) && !(q.1 + 1 == k && q.2.category == 2)))) : lv_has ls n (cvL X (ins1 L k v)) := by
  subst hw
  refine has_weak h fun q hq => ?_
  obtain ⟨q0, hq0, rfl⟩ := List.mem_map.mp hq
  rcases put_mem hq0 with rfl | hq0
  · exact List.mem_cons_self
  · obtain ⟨a1, a2, a3⟩ := rm1_in h0 hq0
    refine List.mem_cons_of_mem _ (List.mem_filter.mpr ⟨List.mem_map.mpr ⟨q0, a1, rfl⟩, ?_⟩)
    rw [cv_cat]
    simp [a2]
    omega
theorem has_ins2 {X : Ctx} {ls0 ls : Array Slot} {n : Nat} {L : PL} {k : Nat} {v w : Value} (h0 : lv_has ls0 n (cvL X L)) (hw : cv (xo X) (xt X) v = w) (h : lv_has ls n ((k, w) :: (cvL X L).filter (fun q => !(q.1 == k) && (!(q.1 == k + 1) && !(q.1 + 1 == k && q.2.category == 2))))) : lv_has ls n (cvL X (ins2 L k v)) := by
  subst hw
  refine has_weak h fun q hq => ?_
  obtain ⟨q0, hq0, rfl⟩ := List.mem_map.mp hq
  rcases put_mem hq0 with rfl | hq0
  · exact List.mem_cons_self
  · obtain ⟨hq1, hq2⟩ := rmk_in hq0
    obtain ⟨a1, a2, a3⟩ := rm1_in h0 hq1
    refine List.mem_cons_of_mem _ (List.mem_filter.mpr ⟨List.mem_map.mpr ⟨q0, a1, rfl⟩, ?_⟩)
    rw [cv_cat]
    simp [a2, hq2]
    omega
theorem okI_i {v : Value} (h : okI v = true) : ∃ x, v = .int x := by cases v <;> first | exact ⟨_, rfl⟩ | cases h
theorem okL_i {v : Value} (h : okL v = true) : ∃ x, v = .long x := by cases v <;> first | exact ⟨_, rfl⟩ | cases h
theorem okA_i {v : Value} (h : okA v = true) (b0 : Nat) (tt : Nat → Nat) : ∃ x, cv b0 tt v = .ref x := by cases v <;> first | exact ⟨_, rfl⟩ | cases h
theorem pLd_i {ok : Value → Bool} {L : PL} {k : Nat} {st : List Value} {q : PL × List Value} (h : pLd ok L k st = some q) : ∃ v, lk L k = some v ∧ ok v = true ∧ q = (L, v :: st) := by
  obtain ⟨v, h1, h2⟩ := Option.bind_eq_some_iff.mp h
  cases e : ok v with
  | true => rw [e] at h2; cases h2; exact ⟨v, h1, e, rfl⟩
  | false => rw [e] at h2; cases h2
theorem pSt1_i {ok : Value → Bool} {nL : Nat} {L : PL} {k : Nat} {st : List Value} {q : PL × List Value} (h : pSt1 ok nL L k st = some q) : ∃ v r, st = v :: r ∧ ok v = true ∧ k < nL ∧ q = (ins1 L k v, r) := by
  unfold pSt1 at h
  split at h
  next v r =>
    cases e : ok v && Nat.blt k nL with
    | true =>
      rw [e] at h
      cases h
      simp only [Bool.and_eq_true] at e
      exact ⟨v, r, rfl, e.1, Nat.le_of_ble_eq_true e.2, rfl⟩
    | false => rw [e] at h; cases h
  next => cases h
theorem pSt2_i {nL : Nat} {L : PL} {k : Nat} {st : List Value} {q : PL × List Value} (h : pSt2 nL L k st = some q) : ∃ v r, st = v :: r ∧ okL v = true ∧ k + 1 < nL ∧ q = (ins2 L k v, r) := by
  unfold pSt2 at h
  split at h
  next v r =>
    cases e : okL v && Nat.blt (k + 1) nL with
    | true =>
      rw [e] at h
      cases h
      simp only [Bool.and_eq_true] at e
      exact ⟨v, r, rfl, e.1, Nat.le_of_ble_eq_true e.2, rfl⟩
    | false => rw [e] at h; cases h
  next => cases h
set_option maxHeartbeats 4000000 in
theorem ws_pL {Λ : PRo} {X : Ctx} (C : CX Λ X) {i : Instr} {len pc : Nat} {L : PL} {st : List Value} {σ : PSt} {L2 : PL} {st2 : List Value} (hd : decode (mB (xm X)) pc = .ok (i, len)) (hlen : lenOk i len = true) (h : pL i (mL (xm X)) L st = some (L2, st2))
    (kk : WS X (pc + len) L2 st2 σ) : WS X pc L st σ := by
  cases i
  case iload k =>
    obtain rfl : len = 2 := Nat.eq_of_beq_eq_true hlen
    obtain ⟨v, h1, h2, e⟩ := pLd_i h
    obtain ⟨x, rfl⟩ := okI_i h2
    cases e
    exact fun H locs c1 s1 ls a b c d e => lv_iload C.1 C.2.1 hd (has_at e h1) (kk H locs c1 s1 ls a b c d e)
  case iload_n k =>
    obtain rfl : len = 1 := Nat.eq_of_beq_eq_true hlen
    obtain ⟨v, h1, h2, e⟩ := pLd_i h
    obtain ⟨x, rfl⟩ := okI_i h2
    cases e
    exact fun H locs c1 s1 ls a b c d e => lv_iload_n C.1 C.2.1 hd rfl (has_at e h1) (kk H locs c1 s1 ls a b c d e)
  case lload k =>
    obtain rfl : len = 2 := Nat.eq_of_beq_eq_true hlen
    obtain ⟨v, h1, h2, e⟩ := pLd_i h
    obtain ⟨x, rfl⟩ := okL_i h2
    cases e
    exact fun H locs c1 s1 ls a b c d e => lv_lload C.1 C.2.1 hd (has_at e h1) (kk H locs c1 s1 ls a b c d e)
  case lload_n k =>
    obtain rfl : len = 1 := Nat.eq_of_beq_eq_true hlen
    obtain ⟨v, h1, h2, e⟩ := pLd_i h
    obtain ⟨x, rfl⟩ := okL_i h2
    cases e
    exact fun H locs c1 s1 ls a b c d e => lv_lload_n C.1 C.2.1 hd rfl (has_at e h1) (kk H locs c1 s1 ls a b c d e)
  case aload k =>
    obtain rfl : len = 2 := Nat.eq_of_beq_eq_true hlen
    obtain ⟨v, h1, h2, e⟩ := pLd_i h
    cases e
    intro H locs c1 s1 ls a b c d e
    obtain ⟨x, hx⟩ := okA_i h2 (xo X) (xt X)
    have k2 := kk H locs c1 s1 ls a b c d e
    rw [List.map_cons, hx] at k2
    exact lv_aload C.1 C.2.1 hd (by rw [← hx]; exact has_at e h1) k2
  case aload_n k =>
    obtain rfl : len = 1 := Nat.eq_of_beq_eq_true hlen
    obtain ⟨v, h1, h2, e⟩ := pLd_i h
    cases e
    intro H locs c1 s1 ls a b c d e
    obtain ⟨x, hx⟩ := okA_i h2 (xo X) (xt X)
    have k2 := kk H locs c1 s1 ls a b c d e
    rw [List.map_cons, hx] at k2
    exact lv_aload_n C.1 C.2.1 hd rfl (by rw [← hx]; exact has_at e h1) k2
  case istore k =>
    obtain rfl : len = 2 := Nat.eq_of_beq_eq_true hlen
    obtain ⟨v, r, rfl, h2, h3, e⟩ := pSt1_i h
    obtain ⟨x, rfl⟩ := okI_i h2
    cases e
    exact fun H locs c1 s1 ls a b c d e => lv_istore C.1 C.2.1 hd e h3 rfl (fun ls' hl' => kk H locs c1 s1 ls' a b c d (has_ins1 e rfl hl'))
  case istore_n k =>
    obtain rfl : len = 1 := Nat.eq_of_beq_eq_true hlen
    obtain ⟨v, r, rfl, h2, h3, e⟩ := pSt1_i h
    obtain ⟨x, rfl⟩ := okI_i h2
    cases e
    exact fun H locs c1 s1 ls a b c d e => lv_istore_n C.1 C.2.1 hd rfl e h3 rfl (fun ls' hl' => kk H locs c1 s1 ls' a b c d (has_ins1 e rfl hl'))
  case astore k =>
    obtain rfl : len = 2 := Nat.eq_of_beq_eq_true hlen
    obtain ⟨v, r, rfl, h2, h3, e⟩ := pSt1_i h
    cases e
    intro H locs c1 s1 ls a b c d e
    obtain ⟨x, hx⟩ := okA_i h2 (xo X) (xt X)
    rw [List.map_cons, hx]
    exact lv_astore C.1 C.2.1 hd e h3 rfl (fun ls' hl' => kk H locs c1 s1 ls' a b c d (has_ins1 e hx hl'))
  case astore_n k =>
    obtain rfl : len = 1 := Nat.eq_of_beq_eq_true hlen
    obtain ⟨v, r, rfl, h2, h3, e⟩ := pSt1_i h
    cases e
    intro H locs c1 s1 ls a b c d e
    obtain ⟨x, hx⟩ := okA_i h2 (xo X) (xt X)
    rw [List.map_cons, hx]
    exact lv_astore_n C.1 C.2.1 hd rfl e h3 rfl (fun ls' hl' => kk H locs c1 s1 ls' a b c d (has_ins1 e hx hl'))
  case lstore k =>
    obtain rfl : len = 2 := Nat.eq_of_beq_eq_true hlen
    obtain ⟨v, r, rfl, h2, h3, e⟩ := pSt2_i h
    obtain ⟨x, rfl⟩ := okL_i h2
    cases e
    exact fun H locs c1 s1 ls a b c d e => lv_lstore C.1 C.2.1 hd e h3 rfl (fun ls' hl' => kk H locs c1 s1 ls' a b c d (has_ins2 e rfl hl'))
  case lstore_n k =>
    obtain rfl : len = 1 := Nat.eq_of_beq_eq_true hlen
    obtain ⟨v, r, rfl, h2, h3, e⟩ := pSt2_i h
    obtain ⟨x, rfl⟩ := okL_i h2
    cases e
    exact fun H locs c1 s1 ls a b c d e => lv_lstore_n C.1 C.2.1 hd rfl e h3 rfl (fun ls' hl' => kk H locs c1 s1 ls' a b c d (has_ins2 e rfl hl'))
  case iinc k n =>
    obtain rfl : len = 3 := Nat.eq_of_beq_eq_true hlen
    unfold pL at h
    dsimp only at h
    split at h
    next x hx =>
      cases eb : Nat.blt k (mL (xm X)) with
      | false => rw [eb] at h; cases h
      | true =>
        rw [eb] at h
        cases h
        intro H locs c1 s1 ls a b c d e
        obtain ⟨j, hj⟩ := List.getElem?_of_mem (List.mem_map.mpr ⟨(k, .int x), lk_mem hx, rfl⟩ : (k, Value.int x) ∈ cvL X L)
        exact lv_iinc C.1 C.2.1 hd e hj rfl (Nat.le_of_ble_eq_true eb) rfl (fun ls' hl' => kk H locs c1 s1 ls' a b c d (has_ins1 (v := .int (x + Int32.ofInt n)) e rfl hl'))
    next => cases h
  all_goals (have h2 : (none : Option (PL × List Value)) = some (L2, st2) := h; cases h2)
theorem retOf_i {i : Instr} {st : List Value} {v : Option Value} (h : retOf i st = some v) : i = retI v ∧ st = v.toList ∧ ∀ len, lenOk i len = true → len = 1 := by
  cases i
  case ireturn =>
    unfold retOf at h
    dsimp only at h
    split at h
    · cases h; exact ⟨rfl, rfl, fun len h9 => Nat.eq_of_beq_eq_true h9⟩
    · cases h
  case lreturn =>
    unfold retOf at h
    dsimp only at h
    split at h
    · cases h; exact ⟨rfl, rfl, fun len h9 => Nat.eq_of_beq_eq_true h9⟩
    · cases h
  case areturn =>
    unfold retOf at h
    dsimp only at h
    split at h
    · cases h; exact ⟨rfl, rfl, fun len h9 => Nat.eq_of_beq_eq_true h9⟩
    · cases h
  case return_ =>
    unfold retOf at h
    dsimp only at h
    split at h
    · cases h; exact ⟨rfl, rfl, fun len h9 => Nat.eq_of_beq_eq_true h9⟩
    · cases h
  all_goals (have h2 : (none : Option (Option Value)) = some v := h; cases h2)
theorem callOf_i {i : Instr} {k idx : Nat} (h : callOf i = some (k, idx)) : (k = 0 ∧ i = .invokevirtual idx ∨ k = 1 ∧ i = .invokespecial idx ∨ k = 2 ∧ i = .invokestatic idx) ∧ ∀ len, lenOk i len = true → len = 3 := by
  cases i
  case invokevirtual k => cases h; exact ⟨Or.inl ⟨rfl, rfl⟩, fun len h9 => Nat.eq_of_beq_eq_true h9⟩
  case invokespecial k => cases h; exact ⟨Or.inr (Or.inl ⟨rfl, rfl⟩), fun len h9 => Nat.eq_of_beq_eq_true h9⟩
  case invokestatic k => cases h; exact ⟨Or.inr (Or.inr ⟨rfl, rfl⟩), fun len h9 => Nat.eq_of_beq_eq_true h9⟩
  all_goals (have h2 : (none : Option (Nat × Nat)) = some (k, idx) := h; cases h2)
theorem popN_i : ∀ {n : Nat} {st acc as rest : List Value}, popN n st acc = some (as, rest) → ∃ bs, as = bs ++ acc ∧ bs.length = n ∧ st = bs.reverse ++ rest
  | 0, st, acc, as, rest, h => by cases h; exact ⟨[], rfl, rfl, rfl⟩
  | n + 1, v :: st, acc, as, rest, h => by
    obtain ⟨bs, h1, h2, h3⟩ := popN_i (n := n) (show popN n st (v :: acc) = some (as, rest) from h)
    exact ⟨bs ++ [v], by simp [h1], by simp [h2], by simp [h3]⟩
  | n + 1, [], acc, as, rest, h => by cases h
/-! ===== calls ===== -/
def wsM (m : Nat) : List Cond := wCode m :: WALL
theorem wsM_in {m : Nat} (h : m < NM) : ∀ w ∈ wsM m, w ∈ WALL := by
  intro w hw
  rcases List.mem_cons.mp hw with rfl | hw
  · exact w_code h
  · exact hw
theorem good_wall {ws : List Cond} (h : ∀ w ∈ ws, w ∈ WALL) : GoodIn WALL ws := fun w hw => ⟨h w hw, good_of_word (List.mem_filter.mp (h w hw)).2⟩
def cRm (d mc ms : Nat) : Room := { frames := d, cells := mc, slots := ms, locals := 64 * d }
def cPc (Λ : PRo) (D : va_G) (dA : Nat → ClassId) (b0 : Nat) (tt : Nat → Nat) (as : List Value) (σ : PSt) : Array Value → State → Prop := va_Pc (as.map (cv b0 tt)) (fun U => Hd D dA b0 tt σ U.heap ∧ KN Λ D dA b0 tt U U.heap)
def cQc (D : va_G) (dA : Nat → ClassId) (b0 : Nat) (tt : Nat → Nat) (v : Option Value) (σ : PSt) : Array Value → State → Outcome → State → Prop := fun _ st o t => o = .returned (v.map (cv b0 tt)) ∧ Hd D dA b0 tt σ t.heap ∧ va_F (fun q => b0 ≤ q) st t
theorem args_cv {b0 : Nat} {tt : Nat → Nat} : ∀ (as : List Value) (i : Nat), (lv_args i as).map (fun q => (q.1, cv b0 tt q.2)) = lv_args i (as.map (cv b0 tt))
  | [], _ => rfl
  | v :: vs, i => by
    show (i, cv b0 tt v) :: (lv_args (if v.category = 2 then i + 2 else i + 1) vs).map _ = (i, cv b0 tt v) :: lv_args (if (cv b0 tt v).category = 2 then i + 2 else i + 1) (vs.map (cv b0 tt))
    rw [args_cv vs, cv_cat]
theorem sl_len : ∀ as : List Value, (lg_sl as).length ≤ catS as
  | [] => Nat.zero_le _
  | v :: vs => by
    have h := sl_len vs
    show (lg_sl (v :: vs)).length ≤ ((v :: vs).map fun v => v.category).sum
    have e : (lg_sl (v :: vs)).length = (if v.category = 2 then 2 else 1) + (lg_sl vs).length := by
      unfold lg_sl
      rw [List.flatMap_cons, List.length_append]
      split <;> rfl
    rw [e, List.map_cons, List.sum_cons]
    have h2 : (lg_sl vs).length ≤ (vs.map fun v => v.category).sum := h
    rcases lv_cat v with h1 | h1 <;> rw [h1] <;> simp <;> omega
theorem catS_cv {b0 : Nat} {tt : Nat → Nat} (st : List Value) : ((st.map (cv b0 tt)).map fun v => v.category).sum = catS st := by
  unfold catS
  rw [List.map_map]
  congr 1
  exact List.map_congr_left fun v _ => cv_cat v
theorem ret_any {p : Program} {l : Launch} {e : Env} {R : Room} {s : State} {m : MethodId} {args : Array Value} {below : List Frame} {meth : Method} {c : Code} {H : Heap} {locs : List Loc} {cells slots pc : Nat} {ls : Array Slot} {b0 : Nat} {tt : Nat → Nat} {Qc : Array Value → State → Outcome → State → Prop} {free : Addr → Prop} {cc : ByteArray} {r0 : Option FieldType} {v : Option Value} (hexec : p.tables.exec = Jvm.exec) (hb : c.code = cc) (hr0 : meth.sig.returnType = r0) (hok : okRet r0 v = true)
    (hq : ∀ t : State, t.heap = H → s.WarmedH t.vm → Qc args s (.returned (v.map (cv b0 tt))) t) (hf : ∀ q ∈ locs, free q.base) (hd : decode cc pc = .ok (retI v, 1)) (hlk : meth.locks = false) : W p l e R s m args below meth c H locs cells slots (MQ below Qc args s cells slots free) (F0 m pc ls (v.toList.map (cv b0 tt))) := by
  match v, hq, hok, hd with
  | none, hq, hok, hd =>
    have hr : r0 = none := by
            match r0, hok with
      | none, _ => rfl
      | some t, h => cases t <;> cases h
    exact W.vret hexec hb (hr0.trans hr) hq hf hd hlk
  | some (.int x), hq, hok, hd =>
    have hr : ∃ ty, r0 = some ty ∧ narrow ty (.int x) = .int x := by
            match r0, hok with
      | none, h => cases h
      | some .int, _ => exact ⟨_, rfl, rfl⟩
      | some .boolean, h =>
        refine ⟨_, rfl, ?_⟩
        have h2 : (x == 0 || x == 1) = true := h
        simp only [Bool.or_eq_true, beq_iff_eq] at h2
        rcases h2 with rfl | rfl <;> decide
      | some .byte, h => cases h
      | some .char, h => cases h
      | some .short, h => cases h
      | some .long, h => cases h
      | some .float, h => cases h
      | some .double, h => cases h
      | some (.object _), h => cases h
      | some (.array _), h => cases h
    obtain ⟨ty, hr, hn⟩ := hr
    exact W.zret hexec hb (hr0.trans hr) hn hq hf hd hlk
  | some (.long x), hq, hok, hd =>
    have hr : r0 = some .long := by
            match r0, hok with
      | none, h => cases h
      | some t, h => cases t <;> first | rfl | cases h
    exact W.lret hexec hb (hr0.trans hr) hq hf hd hlk
  | some (.ref x), hq, hok, hd =>
    have hr : ∃ n, r0 = some (.object n) := by
            match r0, hok with
      | none, h => cases h
      | some t, h => cases t <;> first | exact ⟨_, rfl⟩ | cases h
    obtain ⟨n, hr⟩ := hr
    exact W.aret hexec hb (hr0.trans hr) (Or.inl ⟨n, rfl⟩) (Or.inr ⟨_, rfl⟩) hq hf hd hlk
  | some (.float x), hq, hok, hd =>
        match r0, hok with
    | none, h => cases h
    | some t, h => cases t <;> cases h
  | some (.double x), hq, hok, hd =>
        match r0, hok with
    | none, h => cases h
    | some t, h => cases t <;> cases h
  | some .null, hq, hok, hd =>
        match r0, hok with
    | none, h => cases h
    | some t, h => cases t <;> cases h
  | some (.retAddr x), hq, hok, hd =>
        match r0, hok with
    | none, h => cases h
    | some t, h => cases t <;> cases h
/-- a callee's contract out of its walk -/
theorem met_of {Λ : PRo} {l : Launch} {D : va_G} {dA : Nat → ClassId} {b0 : Nat} {tt : Nat → Nat} {y d : Nat} {as : List Value} {σ σ1 : PSt} {v : Option Value} (hy : y < NM) (hcat : catS as ≤ mL y) (hm1 : pnc σ ≤ pnc σ1) (hm2 : pns σ ≤ pns σ1)
    (hB : ∀ X : Ctx, CX Λ X → xm X = y → d ≤ (xR X).frames → 64 * d ≤ (xR X).locals → pnc σ1 ≤ xk X + (xR X).cells → pns σ1 ≤ xn X + (xR X).slots → (∀ (pc' : Nat) (L' : PL), decode (mB (xm X)) pc' = .ok (retI v, 1) → okRet (mR (xm X)) v = true → WS X pc' L' v.toList σ1) → WS X 0 (entL as) [] σ) :
    Met l (mY y) (wsM y) (cRm d (pnc σ1 - pnc σ) (pns σ1 - pns σ)) (cPc Λ D dA b0 tt as σ) (cQc D dA b0 tt v σ1) (pnc σ1 - pnc σ) (pns σ1 - pns σ) (fun q => b0 ≤ q) := by
  refine Met.ofW (cc := mB y) (maxL := mL y) (ret := mR y) (mY_plain y hy) rfl ?_
  intro p e s m args below meth c s₁ B hml hv
  obtain ⟨rfl, hH, hKN⟩ := hv
  have hts := atoms_spec (ws := wsM y) B.pre
  have hown : s.vm.findClass (mY y).cls = some m.cls := findClass_of_methodNamed B.named
  rw [mC_nm y hy] at hown
  let X : Ctx := (p, l, e, (headSpec (wsM y) (cRm d (pnc σ1 - pnc σ) (pns σ1 - pns σ))).room, s, m, (as.map (cv b0 tt)).toArray, below, meth, c, MQ below (cQc D dA b0 tt v σ1) (as.map (cv b0 tt)).toArray s (pnc σ1 - pnc σ) (pns σ1 - pns σ) (fun q => b0 ≤ q), D, dA, b0, tt, pnc σ, pns σ, y)
  have hCX : CX Λ X := ⟨B.exec, B.bytes, B.returns, hml, hown, fun w hw => hts w (List.mem_cons_of_mem _ hw), B.notSynchronized, fun hi => by
    have h1 : meth.name = (mY y).name := (name_of_methodNamed B.named B.method).1
    show meth.name = "<init>"
    rw [h1]
    exact (mY_ini y hy (Nat.eq_of_beq_eq_true hi)).1, hKN, Nat.le_of_lt hy⟩
  have hl := lv_entry (as.map (cv b0 tt)) (n := mL y) (Nat.le_trans (sl_len _) (by unfold catS; rw [catS_cv]; exact hcat))
  rw [lg_entry_eq]
  generalize (lg_sl (as.map (cv b0 tt)) ++ List.replicate (mL y - (lg_sl (as.map (cv b0 tt))).length) Slot.unset).toArray = ls at hl ⊢
  have hl2 : lv_has ls (mL (xm X)) (cvL X (entL as)) := by
    show lv_has ls (mL y) ((lv_args 0 as).map fun q => (q.1, cv b0 tt q.2))
    rw [args_cv]
    exact hl
  refine hB X hCX rfl (Nat.le_refl d) (Nat.le_refl (64 * d)) (by show pnc σ1 ≤ pnc σ + (pnc σ1 - pnc σ); omega) (by show pns σ1 ≤ pns σ + (pns σ1 - pns σ); omega) ?_ s.heap [] 0 0 ls hH va_S.rf rfl rfl hl2
  intro pc' L' hd hok H' locs' cells' slots' ls' hH' hS' hc' hs' hl'
  obtain rfl : cells' = pnc σ1 - pnc σ := by have : pnc σ1 = pnc σ + cells' := hc'; omega
  obtain rfl : slots' = pns σ1 - pns σ := by have : pns σ1 = pns σ + slots' := hs'; omega
  have hq : ∀ t : State, t.heap = H' → s.WarmedH t.vm → cQc D dA b0 tt v σ1 (as.map (cv b0 tt)).toArray s (.returned (v.map (cv b0 tt))) t := fun t ht _ => ⟨rfl, by rw [ht]; exact hH', hS'.F ht⟩
  have hlk : meth.locks = false := B.notSynchronized
  have hrt : meth.sig.returnType = mR y := B.returns
  have hok2 : okRet (mR y) v = true := hok
  have hd2 : decode (mB y) pc' = .ok (retI v, 1) := hd
  exact ret_any B.exec B.bytes hrt hok2 hq hS'.2.2 hd2 hlk
/-- behind a call -/
theorem run_go {X : Ctx} {v : Option Value} {σ1 : PSt} {H : Heap} {locs : List Loc} {cells slots mc ms pc : Nat} {ls : Array Slot} {st0 rest : List Value} {a : Array Value}
    (hr : va_Run (xp X) (xl X) (xe X) (xR X) (xs X) (xi X) (xa X) (xb X) (xh X) (xc X) H locs cells slots mc ms (F0 (xi X) pc ls st0) rest (cQc (xD X) (xA X) (xo X) (xt X) v σ1 a) (fun q => xo X ≤ q)) (hS : va_S (fun q => xo X ≤ q) (xs X).heap H locs)
    (kk : ∀ (H1 : Heap) (locs1 : List Loc), Hd (xD X) (xA X) (xo X) (xt X) σ1 H1 → va_S (fun q => xo X ≤ q) (xs X).heap H1 locs1 → W (xp X) (xl X) (xe X) (xR X) (xs X) (xi X) (xa X) (xb X) (xh X) (xc X) H1 locs1 (cells + mc) (slots + ms) (xQ X) (F0 (xi X) (pc + 3) ls ((v.map (cv (xo X) (xt X))).toList ++ rest))) :
    W (xp X) (xl X) (xe X) (xR X) (xs X) (xi X) (xa X) (xb X) (xh X) (xc X) H locs cells slots (xQ X) (F0 (xi X) pc ls st0) := by
  intro T hT Xs
  obtain ⟨v9, st₀, t, T', L, h0, X', hL, e1, e2, ⟨hv, hb, hz, hk⟩, st⟩ := hr T hT Xs
  cases hv
  rw [h0] at hz hk
  obtain ⟨t2, a1, b1⟩ := kk T'.heap (locs ++ L) (by rw [e1]; exact hb) ⟨Nat.le_trans hS.1 (by rw [e1]; exact hz), fun q h1 h2 => by rw [e1, hk q (Nat.lt_of_lt_of_le h1 hS.1) h2]; exact hS.2.1 q h1 h2, fun q hq => by
      rcases List.mem_append.mp hq with h | h
      · exact hS.2.2 q h
      · exact hL q h⟩ T' rfl X'
  exact ⟨t2, st t2 a1, b1⟩
theorem cPc_blind {Λ : PRo} {D : va_G} {dA : Nat → ClassId} {b0 : Nat} {tt : Nat → Nat} {as : List Value} {σ : PSt} : FrameBlind (cPc Λ D dA b0 tt as σ) := fun a U g mk q => by
  obtain ⟨q0, q1, q2⟩ := q
  exact ⟨q0, q1, q2.moved (u := U) (U := U.calling g mk a) (Vm.Alike.refl U.vm) q2.2.1 (fun _ _ => rfl)⟩
theorem ws_call {Λ : PRo} {X : Ctx} (C : CX Λ X) {k idx y d pc : Nat} {i : Instr} {L : PL} {as rest : List Value} {σ σ1 : PSt} {v : Option Value} (hd : decode (mB (xm X)) pc = .ok (i, 3)) (hi : k = 0 ∧ i = .invokevirtual idx ∨ k = 1 ∧ i = .invokespecial idx ∨ k = 2 ∧ i = .invokestatic idx)
    (hca : ca (mC (xm X)) idx = some y) (hkd : kdOk k y = true) (hlen : as.length = nA y) (hcr : catS rest ≤ 8) (hcat : catS as ≤ mL y) (hvo : vOk k y as σ = true) (hdf : d + 1 ≤ (xR X).frames) (hdl : 64 * (d + 1) ≤ (xR X).locals)
    (hm1 : pnc σ ≤ pnc σ1) (hm2 : pns σ ≤ pns σ1) (hr1 : pnc σ1 ≤ xk X + (xR X).cells) (hr2 : pns σ1 ≤ xn X + (xR X).slots)
    (hB : ∀ X : Ctx, CX Λ X → xm X = y → d ≤ (xR X).frames → 64 * d ≤ (xR X).locals → pnc σ1 ≤ xk X + (xR X).cells → pns σ1 ≤ xn X + (xR X).slots → (∀ (pc' : Nat) (L' : PL), decode (mB (xm X)) pc' = .ok (retI v, 1) → okRet (mR (xm X)) v = true → WS X pc' L' v.toList σ1) → WS X 0 (entL as) [] σ)
    (kk : WS X (pc + 3) L (v.toList ++ rest) σ1) : WS X pc L (as.reverse ++ rest) σ := by
  have hy : y < NM := ca_y C.mc hca
  intro H locs cells slots ls hH hS hc hs hl
  have hKN := KN.at C hS
  have hM := met_of (Λ := Λ) (l := xl X) (D := xD X) (dA := xA X) (b0 := xo X) (tt := xt X) hy hcat hm1 hm2 hB
  have hts := C.2.2.2.2.2.1
  have hclo : ((mY y).cls ≠ "java/lang/invoke/MethodHandle" ∧ (mY y).cls ≠ "java/lang/invoke/VarHandle") := mY_mh y hy
  have hroom : (cRm d (pnc σ1 - pnc σ) (pns σ1 - pns σ)).frames + 1 ≤ (xR X).frames ∧ 8 + (mL y + 11) + (cRm d (pnc σ1 - pnc σ) (pns σ1 - pns σ)).locals ≤ (xR X).locals := by
    have := mL_le y (Nat.le_of_lt hy)
    refine ⟨hdf, ?_⟩
    show 8 + (mL y + 11) + 64 * d ≤ _
    omega
  have hf : cells + (pnc σ1 - pnc σ) ≤ (xR X).cells ∧ slots + (pns σ1 - pns σ) ≤ (xR X).slots := by omega
  have hini : (Cond.initialized (mY y).cls) ∈ WALL := by rw [mC_nm y hy]; exact w_in (mC_lt y (Nat.le_of_lt hy))
  have hpre : ∀ U : State, U.heap = H → (xs X).WarmedH U.vm → cPc Λ (xD X) (xA X) (xo X) (xt X) as σ (as.map (cv (xo X) (xt X))).toArray U := fun U hU hW => ⟨rfl, by rw [hU]; exact hH, by rw [hU]; exact hKN.moved hW.alike hKN.2.1 (fun _ _ => rfl)⟩
  have hfin : ∀ (H1 : Heap) (locs1 : List Loc), Hd (xD X) (xA X) (xo X) (xt X) σ1 H1 → va_S (fun q => xo X ≤ q) (xs X).heap H1 locs1 → W (xp X) (xl X) (xe X) (xR X) (xs X) (xi X) (xa X) (xb X) (xh X) (xc X) H1 locs1 (cells + (pnc σ1 - pnc σ)) (slots + (pns σ1 - pns σ)) (xQ X) (F0 (xi X) (pc + 3) ls ((v.map (cv (xo X) (xt X))).toList ++ rest.map (cv (xo X) (xt X)))) := by
    intro H1 locs1 h1 h2
    have := kk H1 locs1 (cells + (pnc σ1 - pnc σ)) (slots + (pns σ1 - pns σ)) ls h1 h2 (by omega) (by omega) hl
    rw [List.map_append] at this
    have e : (v.toList).map (cv (xo X) (xt X)) = (v.map (cv (xo X) (xt X))).toList := by cases v <;> rfl
    rw [e] at this
    exact this
  have hstk : ((as.reverse ++ rest).map (cv (xo X) (xt X))) = (as.map (cv (xo X) (xt X))).reverse ++ rest.map (cv (xo X) (xt X)) := by rw [List.map_append, List.map_reverse]
  rw [hstk]
  have hW8 : 2 * (F0 (xi X) pc ls ((as.map (cv (xo X) (xt X))).reverse ++ rest.map (cv (xo X) (xt X)))).monitorRoom + ((rest.map (cv (xo X) (xt X))).map fun v => v.category).sum ≤ 8 := lv_room (by rw [catS_cv]; exact hcr)
  have hfix : CallFix (xp X) (xi X) (xc X) (mB (xm X)) (mL (xm X)) (xs X) (xa X) WALL (cnm (mC (xm X))) := ⟨C.1, C.2.1, C.2.2.2.1, C.2.2.2.2.1, hts⟩
  have hkq : k = mK y := Nat.eq_of_beq_eq_true hkd
  have hpar := mY_par y hy
  have hlink := w_ca C.mc hca
  have recv : ∀ (b : Value) (bs : List Value), vOk 0 y (b :: bs) σ = true → ∃ o, b = .ref o ∧ ∃ cellB : Cell, H[xo X + o]? = some cellB ∧ cellB.vm.isStatics = false ∧ (xs X).vm.findClass (mY y).cls = some cellB.cls := by
    intro b bs hv0
    match b, hv0 with
    | .ref o, hv0 =>
      refine ⟨o, rfl, ?_⟩
      have hv1 : (Nat.blt o (pnc σ) && (Nat.beq (ply σ o).1 0 && Nat.beq (ply σ o).2 (mC y))) = true := hv0
      simp only [Bool.and_eq_true] at hv1
      have ho : o < pnc σ := Nat.le_of_ble_eq_true hv1.1
      have h0 : (ply σ o).1 = 0 := Nat.eq_of_beq_eq_true hv1.2.1
      have h1 : (ply σ o).2 = mC y := Nat.eq_of_beq_eq_true hv1.2.2
      have hp : ply σ o = (0, mC y) := by rw [← h0, ← h1]
      have hat := hH.2 o ho
      rw [ent_o hp] at hat
      obtain ⟨r0, g1, cell, g2, g3, g4, -⟩ := hat
      have hci := vwCl_lt g1
      obtain rfl : r0 = (cnm (mC y), cT (mC y), nF (mC y)) := Option.some.inj (g1.symm.trans (vwCl_at hci))
      refine ⟨cell, g2, by rw [g4]; rfl, ?_⟩
      rw [mC_nm y hy, g3]
      exact (C.kn.1.1 _ _ g1).2.1
  rcases hi with ⟨hk0, rfl⟩ | ⟨hk1, rfl⟩ | ⟨hk2, rfl⟩
  · subst hk0
    have hk9 : mK y = 0 := hkq.symm
    have hn2 : ¬ mK y = 2 := by omega
    obtain ⟨hnA, -⟩ := (mY_nA y hy).1 hn2
    match as, hlen, hvo, hM, hpre with
    | [], hlen, _, _, _ => exact absurd hlen (by simp; omega)
    | b :: bs, hlen, hvo, hM, hpre =>
      obtain ⟨o, rfl, hcell⟩ := recv b bs hvo
      have hpar2 : (parseMethodDescriptor (mY y).desc).map (fun d => d.parameters.length) = some (bs.length) := by
        rw [hpar, hk9]
        show some (nA y - 1) = _
        congr 1
        simp at hlen
        omega
      have hcw : CallW (xR X) (xs X) (xa X) (cnm (mC (xm X))) (mY y).cls idx (mY y) (mB y) (mL y) (mR y) (wsM y) (cRm d (pnc σ1 - pnc σ) (pns σ1 - pns σ)) (pnc σ1 - pnc σ) (pns σ1 - pns σ) bs.length :=
        cwV bs.length hts (good_wall (fun w hw => by
          rcases List.mem_append.mp hw with h | h
          · simp only [List.mem_cons, List.not_mem_nil, or_false] at h
            rcases h with rfl | rfl | rfl | rfl
            · exact hlink
            · exact w_im hy hn2
            · exact w_sel hy hk9
            · exact hini
          · exact wsM_in hy w h)) rfl rfl rfl ⟨rfl, hclo.1, hclo.2, hpar2⟩ hroom
      refine run_go (X := X) (st0 := ((Value.ref o :: bs).map (cv (xo X) (xt X))).reverse ++ rest.map (cv (xo X) (xt X))) (va_runV (As := bs.map (cv (xo X) (xt X))) (rest := rest.map (cv (xo X) (xt X))) (b := xo X + o) hfix hM hcw ⟨cPc_blind, hcell, hpre⟩ rfl (by simp) hl.1 ?_ hW8 hd hf) hS hfin
      show ((Value.ref o :: bs).map (cv (xo X) (xt X))).reverse ++ rest.map (cv (xo X) (xt X)) = _
      simp [cv]
  · subst hk1
    have hk9 : mK y = 1 := hkq.symm
    have hn2 : ¬ mK y = 2 := by omega
    obtain ⟨hnA, -⟩ := (mY_nA y hy).1 hn2
    obtain ⟨hnm, hret⟩ := mY_ini y hy hk9
    match as, hlen, hvo, hM, hpre with
    | [], hlen, _, _, _ => exact absurd hlen (by simp; omega)
    | b :: bs, hlen, hvo, hM, hpre =>
      obtain ⟨o, rfl, hcell⟩ := recv b bs hvo
      have hpar2 : (parseMethodDescriptor (mY y).desc).map (fun d => d.parameters.length) = some (bs.length) := by
        rw [hpar, hk9]
        show some (nA y - 1) = _
        congr 1
        simp at hlen
        omega
      have hw9 : wsM y = Cond.code (mY y) (mB y) (mL y) none :: WALL := by
        show Cond.code (mY y) (mB y) (mL y) (mR y) :: WALL = _
        rw [hret]
      refine run_go (X := X) (st0 := ((Value.ref o :: bs).map (cv (xo X) (xt X))).reverse ++ rest.map (cv (xo X) (xt X))) (va_runI (As := bs.map (cv (xo X) (xt X))) (rest := rest.map (cv (xo X) (xt X))) (b := xo X + o) hfix hM (cwI bs.length hts (good_wall (wsM_in hy)) hw9 rfl rfl (hts _ hini) (hts _ hlink) (hts _ (w_im hy hn2)) hnm ⟨hclo.1, hclo.2, hpar2⟩ hroom) ⟨cPc_blind, hpre⟩ rfl (by simp) hl.1 ?_ hW8 hd hf) hS hfin
      show ((Value.ref o :: bs).map (cv (xo X) (xt X))).reverse ++ rest.map (cv (xo X) (xt X)) = _
      simp [cv]
  · subst hk2
    have hk9 : mK y = 2 := hkq.symm
    have hpar2 : (parseMethodDescriptor (mY y).desc).map (fun d => d.parameters.length) = some (as.length) := by
      rw [hpar, hk9]
      show some (nA y) = _
      rw [hlen]
    exact run_go (X := X) (va_runS (As := as.map (cv (xo X) (xt X))) (rest := rest.map (cv (xo X) (xt X))) hfix hM (va_cwS as.length hts (good_wall (fun w hw => by
          rcases List.mem_append.mp hw with h | h
          · simp only [List.mem_cons, List.not_mem_nil, or_false] at h
            rcases h with rfl | rfl | rfl
            · exact hlink
            · exact w_st hy hk9
            · exact hini
          · exact wsM_in hy w h)) rfl rfl rfl ⟨hclo.1, hclo.2, hpar2⟩ hroom) ⟨cPc_blind, hpre⟩ rfl (by simp) hl.1 rfl hW8 hd hf) hS hfin
/-! ===== System.arraycopy, Math.max, Math.min, Object.<init> ===== -/
set_option maxHeartbeats 4000000 in
theorem ws_cpyI {Λ : PRo} {X : Ctx} (C : CX Λ X) {idx pc : Nat} {L : PL} {sp dp n : Int32} {a b : Nat} {r : List Value} {σ : PSt} (hd : decode (mB (xm X)) pc = .ok (.invokestatic idx, 3)) (hac : ac (mC (xm X)) idx = true) (hfr : 1 ≤ (xR X).frames) (hlo : 64 ≤ (xR X).locals) (hcr : catS r ≤ 8)
    (ha : a < pnc σ) (hb : b < pnc σ) (hta : (ply σ a).1 = 1) (htb : (ply σ b).1 = 1) (h1 : ¬ sp < 0) (h2 : ¬ dp < 0) (h3 : ¬ n < 0) (h4 : sp.toNatClampNeg + n.toNatClampNeg ≤ (ply σ a).2) (h5 : dp.toNatClampNeg + n.toNatClampNeg ≤ (ply σ b).2)
    (kk : WS X (pc + 3) L r (riv σ b (va_cpy (piv σ a) (piv σ b) sp.toNatClampNeg dp.toNatClampNeg n.toNatClampNeg))) : WS X pc L (.int n :: .int dp :: .ref b :: .int sp :: .ref a :: r) σ := by
  intro H locs cells slots ls hH hS hc hs hl
  have nn : ∀ z : Int32, ¬ z < 0 → z.toInt = (z.toNatClampNeg : Int) := by
    intro z hz
    have hz0 : (0 : Int) ≤ z.toInt := by
      have := Int32.not_lt.mp hz
      simpa using Int32.le_iff_toInt_le.mp this
    show z.toInt = ((z.toInt.toNat : Nat) : Int)
    omega
  have hata := hH.2 a ha
  rw [ent_a hta (by decide)] at hata
  have hc0 : H[xo X + a]? = some (vp_cell (xA X 1) ((ply σ a).2, .inl (piv σ a))) := hata
  have hatb := hH.2 b hb
  rw [ent_a htb (by decide)] at hatb
  have hc1 : H[xo X + b]? = some (vp_cell (xA X 1) ((ply σ b).2, .inl (piv σ b))) := hatb
  have hK := (C.kn.1.2 0 _ rfl).1
  obtain ⟨-, k0, hk0, cm0, hkk0⟩ := hK (ply σ a).2 (fun j => .int (piv σ a j))
  have hts := C.2.2.2.2.2.1
  have h40 : nativeFrameWords "java/lang/System" "arraycopy" 5 ≤ 40 := by decide +kernel
  intro T hT Xs
  obtain ⟨vm', X', step⟩ := Xs.arraycopy C.1 C.2.2.2.2.1 (hts _ (w_ac C.mc hac)) (hts _ (w_ex (w := .native arraycopyName) (by decide +kernel) rfl)) (hts _ (w_ex (w := .static arraycopyName) (by decide +kernel) rfl)) (hts _ (w_ex (w := .initialized "java/lang/System") (by decide +kernel) rfl)) (src := xo X + a) (dst := xo X + b) (cs := vp_cell (xA X 1) ((ply σ a).2, .inl (piv σ a))) (cd := vp_cell (xA X 1) ((ply σ b).2, .inl (piv σ b))) (srcPos := sp) (destPos := dp) (n := n) (by rw [hT]; exact hc0) (by rw [hT]; exact hc1)
    (fun _ h => by cases h) (fun _ h => by cases h) (fun h => by cases h) (fun h => by cases h) hk0 hk0 hkk0 hkk0 (by simp [refKind]) h1 h2 h3
    (by rw [nn sp h1, nn n h3]; show ¬ _ > ((arrV (xA X 1) (ply σ a).2 (fun j => .int (piv σ a j))).slots.size : Int); rw [arrV_size]; omega)
    (by rw [nn dp h2, nn n h3]; show ¬ _ > ((arrV (xA X 1) (ply σ b).2 (fun j => .int (piv σ b j))).slots.size : Int); rw [arrV_size]; omega)
    (fun vm₁ _ i hi => by
      have e : (vp_cell (xA X 1) ((ply σ a).2, .inl (piv σ a))).slots.getD (sp.toNatClampNeg + i) .null = .int (piv σ a (sp.toNatClampNeg + i)) := by
        show (arrV (xA X 1) (ply σ a).2 (fun j => .int (piv σ a j))).slots.getD _ _ = _
        rw [Array.getD_eq_getD_getElem?, arrV_read _ _ (by omega)]
        rfl
      refine ⟨?_, ?_⟩
      · rw [e]
        rfl
      · rw [e]
        exact trivial)
    (g := F0 (xi X) pc ls (.int n :: .int dp :: .ref (xo X + b) :: .int sp :: .ref (xo X + a) :: r.map (cv (xo X) (xt X)))) rfl (by rw [C.2.2.2.1]; exact hl.1) (rest := r.map (cv (xo X) (xt X))) rfl (by rw [C.2.1]; exact hd) hfr (by show 2 * 0 + _ + _ ≤ _; rw [catS_cv]; omega)
  have e1 : copied (vp_cell (xA X 1) ((ply σ a).2, .inl (piv σ a))) (vp_cell (xA X 1) ((ply σ b).2, .inl (piv σ b))) sp dp n = vp_cell (xA X 1) ((ply σ b).2, .inl (va_cpy (piv σ a) (piv σ b) sp.toNatClampNeg dp.toNatClampNeg n.toNatClampNeg)) := va_copied (fun z => .int z) (xA X 1) (xA X 1) (piv σ a) (piv σ b) h4
  rw [e1] at X' step
  have hlt : xo X + b < H.size := (Array.getElem?_eq_some_iff.mp hc1).1
  generalize hcell : vp_cell (xA X 1) ((ply σ b).2, .inl (va_cpy (piv σ a) (piv σ b) sp.toNatClampNeg dp.toNatClampNeg n.toNatClampNeg)) = cl at X' step
  have hheap : ((T.setVm vm').setCell (xo X + b) cl).heap = H.setIfInBounds (xo X + b) cl := by rw [← hT]; rfl
  have oq : ∀ q : Nat, q ≠ xo X + b → (H.setIfInBounds (xo X + b) cl)[q]? = H[q]? := fun q hq => by simp [Array.getElem?_setIfInBounds, Ne.symm hq]
  obtain ⟨t, a1, b1⟩ := kk _ (locs ++ _) cells slots ls (hH.upd (τ := riv σ b (va_cpy (piv σ a) (piv σ b) sp.toNatClampNeg dp.toNatClampNeg n.toNatClampNeg)) (k := b) (H1 := H.setIfInBounds (xo X + b) cl) rfl (by simp) oq (fun j hj => ent_congr rfl rfl (up1_n hj) rfl) (by
      rw [ent_a (show (ply (riv σ b _) b).1 = 1 from htb) (by decide)]
      show (H.setIfInBounds (xo X + b) cl)[xo X + b]? = some (vp_cell (xA X 1) ((ply σ b).2, .inl (up1 (piv σ) b _ b)))
      rw [up1_s, hcell]
      simp [Array.getElem?_setIfInBounds, hlt])) ⟨by simp; exact hS.1, fun q g1 g2 => by
      rw [oq q (fun e => g2 (by show xo X ≤ q; omega))]
      exact hS.2.1 q g1 g2, fun q hq => by
      rcases List.mem_append.mp hq with h | h
      · exact hS.2.2 q h
      · obtain ⟨z, -, hz⟩ := List.mem_map.mp h
        rw [← hz]
        show xo X ≤ xo X + b
        omega⟩ hc hs hl _ hheap X'
  exact ⟨t, step t a1, b1⟩
set_option maxHeartbeats 4000000 in
theorem ws_cpyL {Λ : PRo} {X : Ctx} (C : CX Λ X) {idx pc : Nat} {L : PL} {sp dp n : Int32} {a b : Nat} {r : List Value} {σ : PSt} (hd : decode (mB (xm X)) pc = .ok (.invokestatic idx, 3)) (hac : ac (mC (xm X)) idx = true) (hfr : 1 ≤ (xR X).frames) (hlo : 64 ≤ (xR X).locals) (hcr : catS r ≤ 8)
    (ha : a < pnc σ) (hb : b < pnc σ) (hta : (ply σ a).1 = 4) (htb : (ply σ b).1 = 4) (h1 : ¬ sp < 0) (h2 : ¬ dp < 0) (h3 : ¬ n < 0) (h4 : sp.toNatClampNeg + n.toNatClampNeg ≤ (ply σ a).2) (h5 : dp.toNatClampNeg + n.toNatClampNeg ≤ (ply σ b).2)
    (kk : WS X (pc + 3) L r (rlv σ b (va_cpy (plv σ a) (plv σ b) sp.toNatClampNeg dp.toNatClampNeg n.toNatClampNeg))) : WS X pc L (.int n :: .int dp :: .ref b :: .int sp :: .ref a :: r) σ := by
  intro H locs cells slots ls hH hS hc hs hl
  have nn : ∀ z : Int32, ¬ z < 0 → z.toInt = (z.toNatClampNeg : Int) := by
    intro z hz
    have hz0 : (0 : Int) ≤ z.toInt := by
      have := Int32.not_lt.mp hz
      simpa using Int32.le_iff_toInt_le.mp this
    show z.toInt = ((z.toInt.toNat : Nat) : Int)
    omega
  have hata := hH.2 a ha
  rw [ent_a hta (by decide)] at hata
  have hc0 : H[xo X + a]? = some (vp_cell (xA X 4) ((ply σ a).2, .inr (.inl (plv σ a)))) := hata
  have hatb := hH.2 b hb
  rw [ent_a htb (by decide)] at hatb
  have hc1 : H[xo X + b]? = some (vp_cell (xA X 4) ((ply σ b).2, .inr (.inl (plv σ b)))) := hatb
  have hK := (C.kn.1.2 3 _ rfl).1
  obtain ⟨-, k0, hk0, cm0, hkk0⟩ := hK (ply σ a).2 (fun j => .long (plv σ a j))
  have hts := C.2.2.2.2.2.1
  have h40 : nativeFrameWords "java/lang/System" "arraycopy" 5 ≤ 40 := by decide +kernel
  intro T hT Xs
  obtain ⟨vm', X', step⟩ := Xs.arraycopy C.1 C.2.2.2.2.1 (hts _ (w_ac C.mc hac)) (hts _ (w_ex (w := .native arraycopyName) (by decide +kernel) rfl)) (hts _ (w_ex (w := .static arraycopyName) (by decide +kernel) rfl)) (hts _ (w_ex (w := .initialized "java/lang/System") (by decide +kernel) rfl)) (src := xo X + a) (dst := xo X + b) (cs := vp_cell (xA X 4) ((ply σ a).2, .inr (.inl (plv σ a)))) (cd := vp_cell (xA X 4) ((ply σ b).2, .inr (.inl (plv σ b)))) (srcPos := sp) (destPos := dp) (n := n) (by rw [hT]; exact hc0) (by rw [hT]; exact hc1)
    (fun _ h => by cases h) (fun _ h => by cases h) (fun h => by cases h) (fun h => by cases h) hk0 hk0 hkk0 hkk0 (by simp [refKind]) h1 h2 h3
    (by rw [nn sp h1, nn n h3]; show ¬ _ > ((arrV (xA X 4) (ply σ a).2 (fun j => .long (plv σ a j))).slots.size : Int); rw [arrV_size]; omega)
    (by rw [nn dp h2, nn n h3]; show ¬ _ > ((arrV (xA X 4) (ply σ b).2 (fun j => .long (plv σ b j))).slots.size : Int); rw [arrV_size]; omega)
    (fun vm₁ _ i hi => by
      have e : (vp_cell (xA X 4) ((ply σ a).2, .inr (.inl (plv σ a)))).slots.getD (sp.toNatClampNeg + i) .null = .long (plv σ a (sp.toNatClampNeg + i)) := by
        show (arrV (xA X 4) (ply σ a).2 (fun j => .long (plv σ a j))).slots.getD _ _ = _
        rw [Array.getD_eq_getD_getElem?, arrV_read _ _ (by omega)]
        rfl
      refine ⟨?_, ?_⟩
      · rw [e]
        rfl
      · rw [e]
        exact trivial)
    (g := F0 (xi X) pc ls (.int n :: .int dp :: .ref (xo X + b) :: .int sp :: .ref (xo X + a) :: r.map (cv (xo X) (xt X)))) rfl (by rw [C.2.2.2.1]; exact hl.1) (rest := r.map (cv (xo X) (xt X))) rfl (by rw [C.2.1]; exact hd) hfr (by show 2 * 0 + _ + _ ≤ _; rw [catS_cv]; omega)
  have e1 : copied (vp_cell (xA X 4) ((ply σ a).2, .inr (.inl (plv σ a)))) (vp_cell (xA X 4) ((ply σ b).2, .inr (.inl (plv σ b)))) sp dp n = vp_cell (xA X 4) ((ply σ b).2, .inr (.inl (va_cpy (plv σ a) (plv σ b) sp.toNatClampNeg dp.toNatClampNeg n.toNatClampNeg))) := va_copied (fun z => .long z) (xA X 4) (xA X 4) (plv σ a) (plv σ b) h4
  rw [e1] at X' step
  have hlt : xo X + b < H.size := (Array.getElem?_eq_some_iff.mp hc1).1
  generalize hcell : vp_cell (xA X 4) ((ply σ b).2, .inr (.inl (va_cpy (plv σ a) (plv σ b) sp.toNatClampNeg dp.toNatClampNeg n.toNatClampNeg))) = cl at X' step
  have hheap : ((T.setVm vm').setCell (xo X + b) cl).heap = H.setIfInBounds (xo X + b) cl := by rw [← hT]; rfl
  have oq : ∀ q : Nat, q ≠ xo X + b → (H.setIfInBounds (xo X + b) cl)[q]? = H[q]? := fun q hq => by simp [Array.getElem?_setIfInBounds, Ne.symm hq]
  obtain ⟨t, a1, b1⟩ := kk _ (locs ++ _) cells slots ls (hH.upd (τ := rlv σ b (va_cpy (plv σ a) (plv σ b) sp.toNatClampNeg dp.toNatClampNeg n.toNatClampNeg)) (k := b) (H1 := H.setIfInBounds (xo X + b) cl) rfl (by simp) oq (fun j hj => ent_congr rfl rfl rfl (up1_n hj)) (by
      rw [ent_a (show (ply (rlv σ b _) b).1 = 4 from htb) (by decide)]
      show (H.setIfInBounds (xo X + b) cl)[xo X + b]? = some (vp_cell (xA X 4) ((ply σ b).2, .inr (.inl (up1 (plv σ) b _ b))))
      rw [up1_s, hcell]
      simp [Array.getElem?_setIfInBounds, hlt])) ⟨by simp; exact hS.1, fun q g1 g2 => by
      rw [oq q (fun e => g2 (by show xo X ≤ q; omega))]
      exact hS.2.1 q g1 g2, fun q hq => by
      rcases List.mem_append.mp hq with h | h
      · exact hS.2.2 q h
      · obtain ⟨z, -, hz⟩ := List.mem_map.mp h
        rw [← hz]
        show xo X ≤ xo X + b
        omega⟩ hc hs hl _ hheap X'
  exact ⟨t, step t a1, b1⟩
theorem ws_oi {Λ : PRo} {X : Ctx} (C : CX Λ X) {idx pc o : Nat} {L : PL} {r : List Value} {σ : PSt} (hd : decode (mB (xm X)) pc = .ok (.invokespecial idx, 3)) (hoi : oi (mC (xm X)) idx = true) (hfr : 1 ≤ (xR X).frames) (hlo : 64 ≤ (xR X).locals) (hcr : catS r ≤ 8) (kk : WS X (pc + 3) L r σ) : WS X pc L (.ref o :: r) σ := by
  intro H locs cells slots ls hH hS hc hs hl
  have hts := C.2.2.2.2.2.1
  refine W.objInit C.1 C.2.1 C.2.2.2.2.1 (hts _ (w_oi C.mc hoi)) (hts _ (w_ex (w := .instanceMethod objectInit) (by decide +kernel) rfl)) (hts _ (w_code0 (m := 9999) (by decide +kernel) rfl rfl)) rfl (by rw [C.2.2.2.1]; exact hl.1) rfl hd hfr (by show 2 * 0 + _ + 12 ≤ _; rw [catS_cv]; omega) ?_
  exact kk H locs cells slots ls hH hS hc hs hl
theorem ws_mm {Λ : PRo} {X : Ctx} (C : CX Λ X) {idx pc j : Nat} {L : PL} {st st1 : List Value} {σ : PSt} (hd : decode (mB (xm X)) pc = .ok (.invokestatic idx, 3)) (hmm : mm (mC (xm X)) idx = some j) (h : oMM j st = some st1) (hfr : 1 ≤ (xR X).frames) (hlo : 64 ≤ (xR X).locals) (hr1 : pnc σ ≤ xk X + (xR X).cells) (hr2 : pns σ ≤ xn X + (xR X).slots) (kk : WS X (pc + 3) L st1 σ) : WS X pc L st σ := by
  intro H locs cells slots ls hH hS hc hs hl
  have hts := C.2.2.2.2.2.1
  unfold oMM at h
  split at h
  next y x r =>
    split at h
    next hcr =>
      cases h
      have k2 := kk H locs cells slots ls hH hS hc hs hl
      have hlink := hts _ (w_mm C.mc hmm)
      rcases mm_01 _ C.mc _ (lkp_in hmm) with e | e
      · have e : j = 0 := e
        subst e
        exact va_mmax C.1 C.2.1 (by rw [C.2.2.2.1]; exact hl.1.symm) C.2.2.2.2.1 hlink (hts _ (w_ex (w := .static Lib.Math.max.name) (by decide +kernel) rfl)) (hts _ (w_ex (w := .initialized "java/lang/Math") (by decide +kernel) rfl)) (hts _ (w_code0 (m := 9998) (by decide +kernel) rfl rfl)) hfr (by rw [catS_cv]; omega) (by omega) (by omega) hd k2
      · have e : j = 1 := e
        subst e
        exact va_mmin C.1 C.2.1 (by rw [C.2.2.2.1]; exact hl.1.symm) C.2.2.2.2.1 hlink (hts _ (w_ex (w := .static Lib.Math.min.name) (by decide +kernel) rfl)) (hts _ (w_ex (w := .initialized "java/lang/Math") (by decide +kernel) rfl)) (hts _ (w_code0 (m := 9997) (by decide +kernel) rfl rfl)) hfr (by rw [catS_cv]; omega) (by omega) (by omega) hd k2
    next => cases h
  next => cases h
theorem pS_mono {Λ : PRo} {ini : Bool} {c pc pc' : Nat} {σ : PSt} {i : Instr} {st : List Value} {pc2 : Nat} {st2 : List Value} {σ2 : PSt} (h : pS Λ ini c pc pc' σ i st = some (pc2, st2, σ2)) : pnc σ ≤ pnc σ2 ∧ pns σ ≤ pns σ2 := by
  have hid : ∀ {q : Nat × List Value × PSt}, (q = (pc2, st2, σ2)) → q.2.2 = σ → pnc σ ≤ pnc σ2 ∧ pns σ ≤ pns σ2 := by
    intro q h1 h2
    subst h1
    have h2 : σ2 = σ := h2
    subst h2
    exact ⟨Nat.le_refl _, Nat.le_refl _⟩
  cases i
  case putfield k =>
    obtain ⟨v, ob, r, ci, f, τ, rfl, hfl, ho, hp, hf, hfin, hv, e⟩ := oPut_i h
    cases e
    obtain ⟨i1, i2, -⟩ := pval_i hv
    omega
  case iastore => obtain ⟨x, i, ob, r, rfl, hh, e⟩ := oStI_i h; cases e; exact ⟨Nat.le_refl _, Nat.le_refl _⟩
  case bastore => obtain ⟨x, i, ob, r, rfl, hh, e⟩ := oStI_i h; cases e; exact ⟨Nat.le_refl _, Nat.le_refl _⟩
  case sastore => obtain ⟨x, i, ob, r, rfl, hh, e⟩ := oStI_i h; cases e; exact ⟨Nat.le_refl _, Nat.le_refl _⟩
  case lastore => obtain ⟨x, i, ob, r, rfl, hh, e⟩ := oStL_i h; cases e; exact ⟨Nat.le_refl _, Nat.le_refl _⟩
  case newarray at_ =>
    obtain ⟨n, r, rfl, hh, e⟩ := oNewA_i h
    cases e
    exact ⟨Nat.le_succ _, Nat.le_add_right _ _⟩
  case new k =>
    obtain ⟨ci, hci, e⟩ := Option.map_eq_some_iff.mp h
    cases e
    exact ⟨Nat.le_succ _, Nat.le_add_right _ _⟩
  case multianewarray k dm =>
    unfold pS at h
    dsimp only at h
    split at h
    next hdm =>
      obtain ⟨t, ht, h2⟩ := Option.bind_eq_some_iff.mp h
      obtain ⟨kx, n, r, rfl, hh, e⟩ := oMna_i h2
      cases e
      obtain ⟨q1, q2, -⟩ := mkrows_spec (if t = 5 then 1 else 4) kx.toNatClampNeg n.toNatClampNeg (wrr (mkc σ t n.toNatClampNeg n.toNatClampNeg) (pnc σ) (fun i => if i < n.toNatClampNeg then some (pnc σ + 1 + i) else none))
      have z1 : pnc (wrr (mkc σ t n.toNatClampNeg n.toNatClampNeg) (pnc σ) (fun i => if i < n.toNatClampNeg then some (pnc σ + 1 + i) else none)) = pnc σ + 1 := rfl
      have z2 : pns (wrr (mkc σ t n.toNatClampNeg n.toNatClampNeg) (pnc σ) (fun i => if i < n.toNatClampNeg then some (pnc σ + 1 + i) else none)) = pns σ + n.toNatClampNeg := rfl
      rw [q1, q2, z1, z2]
      omega
    next => cases h
  case iconst n => cases h; exact ⟨Nat.le_refl _, Nat.le_refl _⟩
  case bipush n => cases h; exact ⟨Nat.le_refl _, Nat.le_refl _⟩
  case sipush n => cases h; exact ⟨Nat.le_refl _, Nat.le_refl _⟩
  case lconst n => cases h; exact ⟨Nat.le_refl _, Nat.le_refl _⟩
  case ldc_w k => obtain ⟨v, hv, e⟩ := Option.map_eq_some_iff.mp h; cases e; exact ⟨Nat.le_refl _, Nat.le_refl _⟩
  case ldc2_w k => obtain ⟨v, hv, e⟩ := Option.map_eq_some_iff.mp h; cases e; exact ⟨Nat.le_refl _, Nat.le_refl _⟩
  case getstatic k => obtain ⟨v, hv, e⟩ := Option.map_eq_some_iff.mp h; cases e; exact ⟨Nat.le_refl _, Nat.le_refl _⟩
  case goto k => obtain ⟨v, hv, e⟩ := Option.map_eq_some_iff.mp h; cases e; exact ⟨Nat.le_refl _, Nat.le_refl _⟩
  case getfield k => obtain ⟨ob, r, ci, f, rfl, hfl, ho, hp, hf, e⟩ := oGet_i h; cases e; exact ⟨Nat.le_refl _, Nat.le_refl _⟩
  case iadd => obtain ⟨x, y, r, rfl, e⟩ := oI2_i h; cases e; exact ⟨Nat.le_refl _, Nat.le_refl _⟩
  case isub => obtain ⟨x, y, r, rfl, e⟩ := oI2_i h; cases e; exact ⟨Nat.le_refl _, Nat.le_refl _⟩
  case imul => obtain ⟨x, y, r, rfl, e⟩ := oI2_i h; cases e; exact ⟨Nat.le_refl _, Nat.le_refl _⟩
  case iand => obtain ⟨x, y, r, rfl, e⟩ := oI2_i h; cases e; exact ⟨Nat.le_refl _, Nat.le_refl _⟩
  case ior => obtain ⟨x, y, r, rfl, e⟩ := oI2_i h; cases e; exact ⟨Nat.le_refl _, Nat.le_refl _⟩
  case ixor => obtain ⟨x, y, r, rfl, e⟩ := oI2_i h; cases e; exact ⟨Nat.le_refl _, Nat.le_refl _⟩
  case ishl => obtain ⟨x, y, r, rfl, e⟩ := oI2_i h; cases e; exact ⟨Nat.le_refl _, Nat.le_refl _⟩
  case ishr => obtain ⟨x, y, r, rfl, e⟩ := oI2_i h; cases e; exact ⟨Nat.le_refl _, Nat.le_refl _⟩
  case iushr => obtain ⟨x, y, r, rfl, e⟩ := oI2_i h; cases e; exact ⟨Nat.le_refl _, Nat.le_refl _⟩
  case idiv => obtain ⟨x, y, r, rfl, hne, e⟩ := oD2_i h; cases e; exact ⟨Nat.le_refl _, Nat.le_refl _⟩
  case irem => obtain ⟨x, y, r, rfl, hne, e⟩ := oD2_i h; cases e; exact ⟨Nat.le_refl _, Nat.le_refl _⟩
  case ineg => obtain ⟨x, r, rfl, e⟩ := oI1_i h; cases e; exact ⟨Nat.le_refl _, Nat.le_refl _⟩
  case i2b => obtain ⟨x, r, rfl, e⟩ := oI1_i h; cases e; exact ⟨Nat.le_refl _, Nat.le_refl _⟩
  case i2s => obtain ⟨x, r, rfl, e⟩ := oI1_i h; cases e; exact ⟨Nat.le_refl _, Nat.le_refl _⟩
  case ladd => obtain ⟨x, y, r, rfl, e⟩ := oL2_i h; cases e; exact ⟨Nat.le_refl _, Nat.le_refl _⟩
  case lsub => obtain ⟨x, y, r, rfl, e⟩ := oL2_i h; cases e; exact ⟨Nat.le_refl _, Nat.le_refl _⟩
  case lmul => obtain ⟨x, y, r, rfl, e⟩ := oL2_i h; cases e; exact ⟨Nat.le_refl _, Nat.le_refl _⟩
  case land => obtain ⟨x, y, r, rfl, e⟩ := oL2_i h; cases e; exact ⟨Nat.le_refl _, Nat.le_refl _⟩
  case lor => obtain ⟨x, y, r, rfl, e⟩ := oL2_i h; cases e; exact ⟨Nat.le_refl _, Nat.le_refl _⟩
  case ldiv => obtain ⟨x, y, r, rfl, hne, e⟩ := oE2_i h; cases e; exact ⟨Nat.le_refl _, Nat.le_refl _⟩
  case lrem => obtain ⟨x, y, r, rfl, hne, e⟩ := oE2_i h; cases e; exact ⟨Nat.le_refl _, Nat.le_refl _⟩
  case i2l =>
    unfold pS at h
    dsimp only at h
    split at h
    · cases h; exact ⟨Nat.le_refl _, Nat.le_refl _⟩
    · cases h
  case l2i =>
    unfold pS at h
    dsimp only at h
    split at h
    · cases h; exact ⟨Nat.le_refl _, Nat.le_refl _⟩
    · cases h
  case lcmp =>
    unfold pS at h
    dsimp only at h
    split at h
    · cases h; exact ⟨Nat.le_refl _, Nat.le_refl _⟩
    · cases h
  case lshl =>
    unfold pS at h
    dsimp only at h
    split at h
    · cases h; exact ⟨Nat.le_refl _, Nat.le_refl _⟩
    · cases h
  case dup =>
    unfold pS at h
    dsimp only at h
    split at h
    · split at h
      · cases h; exact ⟨Nat.le_refl _, Nat.le_refl _⟩
      · cases h
    · cases h
  case dup2 =>
    unfold pS at h
    dsimp only at h
    split at h
    · split at h
      · cases h; exact ⟨Nat.le_refl _, Nat.le_refl _⟩
      · cases h
    · cases h
  case pop =>
    unfold pS at h
    dsimp only at h
    split at h
    · split at h
      · cases h; exact ⟨Nat.le_refl _, Nat.le_refl _⟩
      · cases h
    · cases h
  case pop2 =>
    unfold pS at h
    dsimp only at h
    split at h
    · split at h
      · cases h; exact ⟨Nat.le_refl _, Nat.le_refl _⟩
      · cases h
    · cases h
  case ifCond cc off =>
    unfold pS at h
    dsimp only at h
    split at h
    · obtain ⟨v, hv, e⟩ := Option.map_eq_some_iff.mp h; cases e; exact ⟨Nat.le_refl _, Nat.le_refl _⟩
    · cases h
  case if_icmp cc off =>
    unfold pS at h
    dsimp only at h
    split at h
    · obtain ⟨v, hv, e⟩ := Option.map_eq_some_iff.mp h; cases e; exact ⟨Nat.le_refl _, Nat.le_refl _⟩
    · cases h
  case tableswitch dd lo hi offs =>
    unfold pS at h
    dsimp only at h
    split at h
    · split at h
      · obtain ⟨v, hv, e⟩ := Option.map_eq_some_iff.mp h; cases e; exact ⟨Nat.le_refl _, Nat.le_refl _⟩
      · obtain ⟨off, ho, h2⟩ := Option.bind_eq_some_iff.mp h
        obtain ⟨v, hv, e⟩ := Option.map_eq_some_iff.mp h2; cases e; exact ⟨Nat.le_refl _, Nat.le_refl _⟩
    · cases h
  case lookupswitch dd ps =>
    unfold pS at h
    dsimp only at h
    split at h
    · split at h
      · obtain ⟨v, hv, e⟩ := Option.map_eq_some_iff.mp h; cases e; exact ⟨Nat.le_refl _, Nat.le_refl _⟩
      · cases h
    · cases h
  case iaload => rcases oLdI_i h with ⟨i, ob, r, rfl, hh, e⟩ | ⟨i, ob, r, rfl, hh, e⟩ <;> (cases e; exact ⟨Nat.le_refl _, Nat.le_refl _⟩)
  case baload => rcases oLdI_i h with ⟨i, ob, r, rfl, hh, e⟩ | ⟨i, ob, r, rfl, hh, e⟩ <;> (cases e; exact ⟨Nat.le_refl _, Nat.le_refl _⟩)
  case saload => rcases oLdI_i h with ⟨i, ob, r, rfl, hh, e⟩ | ⟨i, ob, r, rfl, hh, e⟩ <;> (cases e; exact ⟨Nat.le_refl _, Nat.le_refl _⟩)
  case laload => obtain ⟨i, ob, r, rfl, hh, e⟩ := oLdL_i h; cases e; exact ⟨Nat.le_refl _, Nat.le_refl _⟩
  case aaload => obtain ⟨i, ob, r, j, rfl, hh, hj, e⟩ := oLdA_i h; cases e; exact ⟨Nat.le_refl _, Nat.le_refl _⟩
  case arraylength => rcases oLen_i h with ⟨ob, r, rfl, hh, e⟩ | ⟨ob, r, rfl, hh, e⟩ <;> (cases e; exact ⟨Nat.le_refl _, Nat.le_refl _⟩)
  all_goals (have h2 : (none : PO) = some (pc2, st2, σ2) := h; cases h2)
/-! ===== THE RUN ===== -/
theorem oCpy_i {st : List Value} {σ : PSt} {q : List Value × PSt} (h : oCpy st σ = some q) : ∃ n dp b sp a r, st = .int n :: .int dp :: .ref b :: .int sp :: .ref a :: r ∧ (a < pnc σ ∧ b < pnc σ ∧ (ply σ a).1 = (ply σ b).1 ∧ ¬ sp < 0 ∧ ¬ dp < 0 ∧ ¬ n < 0 ∧ sp.toNatClampNeg + n.toNatClampNeg ≤ (ply σ a).2 ∧ dp.toNatClampNeg + n.toNatClampNeg ≤ (ply σ b).2 ∧ catS r ≤ 8) ∧
    ((ply σ a).1 = 1 ∧ q = (r, riv σ b (va_cpy (piv σ a) (piv σ b) sp.toNatClampNeg dp.toNatClampNeg n.toNatClampNeg)) ∨ (ply σ a).1 = 4 ∧ q = (r, rlv σ b (va_cpy (plv σ a) (plv σ b) sp.toNatClampNeg dp.toNatClampNeg n.toNatClampNeg))) := by
  unfold oCpy at h
  split at h
  · split at h
    next hh =>
      split at h
      next h1 => cases h; exact ⟨_, _, _, _, _, _, rfl, hh, Or.inl ⟨h1, rfl⟩⟩
      next =>
        split at h
        next h4 => cases h; exact ⟨_, _, _, _, _, _, rfl, hh, Or.inr ⟨h4, rfl⟩⟩
        next => cases h
    next => cases h
  · cases h
def Goal9 (Λ : PRo) (d m pc : Nat) (L : PL) (st : List Value) (σ : PSt) (v : Option Value) (σ1 : PSt) : Prop :=
  (pnc σ ≤ pnc σ1 ∧ pns σ ≤ pns σ1) ∧ ∀ X : Ctx, CX Λ X → xm X = m → d ≤ (xR X).frames → 64 * d ≤ (xR X).locals → pnc σ1 ≤ xk X + (xR X).cells → pns σ1 ≤ xn X + (xR X).slots →
    (∀ (pc' : Nat) (L' : PL), decode (mB (xm X)) pc' = .ok (retI v, 1) → okRet (mR (xm X)) v = true → WS X pc' L' v.toList σ1) → WS X pc L st σ
set_option maxHeartbeats 4000000 in
theorem MT (Λ : PRo) : ∀ (n d m pc : Nat) (L : PL) (st : List Value) (σ : PSt) (v : Option Value) (σ1 : PSt), prun Λ n d m pc L st σ = some (v, σ1) → Goal9 Λ d m pc L st σ v σ1 := by
  intro n
  induction n with
  | zero => intro d m pc L st σ v σ1 h; cases h
  | succ n ih =>
    intro d m pc L st σ v σ1 h
    unfold prun at h
    split at h
    next => cases h
    next i len hd =>
    split at h
    next hlen =>
      split at h
      next v' hret =>
        split at h
        next hok =>
          cases h
          refine ⟨⟨Nat.le_refl _, Nat.le_refl _⟩, fun X C hm _ _ _ _ kr => ?_⟩
          obtain ⟨rfl, rfl, hl1⟩ := retOf_i hret
          obtain rfl := hl1 len hlen
          subst hm
          exact kr pc L hd hok
        next => cases h
      next hret =>
        split at h
        next k idx hcall =>
          obtain ⟨hi, hl3⟩ := callOf_i hcall
          obtain rfl := hl3 len hlen
          split at h
          next => cases h
          next d' =>
          split at h
          next y hca =>
            split at h
            next hkd =>
              split at h
              next as rest hpop =>
                split at h
                next hc =>
                  split at h
                  next v2 σ2 hcal =>
                    obtain ⟨⟨m1, m2⟩, W1⟩ := ih _ _ _ _ _ _ _ _ hcal
                    obtain ⟨⟨m3, m4⟩, W2⟩ := ih _ _ _ _ _ _ _ _ h
                    refine ⟨⟨Nat.le_trans m1 m3, Nat.le_trans m2 m4⟩, fun X C hm hf hlo hr1 hr2 kr => ?_⟩
                    subst hm
                    obtain ⟨bs, e1, e2, e3⟩ := popN_i hpop
                    rw [List.append_nil] at e1
                    subst e1
                    subst e3
                    exact ws_call C hd hi hca hkd e2 hc.1 hc.2.1 hc.2.2 hf hlo m1 m2 (by omega) (by omega) W1 (W2 X C rfl hf hlo hr1 hr2 kr)
                  next => cases h
                next => cases h
              next => cases h
            next => cases h
          next hca =>
            split at h
            next hoi =>
              split at h
              next o rest =>
                split at h
                next hcr =>
                  obtain ⟨⟨m3, m4⟩, W2⟩ := ih _ _ _ _ _ _ _ _ h
                  refine ⟨⟨m3, m4⟩, fun X C hm hf hlo hr1 hr2 kr => ?_⟩
                  subst hm
                  have hi2 : i = .invokespecial idx := by
                    rcases hi with ⟨q, -⟩ | ⟨-, q⟩ | ⟨q, -⟩
                    · omega
                    · exact q
                    · omega
                  rw [hi2] at hd
                  exact ws_oi C hd hoi.2 (by omega) (by omega) hcr (W2 X C rfl hf hlo hr1 hr2 kr)
                next => cases h
              next => cases h
            next =>
              split at h
              next hac =>
                split at h
                next rest τ hcp =>
                  obtain ⟨⟨m3, m4⟩, W2⟩ := ih _ _ _ _ _ _ _ _ h
                  have hi2 : i = .invokestatic idx := by
                    rcases hi with ⟨q, -⟩ | ⟨q, -⟩ | ⟨-, q⟩
                    · omega
                    · omega
                    · exact q
                  obtain ⟨n9, dp, b, sp, a, r, rfl, hh, hq⟩ := oCpy_i hcp
                  rcases hq with ⟨ht, hq⟩ | ⟨ht, hq⟩
                  · cases hq
                    refine ⟨⟨m3, m4⟩, fun X C hm hf hlo hr1 hr2 kr => ?_⟩
                    subst hm
                    rw [hi2] at hd
                    exact ws_cpyI C hd hac.2 (by omega) (by omega) hh.2.2.2.2.2.2.2.2 hh.1 hh.2.1 ht (hh.2.2.1 ▸ ht) hh.2.2.2.1 hh.2.2.2.2.1 hh.2.2.2.2.2.1 hh.2.2.2.2.2.2.1 hh.2.2.2.2.2.2.2.1 (W2 X C rfl hf hlo hr1 hr2 kr)
                  · cases hq
                    refine ⟨⟨m3, m4⟩, fun X C hm hf hlo hr1 hr2 kr => ?_⟩
                    subst hm
                    rw [hi2] at hd
                    exact ws_cpyL C hd hac.2 (by omega) (by omega) hh.2.2.2.2.2.2.2.2 hh.1 hh.2.1 ht (hh.2.2.1 ▸ ht) hh.2.2.2.1 hh.2.2.2.2.1 hh.2.2.2.2.2.1 hh.2.2.2.2.2.2.1 hh.2.2.2.2.2.2.2.1 (W2 X C rfl hf hlo hr1 hr2 kr)
                next => cases h
              next =>
                split at h
                next hk2 =>
                  split at h
                  next j hmm =>
                    split at h
                    next st1 hst =>
                      obtain ⟨⟨m3, m4⟩, W2⟩ := ih _ _ _ _ _ _ _ _ h
                      refine ⟨⟨m3, m4⟩, fun X C hm hf hlo hr1 hr2 kr => ?_⟩
                      subst hm
                      have hi2 : i = .invokestatic idx := by
                        rcases hi with ⟨q, -⟩ | ⟨q, -⟩ | ⟨-, q⟩
                        · omega
                        · omega
                        · exact q
                      rw [hi2] at hd
                      exact ws_mm C hd hmm hst (by omega) (by omega) (by omega) (by omega) (W2 X C rfl hf hlo hr1 hr2 kr)
                    next => cases h
                  next => cases h
                next => cases h
        next hcall =>
          split at h
          next pc2 st2 σ2 hps =>
            obtain ⟨⟨m3, m4⟩, W2⟩ := ih _ _ _ _ _ _ _ _ h
            obtain ⟨m1, m2⟩ := pS_mono hps
            refine ⟨⟨Nat.le_trans m1 m3, Nat.le_trans m2 m4⟩, fun X C hm hf hlo hr1 hr2 kr => ?_⟩
            subst hm
            exact ws_pS C hd hlen hps (by omega) (by omega) (W2 X C rfl hf hlo hr1 hr2 kr)
          next =>
            split at h
            next L2 st2 hpl =>
              obtain ⟨⟨m3, m4⟩, W2⟩ := ih _ _ _ _ _ _ _ _ h
              refine ⟨⟨m3, m4⟩, fun X C hm hf hlo hr1 hr2 kr => ?_⟩
              subst hm
              exact ws_pL C hd hlen hpl (W2 X C rfl hf hlo hr1 hr2 kr)
            next => cases h
    next => cases h
