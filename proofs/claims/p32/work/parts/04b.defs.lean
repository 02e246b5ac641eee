/-! ===== the small machine: the words that its rows need, and what is checked of them ===== -/
/-- the first places are cells of the start (read, never written) -/
def zro : Nat := 16
def zCM : Nat := 600000
def zSM : Nat := 7300000
def zF (a k : Nat) : String × String × String × Bool := match vwCl[a]? with
  | some r => r.2.1 k
  | none => ("", "", "", false)
def zNm (a : Nat) : String := match vwCl[a]? with
  | some r => r.1
  | none => ""
def zLw : String := "OnecodeChanceryLaw"
/-- the words that such an instruction needs -/
def zNg (own : String) (i : Instr) (a b : Nat) : List Cond := match i with
  | .getfield x => if b < 1000 then [.fieldLink own x (zF a b).1 (zF a b).2.1 (zF a b).2.2.1] else [.fieldLinkNest own x (zF a (b % 1000)).1 (zF a (b % 1000)).2.1 (zF a (b % 1000)).2.2.1 zLw]
  | .putfield x => if b < 1000 then [.fieldLink own x (zF a b).1 (zF a b).2.1 (zF a b).2.2.1] else [.fieldLinkNest own x (zF a (b % 1000)).1 (zF a (b % 1000)).2.1 (zF a (b % 1000)).2.2.1 zLw]
  | .checkcast x => [.classLink own x (zNm a)]
  | _ => []
def zCn (a : Nat) : Nat := match vwCl[a]? with
  | some r => r.2.2
  | none => 0
def zOb (a : Nat) : String := match zTy a with
  | .object C => C
  | _ => ""
def zNk (own : String) (i : Instr) (a : Nat) : List Cond := match i with
  | .new x => [.classLink own x (zNm a), .instantiable (zNm a) (zCn a), .initialized (zNm a)]
  | .newarray t => [.arrayClass (newarray.typeOf t)]
  | .anewarray x => [.classLink own x (zOb a), .arrayOver (.object (zOb a))]
  | .multianewarray x _ => [.classLink own x "[[I", .arrayOver (.array .int), .arrayClass .int]
  | _ => []
/-- a method: name, bytes, locals, what it returns, its table (from, to, target, class entry, the exception's number), how many parameters (this counted) -/
abbrev zI : Type := MethodName × ByteArray × Nat × Option FieldType × List (Nat × Nat × Nat × Nat × Nat) × Nat
abbrev zYn (x : zI) : MethodName := x.1
abbrev zBy (x : zI) : ByteArray := x.2.1
abbrev zMl (x : zI) : Nat := x.2.2.1
abbrev zRe (x : zI) : Option FieldType := x.2.2.2.1
abbrev zTb (x : zI) : List (Nat × Nat × Nat × Nat × Nat) := x.2.2.2.2.1
abbrev zNp (x : zI) : Nat := x.2.2.2.2.2
def zHh (x : zI) : List (Nat × Nat × Nat × Nat) := (zTb x).map (fun r => (r.1, r.2.1, r.2.2.1, r.2.2.2.1))
def zEx : Nat → String
  | 0 => "java/lang/IndexOutOfBoundsException"
  | 1 => "java/lang/IllegalArgumentException"
  | _ => "java/lang/IllegalStateException"
abbrev zRow : Type := Nat → Nat → Option (Instr × Nat × Nat)
/-- 0 pure, 1 heap, 2 makes, 3 call, 4 return, 5 throws, 6 Object's constructor, 7 constant -/
def zKd (i : Instr) (a b : Nat) : Nat := match i with
  | .getfield _ => 1
  | .putfield _ => 1
  | .arraylength => 1
  | .iaload => 1
  | .baload => 1
  | .aaload => 1
  | .iastore => 1
  | .bastore => 1
  | .aastore => 1
  | .checkcast _ => 1
  | .new _ => if a < 1000 then 2 else 5
  | .newarray _ => 2
  | .anewarray _ => 2
  | .multianewarray _ _ => 2
  | .invokestatic _ => 3
  | .invokevirtual _ => 3
  | .invokespecial _ => if b = 6 then 6 else 3
  | .invokeinterface _ _ => 3
  | .ireturn => 4
  | .lreturn => 4
  | .dreturn => 4
  | .areturn => 4
  | .return_ => 4
  | .ldc _ => 7
  | .ldc_w _ => 7
  | .ldc2_w _ => 7
  | .getstatic _ => 7
  | _ => 0
def zxw : Cond → Bool
  | .fieldLinkNest _ _ _ _ _ _ => true
  | .methodLinkNest _ _ _ _ => true
  | .castable _ _ => true
  | .arrayOver _ => true
  | .declares _ => true
  | .publicMethod _ => true
  | .privateMethod _ => true
  | .unhidden _ _ _ => true
  | _ => false
def zCh : String := "OnecodeChancery"
def zLi (n d : String) : MethodName := ⟨"java/util/List", n, d⟩
def zAr (n d : String) : MethodName := ⟨"java/util/ArrayList", n, d⟩
def zIm : List (String × String) := [("size", "()I"), ("add", "(Ljava/lang/Object;)Z"), ("get", "(I)Ljava/lang/Object;"), ("set", "(ILjava/lang/Object;)Ljava/lang/Object;")]
def zCw (x : zI) : Cond := if (zTb x).isEmpty then .code (zYn x) (zBy x) (zMl x) (zRe x) else .codeWith (zYn x) (zBy x) (zMl x) (zRe x) (zHh x)
def zWd (w : Cond) : Prop := w ∈ zT ∨ (w ∈ lw_tbl ∧ zxw w = true)
def zHost (own : String) : String := if own = zLw then zLw else if own = "OnecodeChanceryModel" ∨ own = "OnecodeChanceryModel$Rule" ∨ own = "OnecodeChanceryModel$Article" ∨ own = "OnecodeChanceryModel$Case" then "OnecodeChanceryModel" else zCh
def zNc (zi : Nat → zI) (j : Nat) (i : Instr) (a b : Nat) : List Cond := match i with
  | .invokestatic x => [zCw (zi a), .initialized (zYn (zi a)).cls, .static (zYn (zi a)), if b % 10 = 1 then .methodLinkNest (zYn (zi j)).cls x (zYn (zi a)) (zHost (zYn (zi j)).cls) else .methodLink (zYn (zi j)).cls x (zYn (zi a))]
  | .invokevirtual x => [zCw (zi a), .initialized (zYn (zi a)).cls, .instanceMethod (zYn (zi a)), .selects (zNm (b / 10 - 1)) (zYn (zi a)) (zYn (zi a)), .methodLink (zYn (zi j)).cls x (zYn (zi a))]
  | .invokespecial x => [zCw (zi a), .initialized (zYn (zi a)).cls, .instanceMethod (zYn (zi a)), if b % 10 = 1 then .methodLinkNest (zYn (zi j)).cls x (zYn (zi a)) (zHost (zYn (zi j)).cls) else .methodLink (zYn (zi j)).cls x (zYn (zi a))]
  | .invokeinterface x _ => [zCw (zi a), .initialized "java/util/ArrayList", .instanceMethod (zYn (zi a)), .selects "java/util/ArrayList" (zLi (zYn (zi a)).name (zYn (zi a)).desc) (zYn (zi a)), .methodLink (zYn (zi j)).cls x (zLi (zYn (zi a)).name (zYn (zi a)).desc)]
  | _ => []
def zNo7 (own : String) (i : Instr) (a b : Nat) : List Cond := match i with
  | .ldc x => if b = 0 then [.constant own x (Int32.ofNat a)] else []
  | .ldc_w x => if b = 0 then [.constant own x (Int32.ofNat a)] else []
  | .ldc2_w x => if b = 1 then [.constantLong own x (Int64.ofNat a)] else if b = 2 then [.constantDouble own x (UInt64.ofNat a)] else []
  | _ => []
def zNd (zi : Nat → zI) (j : Nat) (i : Instr) (a b : Nat) : List Cond := match zKd i a b with
  | 1 => zNg (zYn (zi j)).cls i a b
  | 2 => zNk (zYn (zi j)).cls i a
  | 3 => zNc zi j i a b
  | 6 => match i with
    | .invokespecial x => [.methodLink (zYn (zi j)).cls x objectInit]
    | _ => []
  | 7 => zNo7 (zYn (zi j)).cls i a b
  | _ => []
def zNoHb (C : String) : Bool := decide (C ≠ "java/lang/invoke/MethodHandle") && decide (C ≠ "java/lang/invoke/VarHandle")
def zParb (x : zI) (n : Nat) : Bool := decide ((parseMethodDescriptor (zYn x).desc).map (fun d => d.parameters.length) = some n)
def zShp6 (i : Instr) : Bool := match i with
  | .invokespecial _ => true
  | _ => false
def zShp7 (i : Instr) (b : Nat) : Bool := match i with
  | .ldc _ => b == 0
  | .ldc_w _ => b == 0
  | .ldc2_w _ => b == 1 || b == 2
  | _ => false
/-- what is not a word -/
def zShp (zi : Nat → zI) (j : Nat) (i : Instr) (a b : Nat) : Bool := match zKd i a b with
  | 0 => true
  | 1 => match i with
    | .putfield _ => !(zF a (b % 1000)).2.2.2 || (decide ((zYn (zi j)).name = "<init>") && decide ((zF a (b % 1000)).1 = (zYn (zi j)).cls) && decide (b < 1000))
    | _ => true
  | 2 => true
  | 3 => zNoHb (zYn (zi a)).cls && match i with
    | .invokestatic _ => zParb (zi a) (zNp (zi a)) && ((b % 10 == 2) == !(zTb (zi a)).isEmpty)
    | .invokevirtual _ => decide (b / 10 ≠ 0) && (zTb (zi a)).isEmpty && zParb (zi a) (zNp (zi a) - 1) && decide (0 < zNp (zi a))
    | .invokespecial _ => decide (b / 10 ≠ 0) && (zTb (zi a)).isEmpty && zParb (zi a) (zNp (zi a) - 1) && decide (0 < zNp (zi a)) && decide ((zYn (zi a)).name = "<init>") && (zRe (zi a)).isNone
    | .invokeinterface _ _ => decide (b / 10 = 3) && (zTb (zi a)).isEmpty && zParb (zi a) (zNp (zi a) - 1) && decide (0 < zNp (zi a)) && decide ((zYn (zi a)).cls = "java/util/ArrayList") && decide (((zYn (zi a)).name, (zYn (zi a)).desc) ∈ zIm)
    | _ => false
  | 4 => true
  | 6 => zShp6 i
  | 7 => zShp7 i b
  | _ => false
def zDcd (bytes : ByteArray) (pc : Nat) (i : Instr) : Bool := match decode bytes pc with
  | .ok (i2, n) => decide (i2 = i) && (zLen i == 0 || n == zLen i)
  | .error _ => false
