/-! ===== the small machine: addresses by place, locals as a list; what changes no heap ===== -/
/-- a cell: the place of its class and its fields (below 90), something unread (98), an array of the kind (100 on) and its contents -/
abbrev zC : Type := Nat × List Value
def zTys : List FieldType := [.int, .byte, .boolean, .char, .array .int, .object "java/lang/Object", .object "OnecodeChancery$Article", .object "OnecodeChancery$Dispute", .object "OnecodeChancery$Faction", .object "OnecodeChancery$Rule"]
def zTy (k : Nat) : FieldType := zTys.getD (k - 100) .int
def zt (τ : Nat → Nat) : Value → Value
  | .ref i => .ref (τ i)
  | v => v
theorem zt_cat (τ : Nat → Nat) (v : Value) : (zt τ v).category = v.category := by cases v <;> rfl
def zlm (τ : Nat → Nat) (lv : List (Nat × Value)) : List (Nat × Value) := lv.map (fun q => (q.1, zt τ q.2))
def zld : List (Nat × Value) → Nat → Option Value
  | [], _ => none
  | q :: r, i => if q.1 = i then some q.2 else zld r i
theorem zld_mem : ∀ {lv : List (Nat × Value)} {i : Nat} {v : Value}, zld lv i = some v → (i, v) ∈ lv
  | [], _, _, h => by cases h
  | q :: r, i, v, h => by
    unfold zld at h
    split at h
    · rename_i e
      cases h
      rw [← e]
      exact List.mem_cons_self
    · exact List.mem_cons_of_mem _ (zld_mem h)
theorem zld_at {τ : Nat → Nat} {ls : Array Slot} {nL : Nat} {lv : List (Nat × Value)} {i : Nat} {v : Value} (hl : lv_has ls nL (zlm τ lv)) (h : zld lv i = some v) : ls[i]? = some (.val (zt τ v)) :=
  hl.2.2 (i, zt τ v) (List.mem_map.mpr ⟨(i, v), zld_mem h, rfl⟩)
def zs1 (lv : List (Nat × Value)) (i : Nat) (v : Value) : List (Nat × Value) := (i, v) :: lv.filter (fun q => !(q.1 == i) && !(q.1 + 1 == i && q.2.category == 2))
def zs2 (lv : List (Nat × Value)) (i : Nat) (v : Value) : List (Nat × Value) := (i, v) :: lv.filter (fun q => !(q.1 == i) && (!(q.1 == i + 1) && !(q.1 + 1 == i && q.2.category == 2)))
theorem zlm_filter (τ : Nat → Nat) (f : Nat → Nat → Bool) (lv : List (Nat × Value)) : (zlm τ lv).filter (fun q => f q.1 q.2.category) = zlm τ (lv.filter (fun q => f q.1 q.2.category)) := by
  unfold zlm
  rw [List.filter_map]
  congr 1
  apply List.filter_congr
  intro q _
  show f q.1 (zt τ q.2).category = _
  rw [zt_cat]
theorem zs1_eq (τ : Nat → Nat) (lv : List (Nat × Value)) (i : Nat) (v : Value) : (i, zt τ v) :: (zlm τ lv).filter (fun q => !(q.1 == i) && !(q.1 + 1 == i && q.2.category == 2)) = zlm τ (zs1 lv i v) := by
  unfold zs1
  rw [zlm_filter τ (fun a b => !(a == i) && !(a + 1 == i && b == 2))]
  rfl
theorem zs2_eq (τ : Nat → Nat) (lv : List (Nat × Value)) (i : Nat) (v : Value) : (i, zt τ v) :: (zlm τ lv).filter (fun q => !(q.1 == i) && (!(q.1 == i + 1) && !(q.1 + 1 == i && q.2.category == 2))) = zlm τ (zs2 lv i v) := by
  unfold zs2
  rw [zlm_filter τ (fun a b => !(a == i) && (!(a == i + 1) && !(a + 1 == i && b == 2)))]
  rfl
abbrev zO : Type := Option (Nat × List (Nat × Value) × List Value)
section zPure
variable (pc : Nat) (lv : List (Nat × Value)) (st : List Value)
def z1 (f : Int32 → Value) : zO := match st with
  | .int x :: r => some (pc + 1, lv, f x :: r)
  | _ => none
def z2 (f : Int32 → Int32 → Value) : zO := match st with
  | .int y :: .int x :: r => some (pc + 1, lv, f x y :: r)
  | _ => none
def zl1 (f : Int64 → Value) : zO := match st with
  | .long x :: r => some (pc + 1, lv, f x :: r)
  | _ => none
def zl2 (f : Int64 → Int64 → Value) : zO := match st with
  | .long y :: .long x :: r => some (pc + 1, lv, f x y :: r)
  | _ => none
def zd1 (f : UInt64 → Value) : zO := match st with
  | .double x :: r => some (pc + 1, lv, f x :: r)
  | _ => none
def zd2 (f : UInt64 → UInt64 → Value) : zO := match st with
  | .double y :: .double x :: r => some (pc + 1, lv, f x y :: r)
  | _ => none
def zLI (n i : Nat) : zO := match zld lv i with
  | some (.int x) => some (pc + n, lv, .int x :: st)
  | _ => none
def zLL (n i : Nat) : zO := match zld lv i with
  | some (.long x) => some (pc + n, lv, .long x :: st)
  | _ => none
def zLD (n i : Nat) : zO := match zld lv i with
  | some (.double x) => some (pc + n, lv, .double x :: st)
  | _ => none
def zLA (n i : Nat) : zO := match zld lv i with
  | some (.ref x) => some (pc + n, lv, .ref x :: st)
  | some .null => some (pc + n, lv, .null :: st)
  | _ => none
def zSI (nL n i : Nat) : zO := match st with
  | .int x :: r => if i < nL then some (pc + n, zs1 lv i (.int x), r) else none
  | _ => none
def zSL (nL n i : Nat) : zO := match st with
  | .long x :: r => if i + 1 < nL then some (pc + n, zs2 lv i (.long x), r) else none
  | _ => none
def zSD (nL n i : Nat) : zO := match st with
  | .double x :: r => if i + 1 < nL then some (pc + n, zs2 lv i (.double x), r) else none
  | _ => none
def zSA (nL n i : Nat) : zO := match st with
  | .ref x :: r => if i < nL then some (pc + n, zs1 lv i (.ref x), r) else none
  | .null :: r => if i < nL then some (pc + n, zs1 lv i .null, r) else none
  | _ => none
def zb1 (f : Int32 → Bool) (off : Int) : zO := match st with
  | .int x :: r => if 0 ≤ (pc : Int) + off then some (if f x = true then ((pc : Int) + off).toNat else pc + 3, lv, r) else none
  | _ => none
def zb2 (f : Int32 → Int32 → Bool) (off : Int) : zO := match st with
  | .int y :: .int x :: r => if 0 ≤ (pc : Int) + off then some (if f x y = true then ((pc : Int) + off).toNat else pc + 3, lv, r) else none
  | _ => none
def zgo (off : Int) : zO := if 0 ≤ (pc : Int) + off then some (((pc : Int) + off).toNat, lv, st) else none
def zsw (dflt lo hi : Int) (offs : Array Int) : zO := match st with
  | .int x :: r => if x.toInt < lo ∨ hi < x.toInt then zgo pc lv r dflt else match offs[(x.toInt - lo).toNat]? with
    | some off => zgo pc lv r off
    | none => none
  | _ => none
def zinc (nL i : Nat) (n : Int) : zO := match zld lv i with
  | some (.int x) => if i < nL then some (pc + 3, zs1 lv i (.int (x + Int32.ofInt n)), st) else none
  | _ => none
def zdup : zO := match st with
  | v :: r => if v.category = 1 then some (pc + 1, lv, v :: v :: r) else none
  | _ => none
def zpop : zO := match st with
  | v :: r => if v.category = 1 then some (pc + 1, lv, r) else none
  | _ => none
def zdupx1 : zO := match st with
  | v :: w :: r => if v.category = 1 ∧ w.category = 1 then some (pc + 1, lv, v :: w :: v :: r) else none
  | _ => none
def zdup2 : zO := match st with
  | v :: r => if v.category = 2 then some (pc + 1, lv, v :: v :: r) else match r with
    | w :: r2 => if v.category = 1 ∧ w.category = 1 then some (pc + 1, lv, v :: w :: v :: w :: r2) else none
    | _ => none
  | _ => none
def zpop2 : zO := match st with
  | v :: r => if v.category = 2 then some (pc + 1, lv, r) else match r with
    | w :: r2 => if v.category = 1 ∧ w.category = 1 then some (pc + 1, lv, r2) else none
    | _ => none
  | _ => none
end zPure
/-- the length of an instruction; 0: any -/
def zLen : Instr → Nat
  | .tableswitch _ _ _ _ => 0
  | .bipush _ => 2
  | .iload _ => 2
  | .lload _ => 2
  | .dload _ => 2
  | .aload _ => 2
  | .istore _ => 2
  | .lstore _ => 2
  | .dstore _ => 2
  | .astore _ => 2
  | .ldc _ => 2
  | .newarray _ => 2
  | .sipush _ => 3
  | .ldc_w _ => 3
  | .ldc2_w _ => 3
  | .iinc _ _ => 3
  | .goto _ => 3
  | .ifCond _ _ => 3
  | .if_icmp _ _ => 3
  | .if_acmp _ _ => 3
  | .ifnull _ => 3
  | .ifnonnull _ => 3
  | .getfield _ => 3
  | .putfield _ => 3
  | .getstatic _ => 3
  | .invokevirtual _ => 3
  | .invokespecial _ => 3
  | .invokestatic _ => 3
  | .new _ => 3
  | .anewarray _ => 3
  | .checkcast _ => 3
  | .multianewarray _ _ => 4
  | .invokeinterface _ _ => 5
  | _ => 1
/-- an instruction that neither reads nor writes the heap -/
def zP (nL : Nat) (i : Instr) (pc : Nat) (lv : List (Nat × Value)) (st : List Value) : zO := match i with
  | .iconst n => some (pc + 1, lv, .int (Int32.ofInt n) :: st)
  | .bipush n => some (pc + 2, lv, .int (Int8.ofInt n).toInt32 :: st)
  | .sipush n => some (pc + 3, lv, .int (Int16.ofInt n).toInt32 :: st)
  | .lconst n => some (pc + 1, lv, .long (Int64.ofNat (n : Nat)) :: st)
  | .dconst n => if n = 1 then some (pc + 1, lv, .double FP.dconst1 :: st) else none
  | .aconst_null => some (pc + 1, lv, .null :: st)
  | .iload_n k => zLI pc lv st 1 (k : Nat)
  | .iload k => zLI pc lv st 2 k
  | .lload_n k => zLL pc lv st 1 (k : Nat)
  | .lload k => zLL pc lv st 2 k
  | .dload_n k => zLD pc lv st 1 (k : Nat)
  | .dload k => zLD pc lv st 2 k
  | .aload_n k => zLA pc lv st 1 (k : Nat)
  | .aload k => zLA pc lv st 2 k
  | .istore_n k => zSI pc lv st nL 1 (k : Nat)
  | .istore k => zSI pc lv st nL 2 k
  | .lstore_n k => zSL pc lv st nL 1 (k : Nat)
  | .lstore k => zSL pc lv st nL 2 k
  | .dstore_n k => zSD pc lv st nL 1 (k : Nat)
  | .dstore k => zSD pc lv st nL 2 k
  | .astore_n k => zSA pc lv st nL 1 (k : Nat)
  | .astore k => zSA pc lv st nL 2 k
  | .iinc k n => zinc pc lv st nL k n
  | .iadd => z2 pc lv st (fun x y => .int (x + y))
  | .isub => z2 pc lv st (fun x y => .int (x - y))
  | .imul => z2 pc lv st (fun x y => .int (x * y))
  | .iand => z2 pc lv st (fun x y => .int (x &&& y))
  | .ior => z2 pc lv st (fun x y => .int (x ||| y))
  | .ixor => z2 pc lv st (fun x y => .int (x ^^^ y))
  | .ishl => z2 pc lv st (fun x y => .int (x <<< (y &&& 31)))
  | .ishr => z2 pc lv st (fun x y => .int (x >>> (y &&& 31)))
  | .iushr => z2 pc lv st (fun x y => .int (x.toUInt32 >>> (y.toUInt32 &&& Int32.toUInt32 31)).toInt32)
  | .idiv => match st with
    | .int y :: _ => if y = 0 then none else z2 pc lv st (fun x y => .int (x / y))
    | _ => none
  | .irem => match st with
    | .int y :: _ => if y = 0 then none else z2 pc lv st (fun x y => .int (x - x / y * y))
    | _ => none
  | .ineg => z1 pc lv st (fun x => .int (-x))
  | .i2l => z1 pc lv st (fun x => .long x.toInt64)
  | .i2b => z1 pc lv st (fun x => .int x.toInt8.toInt32)
  | .i2c => z1 pc lv st (fun x => .int (x.toUInt32 % 65536).toInt32)
  | .i2d => z1 pc lv st (fun x => .double (FP.i2d x))
  | .ladd => zl2 pc lv st (fun x y => .long (x + y))
  | .lmul => zl2 pc lv st (fun x y => .long (x * y))
  | .lcmp => zl2 pc lv st (fun x y => .int (lg_cmp x y))
  | .d2l => zd1 pc lv st (fun x => .long (FP.d2l x))
  | .dcmp op => zd2 pc lv st (fun x y => .int (Op.cmpValue (FP.dcmp x y) op))
  | .ifCond .eq off => zb1 pc lv st (fun x => decide (x = 0)) off
  | .ifCond .ne off => zb1 pc lv st (fun x => decide (¬ x = 0)) off
  | .ifCond .lt off => zb1 pc lv st (fun x => decide (x < 0)) off
  | .ifCond .ge off => zb1 pc lv st (fun x => decide (0 ≤ x)) off
  | .ifCond .gt off => zb1 pc lv st (fun x => decide (0 < x)) off
  | .ifCond .le off => zb1 pc lv st (fun x => decide (x ≤ 0)) off
  | .if_icmp .eq off => zb2 pc lv st (fun x y => decide (x = y)) off
  | .if_icmp .ne off => zb2 pc lv st (fun x y => decide (¬ x = y)) off
  | .if_icmp .lt off => zb2 pc lv st (fun x y => decide (x < y)) off
  | .if_icmp .ge off => zb2 pc lv st (fun x y => decide (y ≤ x)) off
  | .if_icmp .gt off => zb2 pc lv st (fun x y => decide (y < x)) off
  | .if_icmp .le off => zb2 pc lv st (fun x y => decide (x ≤ y)) off
  | .goto off => zgo pc lv st off
  | .tableswitch d lo hi offs => zsw pc lv st d lo hi offs
  | .dup => zdup pc lv st
  | .pop => zpop pc lv st
  | .dup_x1 => zdupx1 pc lv st
  | .dup2 => zdup2 pc lv st
  | .pop2 => zpop2 pc lv st
  | _ => none
