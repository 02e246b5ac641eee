/-! ===== the small machine: what else its methods do (the kind 8) ===== -/
abbrev zOx : Type := Option (List (Nat × List Value × List zC × Nat))
/-- n values of f from place sp on, laid into g from place dp on -/
def zCpy (f g : List Value) (sp dp n : Nat) : List Value := (List.range g.length).map (fun k => if dp ≤ k ∧ k < dp + n then f.getD (sp + (k - dp)) .null else g.getD k .null)
theorem zCpy_len (f g : List Value) (sp dp n : Nat) : (zCpy f g sp dp n).length = g.length := by simp [zCpy]
theorem zCpy_get {f g : List Value} {sp dp n k : Nat} (hk : k < g.length) : (zCpy f g sp dp n).getD k .null = if dp ≤ k ∧ k < dp + n then f.getD (sp + (k - dp)) .null else g.getD k .null := by
  unfold zCpy
  rw [List.getD_eq_getElem?_getD, List.getElem?_map, List.getElem?_range hk]
  rfl
/-- a value that a row of the kind kd takes over -/
def zTk (h : List zC) (kd : Nat) (v : Value) : Bool := match v with
  | .int x => kd == 101 && (decide (-128 ≤ x) && decide (x ≤ 127))
  | .null => kd == 105
  | .ref y => kd == 105 && (match h[y]? with
    | some c => decide (c.1 < 90)
    | none => false)
  | _ => false
def zArc (pc : Nat) (st : List Value) (h : List zC) (u : Nat) : zOx := match st with
  | .int n :: .int dp :: .ref d :: .int sp :: .ref q :: r => match h[q]?, h[d]? with
    | some cs, some cd => if zro ≤ d ∧ ¬ sp < 0 ∧ ¬ dp < 0 ∧ ¬ n < 0 ∧ sp.toNatClampNeg + n.toNatClampNeg ≤ cs.2.length ∧ dp.toNatClampNeg + n.toNatClampNeg ≤ cd.2.length ∧ ((cd.1 = 101 ∧ (cs.1 = 101 ∨ cs.1 = 95)) ∨ (cd.1 = 105 ∧ cs.1 = 105)) ∧ (List.range n.toNatClampNeg).all (fun i => zTk h cd.1 (cs.2.getD (sp.toNatClampNeg + i) .null)) = true ∧ (r.map (fun v => v.category)).sum ≤ 8 then
        some [(pc + 3, r, h.set d (cd.1, zCpy cs.2 cd.2 sp.toNatClampNeg dp.toNatClampNeg n.toNatClampNeg), u)] else none
    | _, _ => none
  | _ => none
def zIsI (v : Value) : Bool := match v with
  | .int x => decide (-128 ≤ x) && decide (x ≤ 127)
  | _ => false
def zCln (pc : Nat) (st : List Value) (h : List zC) (u : Nat) : zOx := match st with
  | .ref q :: r => match h[q]? with
    | some cq => if cq.1 = 101 ∧ h.length + 1 ≤ zCM ∧ u + cq.2.length ≤ zSN ∧ cq.2.all zIsI = true ∧ (r.map (fun v => v.category)).sum ≤ 8 then some [(pc + 3, .ref h.length :: r, h ++ [(101, cq.2)], u + cq.2.length)] else none
    | none => none
  | _ => none
def zGcl (pc : Nat) (st : List Value) (h : List zC) (u : Nat) : zOx := match st with
  | .ref q :: r => match h[q]? with
    | some cq => if cq.1 = 105 ∧ (r.map (fun v => v.category)).sum ≤ 8 then some [(pc + 3, .ref 7 :: r, h, u)] else none
    | none => none
  | _ => none
def zCka (a pc : Nat) (st : List Value) (h : List zC) (u : Nat) : zOx := match st with
  | .ref q :: r => match h[q]? with
    | some cq => if cq.1 = a ∧ (a = 101 ∨ a = 105) then some [(pc + 3, .ref q :: r, h, u)] else none
    | none => none
  | _ => none
def zJmp (pc : Nat) (off : Int) (r : List Value) (h : List zC) (u : Nat) : zOx := if 0 ≤ (pc : Int) + off then some [(((pc : Int) + off).toNat, r, h, u)] else none
def zIfn (y : Bool) (pc : Nat) (off : Int) (st : List Value) (h : List zC) (u : Nat) : zOx := match st with
  | .null :: r => if y = true then zJmp pc off r h u else some [(pc + 3, r, h, u)]
  | .ref _ :: r => if y = true then some [(pc + 3, r, h, u)] else zJmp pc off r h u
  | _ => none
def zAcm (y : Bool) (pc : Nat) (off : Int) (st : List Value) (h : List zC) (u : Nat) : zOx := match st with
  | .ref b :: .ref a :: r => if a = b then (if y = true then zJmp pc off r h u else some [(pc + 3, r, h, u)]) else if (zro ≤ a ∨ zro ≤ b) ∧ zfr a ∧ zfr b then (if y = true then some [(pc + 3, r, h, u)] else zJmp pc off r h u) else none
  | _ => none
def zNan (r : UInt64) : Bool := decide (r &&& 0x7fffffffffffffff ≤ 0x7ff0000000000000)
def zDb (f : UInt64 → UInt64 → UInt64) (pc : Nat) (st : List Value) (h : List zC) (u : Nat) : zOx := match st with
  | .double y :: .double x :: r => if zNan (f x y) = true then some [(pc + 1, .double (f x y) :: r, h, u)] else none
  | _ => none
def zOh1 (o : zOh) (u : Nat) : zOx := match o with
  | some (pc', st', h') => some [(pc', st', h', u)]
  | none => none
def zX (i : Instr) (a pc : Nat) (st : List Value) (h : List zC) (u : Nat) : zOx := match i with
  | .ifnull off => zIfn true pc off st h u
  | .ifnonnull off => zIfn false pc off st h u
  | .if_acmp .eq off => zAcm true pc off st h u
  | .if_acmp .ne off => zAcm false pc off st h u
  | .dmul => zDb FP.dmul pc st h u
  | .ddiv => zDb FP.ddiv pc st h u
  | .getstatic _ => some [(pc + 3, .null :: st, h, u), (pc + 3, .ref 3 :: st, h, u)]
  | .getfield _ => zOh1 (zGet 2 0 pc st h) u
  | .putfield _ => zOh1 (zPut 2 0 pc st h) u
  | .checkcast _ => zCka a pc st h u
  | .invokestatic _ => zArc pc st h u
  | .invokevirtual _ => if a = 1 then zCln pc st h u else zGcl pc st h u
  | _ => none
abbrev zGcN : MethodName := ⟨"java/lang/Object", "getClass", "()Ljava/lang/Class;"⟩
abbrev zClN : MethodName := ⟨"java/lang/Object", "clone", "()Ljava/lang/Object;"⟩
/-- the words that such an instruction needs -/
def zNx (own : String) (i : Instr) (a : Nat) : List Cond := match i with
  | .getstatic x => [.fieldLink own x "jdk/internal/util/Preconditions" "SIOOBE_FORMATTER" "Ljava/util/function/BiFunction;"]
  | .getfield x => [.fieldLink own x "java/util/ArrayList" "modCount" "I", .sameField "java/util/ArrayList" "java/util/AbstractList" "modCount" "I"]
  | .putfield x => [.fieldLink own x "java/util/ArrayList" "modCount" "I", .sameField "java/util/ArrayList" "java/util/AbstractList" "modCount" "I"]
  | .checkcast x => [.classLink own x (if a = 101 then "[B" else "[Ljava/lang/Object;")]
  | .invokestatic x => [.methodLink own x arraycopyName, .native arraycopyName, .static arraycopyName, .initialized "java/lang/System"]
  | .invokevirtual x => if a = 1 then [.methodLink own x ⟨"[B", "clone", "()Ljava/lang/Object;"⟩, .sameMethod "[B" "java/lang/Object" "clone" "()Ljava/lang/Object;", .native zClN, .instanceMethod zClN, .selects "[B" ⟨"[B", "clone", "()Ljava/lang/Object;"⟩ zClN, .castable "[B" "java/lang/Cloneable"]
    else [.methodLink own x zGcN, .declares zGcN, .selects "[Ljava/lang/Object;" zGcN zGcN, .instanceMethod zGcN, .native zGcN]
  | _ => []
/-- the statics, the constants and the class that the run reads, and never writes -/
def zSta (base : Nat) (τ : Nat → Nat) (U : State) (H : Heap) : Prop :=
  va_Z "java/lang/String" "COMPACT_STRINGS" "Z" (.int 1) (fun q => base ≤ q) U H ∧ (∃ v : Value, (v = .null ∨ v = .ref (τ 3)) ∧ va_Z "jdk/internal/util/Preconditions" "SIOOBE_FORMATTER" "Ljava/util/function/BiFunction;" v (fun q => base ≤ q) U H) ∧
  va_Z "java/util/ArrayList" "DEFAULTCAPACITY_EMPTY_ELEMENTDATA" "[Ljava/lang/Object;" (.ref (τ 4)) (fun q => base ≤ q) U H ∧ va_Z "java/lang/Integer" "DigitTens" "[B" (.ref (τ 5)) (fun q => base ≤ q) U H ∧ va_Z "java/lang/Integer" "DigitOnes" "[B" (.ref (τ 6)) (fun q => base ≤ q) U H ∧
  va_Mi "[Ljava/lang/Object;" (τ 7) U ∧ vk_R "OnecodeChanceryModel" 34 "" (τ 1) U
theorem zSta.moved {base : Nat} {τ : Nat → Nat} {s U : State} {H : Heap} (hW : s.WarmedH U.vm) (h : zSta base τ s H) : zSta base τ U H := by
  obtain ⟨h1, ⟨v, hv, h2⟩, h3, h4, h5, h6, h7⟩ := h
  exact ⟨h1.moved hW.alike, ⟨v, hv, h2.moved hW.alike⟩, h3.moved hW.alike, h4.moved hW.alike, h5.moved hW.alike, h6.moved hW.alike, h7.warm hW⟩
theorem zSta.kept {base : Nat} {τ : Nat → Nat} {s : State} {H H1 : Heap} (h : zSta base τ s H) (hq : ∀ a : Nat, a < H.size → ¬ base ≤ a → H1[a]? = H[a]?) : zSta base τ s H1 := by
  obtain ⟨h1, ⟨v, hv, h2⟩, h3, h4, h5, h6, h7⟩ := h
  exact ⟨h1.kept hq, ⟨v, hv, h2.kept hq⟩, h3.kept hq, h4.kept hq, h5.kept hq, h6, h7⟩
section zXs
variable {p : Program} {l : Launch} {e : Env} {R : Room} {s : State} {m : MethodId} {args : Array Value} {below : List Frame} {meth : Method} {c : Code} {H : Heap} {locs : List Loc} {cells slots : Nat} {Q : State → Prop}
variable {cc : ByteArray} {D : va_G} {base : Nat} {τ : Nat → Nat} {own : String} {pc a u u0 : Nat} {st : List Value} {ls : Array Slot} {h : List zC} {os : List (Nat × List Value × List zC × Nat)}
def zKx (p : Program) (l : Launch) (e : Env) (R : Room) (s : State) (m : MethodId) (args : Array Value) (below : List Frame) (meth : Method) (c : Code) (Q : State → Prop) (D : va_G) (base : Nat) (τ : Nat → Nat) (u0 : Nat) (ls : Array Slot) (o : Nat × List Value × List zC × Nat) : Prop :=
  ∀ (H1 : Heap) (locs1 : List Loc) (cells1 slots1 : Nat), zInv D base τ s o.2.2.1 o.2.2.2 H1 → va_S (fun q => base ≤ q) s.heap H1 locs1 → cells1 + s.heap.size = H1.size → slots1 + u0 = o.2.2.2 → W p l e R s m args below meth c H1 locs1 cells1 slots1 Q (F0 m o.1 ls (o.2.1.map (zt τ)))
theorem zn0 {z : Int32} (hz : ¬ z < 0) : z.toInt = (z.toNatClampNeg : Int) := by
  have hz0 : (0 : Int) ≤ z.toInt := by
    have := Int32.not_lt.mp hz
    simpa using Int32.le_iff_toInt_le.mp this
  show z.toInt = ((z.toInt.toNat : Nat) : Int)
  omega
theorem zcat_map (τ : Nat → Nat) (r : List Value) : ((r.map (zt τ)).map fun v => v.category).sum = (r.map (fun v => v.category)).sum := by
  rw [List.map_map]
  have e9 : ((fun v => Value.category v) ∘ zt τ) = (fun v => v.category) := funext fun v => zt_cat τ v
  rw [e9]
set_option maxHeartbeats 1000000 in
theorem zArc_ok (hx : p.tables.exec = Jvm.exec) (hb : c.code = cc) (hml : c.maxLocals = ls.size) (hown : s.vm.findClass own = some m.cls) (hK : va_K D vwCl [] s) (hO : zObjs s) (hτ : zTau base τ) {index : Nat} (hw : ∀ w ∈ zNx own (.invokestatic index) a, w.before args s = true) (hdg : decode cc pc = .ok (.invokestatic index, 3)) (hfr : 1 ≤ R.frames) (hlo : 400 ≤ R.locals)
    (hc1 : cells + s.heap.size = H.size) (hc2 : slots + u0 = u) (hI : zInv D base τ s h u H) (hS : va_S (fun q => base ≤ q) s.heap H locs) (hg : zArc pc st h u = some os) (k : ∀ o ∈ os, zKx p l e R s m args below meth c Q D base τ u0 ls o) : W p l e R s m args below meth c H locs cells slots Q (F0 m pc ls (st.map (zt τ))) := by
  unfold zArc at hg
  split at hg
  · rename_i n dp d sp q r
    split at hg
    · rename_i cs cd hcs hcd
      split at hg
      · rename_i hc
        obtain ⟨hzd, h1, h2, h3, h4, h5, hkd, hall, hsum⟩ := hc
        cases hg
        have kk := k _ List.mem_cons_self
        obtain ⟨cA, a1, a2, a3⟩ := (hI.1 d cd hcd).arr (by omega)
        obtain ⟨cell, b1, b2, b3, b4, b5⟩ := (hI.1 q cs hcs).read (by omega)
        obtain ⟨hs6, k0, hk0, cm0, hkk0⟩ := b2
        obtain ⟨-, k1, hk1, cm1, hkk1⟩ := a2 cd.2.length (fun k => zt τ (cd.2.getD k .null))
        unfold zNx at hw
        have w1 := hw _ List.mem_cons_self
        have w2 := hw _ (List.mem_cons_of_mem _ List.mem_cons_self)
        have w3 := hw _ (List.mem_cons_of_mem _ (List.mem_cons_of_mem _ List.mem_cons_self))
        have w4 := hw _ (List.mem_cons_of_mem _ (List.mem_cons_of_mem _ (List.mem_cons_of_mem _ List.mem_cons_self)))
        have hsrc : ∀ i, i < n.toNatClampNeg → cell.slots.getD (sp.toNatClampNeg + i) .null = zt τ (cs.2.getD (sp.toNatClampNeg + i) .null) := fun i hi => by
          rw [Array.getD_eq_getD_getElem?, b5 _ (by omega)]
          rfl
        have htys : zTyR cs.1 = zTy cd.1 := by
          rcases hkd with ⟨e1, e2 | e2⟩ | ⟨e1, e2⟩ <;> rw [e1, e2] <;> rfl
        intro T hT X
        have hnw : nativeFrameWords "java/lang/System" "arraycopy" 5 ≤ 60 := by decide
        obtain ⟨vm', X', step⟩ := X.arraycopy hx hown w1 w2 w3 w4 (src := τ q) (dst := τ d) (cs := cell) (cd := arrV cA cd.2.length (fun k => zt τ (cd.2.getD k .null))) (srcPos := sp) (destPos := dp) (n := n) (by rw [hT]; exact b1) (by rw [hT]; exact a1)
          hs6 (fun _ h => by cases h) b3 (fun h => by cases h) hk0 hk1 hkk0 hkk1 (by rw [htys]; cases zTy cd.1 <;> simp [refKind]) h1 h2 h3
          (by rw [zn0 h1, zn0 h3]; have := b4.1; omega)
          (by rw [zn0 h2, zn0 h3, arrV_size]; omega)
          (fun vm₁ hal i hi => by
            rw [hsrc i hi]
            have ht := List.all_eq_true.mp hall i (List.mem_range.mpr hi)
            unfold zTk at ht
            split at ht
            · rename_i x ex
              obtain ⟨e1, e2⟩ := Bool.and_eq_true_iff.mp ht
              have e1 : cd.1 = 101 := by simpa using e1
              rw [ex, e1]
              exact ⟨e2, trivial⟩
            · rename_i ex
              have e1 : cd.1 = 105 := by simpa using ht
              rw [ex, e1]
              exact ⟨rfl, trivial⟩
            · rename_i y ex
              obtain ⟨e1, e2⟩ := Bool.and_eq_true_iff.mp ht
              have e1 : cd.1 = 105 := by simpa using e1
              split at e2
              · rename_i cy hcy
                have e2 := of_decide_eq_true e2
                obtain ⟨⟨rv, cellV, hrv, q1, q2, ⟨-, q3, -⟩, q4⟩, -⟩ := (hI.1 y cy hcy).obj e2
                have hcls := (hK.1 _ _ hrv).2
                obtain ⟨c0, t0, f1, f2, f3⟩ := Cond.castable_spec (va_Nw.use (A := args) rfl (hO _ _ hrv))
                have hcc := Option.some.inj (hcls.1.symm.trans f1)
                obtain ⟨kA, comp, r1, r2, r3, -⟩ := (show va_RA s cA (.object "java/lang/Object") by rw [e1] at a3; exact a3)
                have hk1b : s.vm.classes[cA]? = some k1 := hk1
                rw [← Option.some.inj (hk1b.symm.trans r1)] at r2
                have hkk1b : k1.kind = .array cm1 (.object "java/lang/Object") := by rw [hkk1, e1]; rfl
                cases hkk1b.symm.trans r2
                obtain ⟨kC, hkC, -⟩ := hcls.2
                obtain ⟨kE, hkE, -⟩ := Vm.findClass_spec r3
                obtain ⟨kC', hkC', -⟩ := hal.2.2 _ _ hkC
                obtain ⟨kE', hkE', -⟩ := hal.2.2 _ _ hkE
                rw [ex, e1]
                refine ⟨rfl, cellV, (show T.heap[τ y]? = some cellV by rw [hT]; exact q1), (fun q h => by rw [h] at q3; cases q3), ⟨kC', by rw [q2]; exact hkC'⟩, ⟨kE', hkE'⟩, ?_⟩
                show vm₁.assignable _ _ = true
                rw [hal.assignable, q2, hcc]
                cases Option.some.inj (f2.symm.trans r3)
                exact f3
              · cases e2
            · cases ht)
          (g := F0 m pc ls ((Value.int n :: .int dp :: .ref d :: .int sp :: .ref q :: r).map (zt τ))) rfl (by rw [hml]) (rest := r.map (zt τ)) rfl (by rw [hb]; exact hdg) hfr (by show 2 * 0 + _ + _ ≤ _; rw [zcat_map]; omega)
        have e1 : copied cell (arrV cA cd.2.length (fun k => zt τ (cd.2.getD k .null))) sp dp n = arrV cA cd.2.length (fun k => zt τ ((zCpy cs.2 cd.2 sp.toNatClampNeg dp.toNatClampNeg n.toNatClampNeg).getD k .null)) := by
          refine (va_copiedX (fun z => zt τ z) cell cA (fun j => cs.2.getD j .null) (fun j => cd.2.getD j .null) b5 h4).trans (arrV_congr fun k hk => ?_)
          rw [zCpy_get hk]
          rfl
        rw [e1] at X' step
        generalize hcN : arrV cA cd.2.length (fun k => zt τ ((zCpy cs.2 cd.2 sp.toNatClampNeg dp.toNatClampNeg n.toNatClampNeg).getD k .null)) = cN at X' step
        have hl : τ d < H.size := (Array.getElem?_eq_some_iff.mp a1).1
        have hheap : ((T.setVm vm').setCell (τ d) cN).heap = H.setIfInBounds (τ d) cN := by rw [← hT]; rfl
        have oq : ∀ q : Nat, q ≠ τ d → (H.setIfInBounds (τ d) cN)[q]? = H[q]? := fun q hq => by simp [Array.getElem?_setIfInBounds, Ne.symm hq]
        have sq : (H.setIfInBounds (τ d) cN)[τ d]? = some cN := by simp [Array.getElem?_setIfInBounds, hl]
        have hI1 : zInv D base τ s (h.set d (cd.1, zCpy cs.2 cd.2 sp.toNatClampNeg dp.toNatClampNeg n.toNatClampNeg)) u (H.setIfInBounds (τ d) cN) := by
          refine zInv_set hτ hI hcd hzd (by simp) oq ⟨_, _, a1, sq, ?_⟩ (zAt.ofArr (cA := cA) (by omega) ?_ a2 a3)
          · rw [← hcN, arrV_size, arrV_size]
          · rw [sq, ← hcN]
            show some (arrV cA cd.2.length _) = some (arrV cA (zCpy cs.2 cd.2 sp.toNatClampNeg dp.toNatClampNeg n.toNatClampNeg).length _)
            rw [zCpy_len]
        obtain ⟨t, t1, t2⟩ := kk _ _ cells slots hI1 ⟨by simp; exact hS.1, fun q g1 g2 => by
            rw [oq q (fun e => g2 (by rw [e]; exact zA_of hτ hzd))]
            exact hS.2.1 q g1 g2, fun q hq => by
            rcases List.mem_append.mp hq with h | h
            · exact hS.2.2 q h
            · obtain ⟨z, -, hz⟩ := List.mem_map.mp h
              rw [← hz]
              exact zA_of hτ hzd⟩ (by simp; exact hc1) hc2 _ hheap X'
        exact ⟨t, step t t1, t2⟩
      · cases hg
    · cases hg
  · cases hg
set_option maxHeartbeats 1000000 in
theorem zCln_ok (hx : p.tables.exec = Jvm.exec) (hb : c.code = cc) (hml : c.maxLocals = ls.size) (hown : s.vm.findClass own = some m.cls) (hτ : zTau base τ) {index : Nat} (hw : ∀ w ∈ zNx own (.invokevirtual index) 1, w.before args s = true) (hdg : decode cc pc = .ok (.invokevirtual index, 3)) (hfr : 1 ≤ R.frames) (hlo : 400 ≤ R.locals)
    (hbase : base ≤ s.heap.size) (hc1 : cells + s.heap.size = H.size) (hc2 : slots + u0 = u) (hR1 : base + zCM ≤ R.cells + s.heap.size + zro) (hR2 : zSN ≤ R.slots + u0) (hI : zInv D base τ s h u H) (hS : va_S (fun q => base ≤ q) s.heap H locs) (hg : zCln pc st h u = some os) (k : ∀ o ∈ os, zKx p l e R s m args below meth c Q D base τ u0 ls o) : W p l e R s m args below meth c H locs cells slots Q (F0 m pc ls (st.map (zt τ))) := by
  have hI3 : H.size + zro = base + h.length := hI.2.2.1
  have hz : zro = 16 := rfl
  unfold zCln at hg
  split at hg
  · rename_i q r
    split at hg
    · rename_i cq hcq
      split at hg
      · rename_i hc
        obtain ⟨hk1, hL, hU, hall, hsum⟩ := hc
        cases hg
        have kk := k _ List.mem_cons_self
        obtain ⟨cA, a1, a2, a3⟩ := (hI.1 q cq hcq).arr (by omega)
        rw [hk1] at a2 a3
        have hnm : s.vm.findClass "[B" = some cA := va_nm_byte a3
        simp only [zNx, ↓reduceIte] at hw
        have w1 := hw _ List.mem_cons_self
        have w2 := hw _ (List.mem_cons_of_mem _ List.mem_cons_self)
        have w3 := hw _ (List.mem_cons_of_mem _ (List.mem_cons_of_mem _ List.mem_cons_self))
        have w4 := hw _ (List.mem_cons_of_mem _ (List.mem_cons_of_mem _ (List.mem_cons_of_mem _ List.mem_cons_self)))
        have w5 := hw _ (List.mem_cons_of_mem _ (List.mem_cons_of_mem _ (List.mem_cons_of_mem _ (List.mem_cons_of_mem _ List.mem_cons_self))))
        have w6 := hw _ (List.mem_cons_of_mem _ (List.mem_cons_of_mem _ (List.mem_cons_of_mem _ (List.mem_cons_of_mem _ (List.mem_cons_of_mem _ List.mem_cons_self)))))
        obtain ⟨c0, t0', f1, f2, f3⟩ := Cond.castable_spec w6
        cases hnm.symm.trans f1
        generalize hcN : arrV cA cq.2.length (fun k => zt τ (cq.2.getD k .null)) = cN at a1
        have hsz : cN.slots.size = cq.2.length := by rw [← hcN, arrV_size]
        have hvm0 : cN.vm = .none := by rw [← hcN]; rfl
        have hcl0 : cN.cls = cA := by rw [← hcN]; rfl
        have hcellE : ({ cls := cN.cls, slots := cN.slots } : Cell) = cN := by rw [← hcN]; rfl
        intro T hT X
        have hcellT : T.heap[τ q]? = some cN := by rw [hT]; exact a1
        obtain ⟨-, kA, hkA, comp, hkind⟩ := State.isArrayOf_alike X.warmed.alike (a2 0 (fun _ => .null))
        obtain ⟨-, kS, hkS, compS, hkindS⟩ := a2 0 (fun _ => .null)
        obtain ⟨vm', X', step⟩ := X.cloneArray hx hown w1 w2 w3 w4 w5 (a := τ q) (cell := cN) hcellT (fun k h => by rw [hvm0] at h; cases h) (by rw [hvm0]; exact fun h => by cases h) (by rw [hcl0]; exact hnm) f2 (by rw [hcl0]; exact f3)
          (fun i v hv => by
            rw [hcl0]
            have hk' : T.vm.classes[cA]? = some kA := hkA
            have hfit : fits .byte v = true := by
              have hi : i < cq.2.length := by
                have := (Array.getElem?_eq_some_iff.mp hv).1
                omega
              rw [← hcN, arrV_read _ _ hi] at hv
              cases hv
              have hm : cq.2[i] ∈ cq.2 := List.getElem_mem hi
              have hall2 := List.all_eq_true.mp hall _ hm
              have hgd : cq.2.getD i .null = cq.2[i] := by rw [List.getD_eq_getElem?_getD, List.getElem?_eq_getElem hi]; rfl
              rw [hgd]
              generalize cq.2[i] = w at hall2
              unfold zIsI at hall2
              split at hall2
              · exact hall2
              · cases hall2
            have hfit2 : fits (zTy 101) v = true := hfit
            simpa [State.fitsSlot, State.slotType?, hk', hkind] using hfit2)
          (g := F0 m pc ls ((Value.ref q :: r).map (zt τ))) rfl (by rw [hml]) rfl (by rw [hb]; exact hdg) hfr (by show 2 * 0 + _ + 14 ≤ _; rw [zcat_map]; omega) (by omega) (by rw [hsz]; omega) (hloader := by rw [hcl0]; exact Vm.clonesLoader_of_array hkS hkindS)
        rw [hcellE, hsz] at X'
        obtain ⟨hI1, hta⟩ := zInv_push (c := (101, cq.2)) (n := cq.2.length) (cell := cN) hτ hI hsz hL hU (zAt.ofArr (cA := cA) (show (100 : Nat) ≤ 101 by decide) (by rw [← hcN]; simp) a2 a3)
        obtain ⟨t, b1, b2⟩ := kk (H.push cN) locs (cells + 1) (slots + cq.2.length) hI1 (va_S_push hS) (by simp; omega) (by show slots + cq.2.length + u0 = u + cq.2.length; omega) ((T.setVm vm').pushCell cN) (by rw [← hT]; rfl) X'
        refine ⟨t, step t ?_, b2⟩
        rw [hcellE, hT]
        have e9 : zt τ (.ref h.length) = .ref H.size := by show Value.ref (τ h.length) = _; rw [hta]
        rw [← e9]
        exact b1
      · cases hg
    · cases hg
  · cases hg
theorem zGcl_ok (hx : p.tables.exec = Jvm.exec) (hb : c.code = cc) (hml : c.maxLocals = ls.size) (hown : s.vm.findClass own = some m.cls) {index : Nat} (ha : a ≠ 1) (hw : ∀ w ∈ zNx own (.invokevirtual index) a, w.before args s = true) (hSt : zSta base τ s s.heap) (hdg : decode cc pc = .ok (.invokevirtual index, 3)) (hfr : 1 ≤ R.frames) (hlo : 400 ≤ R.locals)
    (hc1 : cells + s.heap.size = H.size) (hc2 : slots + u0 = u) (hI : zInv D base τ s h u H) (hS : va_S (fun q => base ≤ q) s.heap H locs) (hg : zGcl pc st h u = some os) (k : ∀ o ∈ os, zKx p l e R s m args below meth c Q D base τ u0 ls o) : W p l e R s m args below meth c H locs cells slots Q (F0 m pc ls (st.map (zt τ))) := by
  unfold zGcl at hg
  split at hg
  · rename_i q r
    split at hg
    · rename_i cq hcq
      split at hg
      · rename_i hc
        obtain ⟨hk1, hsum⟩ := hc
        cases hg
        have kk := k _ List.mem_cons_self H locs cells slots hI hS hc1 hc2
        obtain ⟨cA, a1, a2, a3⟩ := (hI.1 q cq hcq).arr (by omega)
        rw [hk1] at a3
        simp only [zNx, if_neg ha] at hw
        have w1 := hw _ List.mem_cons_self
        have w2 := hw _ (List.mem_cons_of_mem _ List.mem_cons_self)
        have w3 := hw _ (List.mem_cons_of_mem _ (List.mem_cons_of_mem _ List.mem_cons_self))
        have w4 := hw _ (List.mem_cons_of_mem _ (List.mem_cons_of_mem _ (List.mem_cons_of_mem _ List.mem_cons_self)))
        have w5 := hw _ (List.mem_cons_of_mem _ (List.mem_cons_of_mem _ (List.mem_cons_of_mem _ (List.mem_cons_of_mem _ List.mem_cons_self))))
        exact va_getC hx hb hml hown w1 w2 w3 w4 w5 hSt.2.2.2.2.2.1 ⟨_, a1, rfl, va_nmO (C := "java/lang/Object") a3 (by decide +kernel)⟩ hfr (by rw [zcat_map]; omega) hdg kk
      · cases hg
    · cases hg
  · cases hg
theorem zCka_ok (hx : p.tables.exec = Jvm.exec) (hb : c.code = cc) (hown : s.vm.findClass own = some m.cls) {index : Nat} (hw : ∀ w ∈ zNx own (.checkcast index) a, w.before args s = true) (hdg : decode cc pc = .ok (.checkcast index, 3))
    (hc1 : cells + s.heap.size = H.size) (hc2 : slots + u0 = u) (hI : zInv D base τ s h u H) (hS : va_S (fun q => base ≤ q) s.heap H locs) (hg : zCka a pc st h u = some os) (k : ∀ o ∈ os, zKx p l e R s m args below meth c Q D base τ u0 ls o) : W p l e R s m args below meth c H locs cells slots Q (F0 m pc ls (st.map (zt τ))) := by
  unfold zCka at hg
  split at hg
  · rename_i q r
    split at hg
    · rename_i cq hcq
      split at hg
      · rename_i hc
        obtain ⟨hk1, ha⟩ := hc
        cases hg
        have kk := k _ List.mem_cons_self H locs cells slots hI hS hc1 hc2
        obtain ⟨cA, a1, a2, a3⟩ := (hI.1 q cq hcq).arr (by omega)
        rw [hk1] at a3
        unfold zNx at hw
        have w1 := hw _ List.mem_cons_self
        rcases ha with ha | ha
        · rw [ha] at a3
          rw [if_pos ha] at w1
          exact va_castE hx hb hown w1 ⟨_, a1, rfl, va_nm_byte a3⟩ hdg kk
        · rw [ha] at a3
          rw [if_neg (by omega)] at w1
          exact va_castE hx hb hown w1 ⟨_, a1, rfl, va_nmO (C := "java/lang/Object") a3 (by decide +kernel)⟩ hdg kk
      · cases hg
    · cases hg
  · cases hg
theorem zJmp_ok {r : List Value} {off : Int} (hc1 : cells + s.heap.size = H.size) (hc2 : slots + u0 = u) (hI : zInv D base τ s h u H) (hS : va_S (fun q => base ≤ q) s.heap H locs) (hg : zJmp pc off r h u = some os) (k : ∀ o ∈ os, zKx p l e R s m args below meth c Q D base τ u0 ls o) : ∃ tgt : Nat, (pc : Int) + off = (tgt : Int) ∧ W p l e R s m args below meth c H locs cells slots Q (F0 m tgt ls (r.map (zt τ))) := by
  unfold zJmp at hg
  split at hg
  · rename_i h0
    cases hg
    exact ⟨_, (Int.toNat_of_nonneg h0).symm, k _ List.mem_cons_self H locs cells slots hI hS hc1 hc2⟩
  · cases hg
theorem zIfn_ok {i : Instr} {y : Bool} {off : Int} (hi : i = (if y = true then Instr.ifnull off else Instr.ifnonnull off)) (hx : p.tables.exec = Jvm.exec) (hb : c.code = cc) (hdg : decode cc pc = .ok (i, 3))
    (hc1 : cells + s.heap.size = H.size) (hc2 : slots + u0 = u) (hI : zInv D base τ s h u H) (hS : va_S (fun q => base ≤ q) s.heap H locs) (hg : zIfn y pc off st h u = some os) (k : ∀ o ∈ os, zKx p l e R s m args below meth c Q D base τ u0 ls o) : W p l e R s m args below meth c H locs cells slots Q (F0 m pc ls (st.map (zt τ))) := by
  unfold zIfn at hg
  split at hg
  · split at hg
    · rename_i hy
      rw [hy, if_pos rfl] at hi
      rw [hi] at hdg
      obtain ⟨tgt, e1, kk⟩ := zJmp_ok hc1 hc2 hI hS hg k
      exact lv_ifnullN hx hb hdg e1 kk
    · rename_i hy
      rw [if_neg hy] at hi
      rw [hi] at hdg
      cases hg
      exact lv_ifnonnullN hx hb hdg (k _ List.mem_cons_self H locs cells slots hI hS hc1 hc2)
  · split at hg
    · rename_i hy
      rw [hy, if_pos rfl] at hi
      rw [hi] at hdg
      cases hg
      exact lv_ifnull hx hb hdg (k _ List.mem_cons_self H locs cells slots hI hS hc1 hc2)
    · rename_i hy
      rw [if_neg hy] at hi
      rw [hi] at hdg
      obtain ⟨tgt, e1, kk⟩ := zJmp_ok hc1 hc2 hI hS hg k
      exact lv_ifnonnull hx hb hdg e1 kk
  · cases hg
theorem zTau_ne (hτ : zTau base τ) {x y : Nat} (hz : (zro ≤ x ∨ zro ≤ y) ∧ zfr x ∧ zfr y) (h : τ x = τ y) : x = y := by
  obtain ⟨hz, hx, hy⟩ := hz
  rcases hz with hz | hz
  · exact hτ.2.2 x y hz hy h
  · exact (hτ.2.2 y x hz hx h.symm).symm
theorem zAcm_ok {i : Instr} {y : Bool} {off : Int} (hi : i = (if y = true then Instr.if_acmp .eq off else Instr.if_acmp .ne off)) (hx : p.tables.exec = Jvm.exec) (hb : c.code = cc) (hτ : zTau base τ) (hdg : decode cc pc = .ok (i, 3))
    (hc1 : cells + s.heap.size = H.size) (hc2 : slots + u0 = u) (hI : zInv D base τ s h u H) (hS : va_S (fun q => base ≤ q) s.heap H locs) (hg : zAcm y pc off st h u = some os) (k : ∀ o ∈ os, zKx p l e R s m args below meth c Q D base τ u0 ls o) : W p l e R s m args below meth c H locs cells slots Q (F0 m pc ls (st.map (zt τ))) := by
  unfold zAcm at hg
  split at hg
  · rename_i b1 a1 r
    show W p l e R s m args below meth c H locs cells slots Q (F0 m pc ls (va_rf (some (τ b1)) :: va_rf (some (τ a1)) :: r.map (zt τ)))
    split at hg
    · rename_i hab
      subst hab
      split at hg
      · rename_i hy
        rw [hy, if_pos rfl] at hi
        rw [hi] at hdg
        obtain ⟨tgt, e1, kk⟩ := zJmp_ok hc1 hc2 hI hS hg k
        exact lv_acmp_eq hx hb hdg e1 (fun _ => kk) (fun z => absurd rfl z)
      · rename_i hy
        rw [if_neg hy] at hi
        rw [hi] at hdg
        cases hg
        by_cases h0 : 0 ≤ (pc : Int) + off
        · exact lv_acmp_ne hx hb hdg (Int.toNat_of_nonneg h0).symm (fun z => absurd rfl z) (fun _ => k _ List.mem_cons_self H locs cells slots hI hS hc1 hc2)
        · intro T hT X
          obtain ⟨t, b1, b2⟩ := k _ List.mem_cons_self H locs cells slots hI hS hc1 hc2 T hT X
          refine ⟨t, ?_, b2⟩
          jvm_step X.here [X.here.top, hx, hb, hdg, va_rf, Value.asRef?, Op.if_acmp.holds]
          exact b1
    · rename_i hab
      split at hg
      · rename_i hz
        have hne : ¬ (some (τ a1) : Option Nat) = some (τ b1) := fun q => hab (zTau_ne hτ hz (Option.some.inj q))
        have hne2 : ¬ τ a1 = τ b1 := fun q => hab (zTau_ne hτ hz q)
        split at hg
        · rename_i hy
          rw [hy, if_pos rfl] at hi
          rw [hi] at hdg
          cases hg
          by_cases h0 : 0 ≤ (pc : Int) + off
          · exact lv_acmp_eq hx hb hdg (Int.toNat_of_nonneg h0).symm (fun z => absurd z hne) (fun _ => k _ List.mem_cons_self H locs cells slots hI hS hc1 hc2)
          · intro T hT X
            obtain ⟨t, b1, b2⟩ := k _ List.mem_cons_self H locs cells slots hI hS hc1 hc2 T hT X
            refine ⟨t, ?_, b2⟩
            jvm_step X.here [X.here.top, hx, hb, hdg, va_rf, Value.asRef?, Op.if_acmp.holds, hne2]
            exact b1
        · rename_i hy
          rw [if_neg hy] at hi
          rw [hi] at hdg
          obtain ⟨tgt, e1, kk⟩ := zJmp_ok hc1 hc2 hI hS hg k
          exact lv_acmp_ne hx hb hdg e1 (fun _ => kk) (fun z => absurd z hne)
      · cases hg
  · cases hg
theorem zDb_ok {f : UInt64 → UInt64 → UInt64} (row : ∀ (x y : UInt64) (rest : List Value), vf_n64 (f x y) → W p l e R s m args below meth c H locs cells slots Q (F0 m (pc + 1) ls (.double (f x y) :: rest)) → W p l e R s m args below meth c H locs cells slots Q (F0 m pc ls (.double y :: .double x :: rest)))
    (hc1 : cells + s.heap.size = H.size) (hc2 : slots + u0 = u) (hI : zInv D base τ s h u H) (hS : va_S (fun q => base ≤ q) s.heap H locs) (hg : zDb f pc st h u = some os) (k : ∀ o ∈ os, zKx p l e R s m args below meth c Q D base τ u0 ls o) : W p l e R s m args below meth c H locs cells slots Q (F0 m pc ls (st.map (zt τ))) := by
  unfold zDb at hg
  split at hg
  · rename_i y x r
    split at hg
    · rename_i hn
      cases hg
      have hn1 := of_decide_eq_true hn
      exact row x y _ hn1 (k _ List.mem_cons_self H locs cells slots hI hS hc1 hc2)
    · cases hg
  · cases hg
theorem zGsn_ok (hx : p.tables.exec = Jvm.exec) (hb : c.code = cc) (hown : s.vm.findClass own = some m.cls) {index : Nat} (hw : ∀ w ∈ zNx own (.getstatic index) a, w.before args s = true) (hSt : zSta base τ s s.heap) (hdg : decode cc pc = .ok (.getstatic index, 3))
    (hc1 : cells + s.heap.size = H.size) (hc2 : slots + u0 = u) (hI : zInv D base τ s h u H) (hS : va_S (fun q => base ≤ q) s.heap H locs) (hg : some [(pc + 3, Value.null :: st, h, u), (pc + 3, Value.ref 3 :: st, h, u)] = some os) (k : ∀ o ∈ os, zKx p l e R s m args below meth c Q D base τ u0 ls o) : W p l e R s m args below meth c H locs cells slots Q (F0 m pc ls (st.map (zt τ))) := by
  cases hg
  obtain ⟨v, hv, hZ⟩ := hSt.2.1
  refine va_gets hx hb hZ hS hown (hw _ List.mem_cons_self) (fun _ q => q) hdg ?_
  rcases hv with rfl | rfl
  · exact k _ List.mem_cons_self H locs cells slots hI hS hc1 hc2
  · exact k _ (List.mem_cons_of_mem _ List.mem_cons_self) H locs cells slots hI hS hc1 hc2
theorem zGetS_ok {b : Nat} {ref : String} (hx : p.tables.exec = Jvm.exec) (hb : c.code = cc) (hown : s.vm.findClass own = some m.cls) (hts : ∀ w ∈ zT, w.before args s = true) (hK : va_K D vwCl [] s) {x pc' : Nat} {st' : List Value} {h' : List zC} (hdg : decode cc pc = .ok (.getfield x, 3))
    (hl : (Cond.fieldLink own x ref (zF a b).2.1 (zF a b).2.2.1).before args s = true) (hsame : ∀ x, s.fieldFound? (zF a b).1 (zF a b).2.1 (zF a b).2.2.1 = some x → s.fieldFound? ref (zF a b).2.1 (zF a b).2.2.1 = some x)
    (hI : zInv D base τ s h u H) (hg : zGet a b pc st h = some (pc', st', h')) (k : h' = h → W p l e R s m args below meth c H locs cells slots Q (F0 m pc' ls (st'.map (zt τ)))) : W p l e R s m args below meth c H locs cells slots Q (F0 m pc ls (st.map (zt τ))) := by
  unfold zGet at hg
  split at hg
  · rename_i q r
    split at hg
    · rename_i c1 hc1
      split at hg
      · rename_i hc
        obtain ⟨hca, ha⟩ := hc
        split at hg
        · rename_i v hv
          cases hg
          subst hca
          obtain ⟨⟨rr, cell, hr, q1, q2, q3, q5⟩, hlen⟩ := (hI.1 q c1 hc1).obj ha
          have hk : b < rr.2.2 := by
            rw [← hlen rr hr]
            exact (List.getElem?_eq_some_iff.mp hv).1
          have hv2 : (c1.2.map (zt τ))[b]? = some (zt τ v) := by rw [List.getElem?_map, hv]; rfl
          rw [zF_of hr] at hl hsame
          obtain ⟨cf, kf, fi, f, hi, hst, hsv⟩ := zSlotV hts hK hr hk q5 hv2
          exact W.getf hx hb hown hl (hsame _ hi) hst q1 q3.1 hsv rfl rfl hdg (k rfl)
        · cases hg
      · cases hg
    · cases hg
  · cases hg
set_option maxHeartbeats 1000000 in
theorem zPutS_ok {b : Nat} {ref : String} (hx : p.tables.exec = Jvm.exec) (hb : c.code = cc) (hown : s.vm.findClass own = some m.cls) (hts : ∀ w ∈ zT, w.before args s = true) (hK : va_K D vwCl [] s) (hτ : zTau base τ) {x pc' : Nat} {st' : List Value} {h' : List zC} (hdg : decode cc pc = .ok (.putfield x, 3))
    (hl : (Cond.fieldLink own x ref (zF a b).2.1 (zF a b).2.2.1).before args s = true) (hsame : ∀ x, s.fieldFound? (zF a b).1 (zF a b).2.1 (zF a b).2.2.1 = some x → s.fieldFound? ref (zF a b).2.1 (zF a b).2.2.1 = some x) (hfin : (zF a b).2.2.2 = false)
    (hI : zInv D base τ s h u H) (hS : va_S (fun q => base ≤ q) s.heap H locs) (hg : zPut a b pc st h = some (pc', st', h')) (k : ∀ H1 locs1, zInv D base τ s h' u H1 → va_S (fun q => base ≤ q) s.heap H1 locs1 → H1.size = H.size → W p l e R s m args below meth c H1 locs1 cells slots Q (F0 m pc' ls (st'.map (zt τ)))) : W p l e R s m args below meth c H locs cells slots Q (F0 m pc ls (st.map (zt τ))) := by
  unfold zPut at hg
  split at hg
  · rename_i v q r
    split at hg
    · rename_i c1 hc1
      split at hg
      · rename_i hc
        obtain ⟨hca, ha, hzq, hbl, hfit⟩ := hc
        cases hg
        subst hca
        obtain ⟨hat, hlen⟩ := (hI.1 q c1 hc1).own ha (zA_own hτ hzq)
        obtain ⟨rr, hr, hOB⟩ := id hat
        have hk : b < rr.2.2 := by
          rw [← hlen rr hr]
          exact hbl
        obtain ⟨hn1, hf1⟩ := zfitv_t (τ := τ) hfit
        have hpd := zTyOk _ _ hr b hk
        have hl2 : b < (c1.2.map (zt τ)).length := by rw [List.length_map]; exact hbl
        obtain ⟨hSl, hfc, kC, hkC, hkind⟩ := hK.1 _ _ hr
        obtain ⟨cf, kf, fi, f, hi, hsl⟩ := hSl _ hk
        obtain ⟨cell, q1, q2, q3, q4⟩ := hOB
        have hlay := hts _ (zIn _ _ hr _ (u_in_lay hk))
        have hst := (u_facts hfc hkC (u_lays hts (zIn _ _ hr) hk) hi).1
        have hap := va_apart (own := own) hts (zIn _ _ hr) (zFT c1.1) (zTyOk _ _ hr) (zNap _ _ hr) hK hr
        rw [zF_of hr] at hl hsame hfin
        unfold u_lay at hlay
        rw [if_neg (by rw [hfin]; decide)] at hlay
        have h6 := u_store hfc hkC hkind hlay hi hpd hn1 hf1
        refine W.putK hx hb (f := f) ⟨hown, hl, ⟨_, _, _, hsame _ hi⟩, hst⟩ (by rw [q2]; exact h6) q1 q3 (by rw [hsl]; exact k2_hasslot (q4 _ hk)) rfl rfl hdg (fun H1 e1 e2 e3 => ?_)
        refine k H1 _ (zInv_set hτ hI hc1 hzq e2 e3 ⟨_, _, q1, e1, by simp [Cell.setSlot]⟩ (zAt.ofObj ha ?_ ?_)) (hS.put e2 e3 (zA_of hτ hzq)) e2
        · rw [hsl] at e1
          show va_at D vwCl (τ q, .inr (c1.1, (c1.2.set b v).map (zt τ))) H1
          rw [List.map_set]
          exact ⟨_, hr, t_OB.to (V := updV (vp_V (c1.2.map (zt τ))) b (zt τ v)) ⟨_, e1, q2, q3, t_set q4 hap hk (zt τ v)⟩ (fun j _ => vp_updV_set hl2 (zt τ v) j)⟩
        · intro r2 hr2
          show (c1.2.set b v).length = _
          rw [List.length_set]
          exact hlen r2 hr2
      · cases hg
    · cases hg
  · cases hg
theorem zF_mod : zF 2 0 = ("java/util/AbstractList", "modCount", "I", false) := by decide +kernel
set_option maxHeartbeats 1000000 in
theorem zX_ok {i : Instr} {n : Nat} (hx : p.tables.exec = Jvm.exec) (hb : c.code = cc) (hml : c.maxLocals = ls.size) (hown : s.vm.findClass own = some m.cls) (hts : ∀ w ∈ zT, w.before args s = true) (hK : va_K D vwCl [] s) (hO : zObjs s) (hτ : zTau base τ) (hSt : zSta base τ s s.heap) (hdg : decode cc pc = .ok (i, n)) (hn : zLen i = 0 ∨ n = zLen i) (hw : ∀ w ∈ zNx own i a, w.before args s = true)
    (hfr : 1 ≤ R.frames) (hlo : 400 ≤ R.locals) (hbase : base ≤ s.heap.size) (hc1 : cells + s.heap.size = H.size) (hc2 : slots + u0 = u) (hR1 : base + zCM ≤ R.cells + s.heap.size + zro) (hR2 : zSN ≤ R.slots + u0)
    (hI : zInv D base τ s h u H) (hS : va_S (fun q => base ≤ q) s.heap H locs) (hg : zX i a pc st h u = some os) (k : ∀ o ∈ os, zKx p l e R s m args below meth c Q D base τ u0 ls o) : W p l e R s m args below meth c H locs cells slots Q (F0 m pc ls (st.map (zt τ))) := by
  have hd : ∀ x, zLen i = x → x ≠ 0 → decode cc pc = .ok (i, x) := fun x e q => by
    rcases hn with hn | hn
    · exact absurd (e.symm.trans hn) q
    · rw [← e, ← hn]; exact hdg
  unfold zX at hg
  split at hg
  · exact zIfn_ok (y := true) rfl hx hb (hd 3 rfl (by decide)) hc1 hc2 hI hS hg k
  · exact zIfn_ok (y := false) rfl hx hb (hd 3 rfl (by decide)) hc1 hc2 hI hS hg k
  · exact zAcm_ok (y := true) rfl hx hb hτ (hd 3 rfl (by decide)) hc1 hc2 hI hS hg k
  · exact zAcm_ok (y := false) rfl hx hb hτ (hd 3 rfl (by decide)) hc1 hc2 hI hS hg k
  · exact zDb_ok (fun x y rest hne kk => lv_dmul hx hb (hd 1 rfl (by decide)) hne kk) hc1 hc2 hI hS hg k
  · exact zDb_ok (fun x y rest hne kk => lv_ddiv hx hb (hd 1 rfl (by decide)) hne kk) hc1 hc2 hI hS hg k
  · exact zGsn_ok hx hb hown hw hSt (hd 3 rfl (by decide)) hc1 hc2 hI hS hg k
  · rename_i x
    unfold zNx at hw
    have w1 := hw _ List.mem_cons_self
    have w2 := hw _ (List.mem_cons_of_mem _ List.mem_cons_self)
    unfold zOh1 at hg
    split at hg
    · rename_i pc' st' h' heq
      cases hg
      refine zGetS_ok (ref := "java/util/ArrayList") hx hb hown hts hK (hd 3 rfl (by decide)) (by rw [zF_mod]; exact w1) (fun y hy => by rw [zF_mod] at hy ⊢; exact u_same w2 y hy) hI heq (fun z => ?_)
      subst z
      exact k _ List.mem_cons_self H locs cells slots hI hS hc1 hc2
    · cases hg
  · rename_i x
    unfold zNx at hw
    have w1 := hw _ List.mem_cons_self
    have w2 := hw _ (List.mem_cons_of_mem _ List.mem_cons_self)
    unfold zOh1 at hg
    split at hg
    · rename_i pc' st' h' heq
      cases hg
      exact zPutS_ok (ref := "java/util/ArrayList") hx hb hown hts hK hτ (hd 3 rfl (by decide)) (by rw [zF_mod]; exact w1) (fun y hy => by rw [zF_mod] at hy ⊢; exact u_same w2 y hy) (by rw [zF_mod]) hI hS heq (fun H1 locs1 hI1 hS1 hz1 => k _ List.mem_cons_self H1 locs1 cells slots hI1 hS1 (by rw [hz1]; exact hc1) hc2)
    · cases hg
  · exact zCka_ok hx hb hown hw (hd 3 rfl (by decide)) hc1 hc2 hI hS hg k
  · exact zArc_ok hx hb hml hown hK hO hτ hw (hd 3 rfl (by decide)) hfr hlo hc1 hc2 hI hS hg k
  · split at hg
    · rename_i ha
      subst ha
      exact zCln_ok hx hb hml hown hτ hw (hd 3 rfl (by decide)) hfr hlo hbase hc1 hc2 hR1 hR2 hI hS hg k
    · rename_i ha
      exact zGcl_ok hx hb hml hown ha hw hSt (hd 3 rfl (by decide)) hfr hlo hc1 hc2 hI hS hg k
  · cases hg
end zXs
def zKe (i : Instr) (a b : Nat) : Nat := if 5000 ≤ b then 8 else zKd i a b
theorem zKe_of {i : Instr} {a b k : Nat} (h : zKe i a b = k) (hk : k ≠ 8) : zKd i a b = k ∧ b < 5000 := by
  unfold zKe at h
  split at h
  · exact absurd h.symm hk
  · rename_i hb
    exact ⟨h, Nat.lt_of_not_le hb⟩
theorem zKe_lt {i : Instr} {a b : Nat} (h : b < 5000) : zKe i a b = zKd i a b := by
  unfold zKe
  rw [if_neg (by omega)]
