/-! ===== the small machine's run is the machine's ===== -/
def zFr (d : Nat) : Nat := d + 16
def zLo (d : Nat) : Nat := 80 * d + 400
def zRm (d : Nat) (h : List zC) (u : Nat) : Room := { frames := zFr d, cells := zCM - h.length, slots := zSN - u, locals := zLo d }
/-- the contract of a method at these arguments and this heap -/
def zCtr (l : Launch) (zi : Nat → zI) (D : va_G) (base : Nat) (τ : Nat → Nat) (d j : Nat) (As : List Value) (h : List zC) (u : Nat) (K : zK) : Prop :=
  vx_Met l (zYn (zi j)) (zCw (zi j) :: zT) (zRm d h u) (zPc D base τ h u As) (zQc D base τ K) (zXc D base τ K) (zRm d h u).cells (zRm d h u).slots (zAb base)
/-- what a row of the method j at pc may rest on, of the state that it runs in -/
def zFx (zi : Nat → zI) (p : Program) (R : Room) (s : State) (m : MethodId) (args : Array Value) (meth : Method) (c : Code) (D : va_G) (base : Nat) (τ : Nat → Nat) (u0 j d : Nat) : Prop :=
  p.tables.exec = Jvm.exec ∧ c.code = zBy (zi j) ∧ c.maxLocals = zMl (zi j) ∧ s.vm.findClass (zYn (zi j)).cls = some m.cls ∧ (∀ w ∈ zT, w.before args s = true) ∧ meth.name = (zYn (zi j)).name ∧ c.exceptionTable.toList = tableOf (zHh (zi j)) ∧
  va_K D vwCl [] s ∧ zEnv base s s.heap ∧ zTau base τ ∧ base ≤ s.heap.size ∧ base + zCM ≤ R.cells + s.heap.size + zro ∧ zSN ≤ R.slots + u0 ∧ zFr d ≤ R.frames ∧ zLo d ≤ R.locals ∧ zsum base s.heap = u0 ∧ zSta base τ s s.heap
/-- a call's place: the callee's contract gives the run -/
def zSite (l : Launch) (zi : Nat → zI) (j : Nat) (i : Instr) (a b : Nat) : Prop :=
  ∀ (p : Program) (e : Env) (R : Room) (s : State) (m : MethodId) (args : Array Value) (below : List Frame) (meth : Method) (c : Code) (H : Heap) (locs : List Loc) (cells slots pc base : Nat) (ls : Array Slot) (As rest : List Value) (rm : Room) (Pc : Array Value → State → Prop) (Qc : Array Value → State → Outcome → State → Prop) (XC : String → State → State → Prop) (free : Addr → Prop),
    p.tables.exec = Jvm.exec → c.code = zBy (zi j) → c.maxLocals = zMl (zi j) → s.vm.findClass (zYn (zi j)).cls = some m.cls → (∀ w ∈ zT, w.before args s = true) → zEnv base s s.heap →
    decode (zBy (zi j)) pc = .ok (i, zLen i) → ls.size = zMl (zi j) → As.length = zNp (zi a) → (rest.map (fun v => v.category)).sum ≤ 8 →
    vx_Met l (zYn (zi a)) (zCw (zi a) :: zT) rm Pc Qc XC rm.cells rm.slots free → FrameBlind Pc → (∀ U : State, U.heap = H → s.WarmedH U.vm → Pc As.toArray U) →
    rm.frames + 1 ≤ R.frames → 8 + (zMl (zi a) + 11) + rm.locals ≤ R.locals → cells + rm.cells ≤ R.cells → slots + rm.slots ≤ R.slots →
    (b / 10 = 0 ∨ ∃ (q : Nat) (As2 : List Value) (cellB : Cell) (r : vw_C), As = .ref q :: As2 ∧ H[q]? = some cellB ∧ cellB.vm.isStatics = false ∧ vwCl[b / 10 - 1]? = some r ∧ s.vm.findClass r.1 = some cellB.cls ∧ ClassAt s r.1 cellB.cls) →
    zRunN (zLen i) p l e R s m args below meth c H locs cells slots rm.cells rm.slots (F0 m pc ls (As.reverse ++ rest)) rest (Qc As.toArray) XC free
/-- a constant's place -/
def zCst (l : Launch) (zi : Nat → zI) (j : Nat) (i : Instr) (a b : Nat) : Prop :=
  ∀ (p : Program) (e : Env) (R : Room) (s : State) (m : MethodId) (args : Array Value) (below : List Frame) (meth : Method) (c : Code) (H : Heap) (locs : List Loc) (cells slots pc base u : Nat) (D : va_G) (τ : Nat → Nat) (h : List zC) (Q : State → Prop) (ls : Array Slot) (rest : List Value),
    p.tables.exec = Jvm.exec → c.code = zBy (zi j) → s.vm.findClass (zYn (zi j)).cls = some m.cls → (∀ w ∈ zT, w.before args s = true) → zEnv base s s.heap → zInv D base τ s h u H → va_S (zAb base) s.heap H locs → zTau base τ → zSta base τ s s.heap →
    decode (zBy (zi j)) pc = .ok (i, zLen i) → W p l e R s m args below meth c H locs cells slots Q (F0 m (pc + zLen i) ls (zt τ (zCo i a b) :: rest)) → W p l e R s m args below meth c H locs cells slots Q (F0 m pc ls rest)
/-- a throw's place: the five instructions that make the exception and throw it -/
def zBlk (l : Launch) (zi : Nat → zI) (j pc E : Nat) : Prop :=
  ∀ (p : Program) (e : Env) (R : Room) (s : State) (m : MethodId) (args : Array Value) (below : List Frame) (meth : Method) (c : Code) (H : Heap) (locs : List Loc) (cells slots base mc ms : Nat) (ls : Array Slot) (rest : List Value) (Qc : Array Value → State → Outcome → State → Prop) (XC : String → State → State → Prop),
    p.tables.exec = Jvm.exec → c.code = zBy (zi j) → s.vm.findClass (zYn (zi j)).cls = some m.cls → (∀ w ∈ zT, w.before args s = true) → zEnv base s s.heap → va_S (zAb base) s.heap H locs → c.exceptionTable.toList = tableOf (zHh (zi j)) → ls.size = c.maxLocals → rest = [] →
    16 ≤ R.frames → 400 ≤ R.locals → cells + 1 ≤ R.cells → slots + 6 ≤ R.slots → meth.locks = false →
    (∀ t : State, s.vm.Alike t.vm → H.size ≤ t.heap.size → (∀ q : Nat, q < H.size → t.heap[q]? = H[q]?) → XC (zEx E) s t) → cells + 1 ≤ mc → slots + 6 ≤ ms →
    W p l e R s m args below meth c H locs cells slots (vx_MQ below Qc XC args s mc ms (zAb base)) (F0 m pc ls rest)
/-- what is to be known of each row of the tables -/
def zVr (l : Launch) (zi : Nat → zI) (j pc : Nat) (i : Instr) (a b : Nat) : Prop :=
  (∃ n, decode (zBy (zi j)) pc = .ok (i, n) ∧ (zLen i = 0 ∨ n = zLen i)) ∧
  match zKe i a b with
  | 0 => True
  | 1 => (∀ w ∈ zNg (zYn (zi j)).cls i a b, zWd w) ∧ zSg (zYn (zi j)).cls (zYn (zi j)).name i a b
  | 2 => ∀ w ∈ zNk (zYn (zi j)).cls i a, zWd w
  | 3 => zSite l zi j i a b
  | 4 => True
  | 5 => zBlk l zi j pc (a - 1000) ∧ zTb (zi j) = []
  | 6 => ∃ x, i = .invokespecial x ∧ zWd (.methodLink (zYn (zi j)).cls x objectInit)
  | 7 => zCst l zi j i a b
  | 8 => ∀ w ∈ zNx (zYn (zi j)).cls i a, zWd w
  | _ => True
def zVm (zi : Nat → zI) (j : Nat) : Prop := plainFor (zYn (zi j)) = true ∧ ∀ r ∈ zTb (zi j), r.2.2.2.1 ≠ 0 ∧ zWd (.classLink (zYn (zi j)).cls r.2.2.2.1 (zEx r.2.2.2.2)) ∧ zWd (.castable (zEx r.2.2.2.2) (zEx r.2.2.2.2))
def zVal (l : Launch) (zr : zRow) (zi : Nat → zI) : Prop :=
  (∀ j pc i a b, zr j pc = some (i, a, b) → zVr l zi j pc i a b) ∧ (∀ j, zr j 0 ≠ none → zVm zi j) ∧ (∀ j pc, zr j pc ≠ none → zr j 0 ≠ none) ∧ zWd (.instanceMethod objectInit) ∧ zWd (.code objectInit ⟨#[0xb1]⟩ 1 none)
theorem zWd_ok {base : Nat} {s : State} {args : Array Value} {H : Heap} {w : Cond} (hts : ∀ w ∈ zT, w.before args s = true) (hE : zEnv base s H) (h : zWd w) : w.before args s = true := by
  rcases h with h | ⟨h1, h2⟩
  · exact hts w h
  · have q := hE.2.1 w h1 h2
    cases w <;> first | exact va_Nw.use rfl q | exact q | (exact absurd h2 (by simp [zxw]))
/-- a run of the small machine gives one of the machine, for f steps -/
def zSimAt (l : Launch) (zr : zRow) (zi : Nat → zI) (f : Nat) : Prop :=
  ∀ (d j pc : Nat) (lv : List (Nat × Value)) (st : List Value) (h : List zC) (u : Nat) (K : zK), zW zr zi f d j pc lv st h u K →
    ∀ (p : Program) (e : Env) (R : Room) (s : State) (m : MethodId) (args : Array Value) (below : List Frame) (meth : Method) (c : Code) (H : Heap) (locs : List Loc) (cells slots : Nat) (Q : State → Prop) (ls : Array Slot) (D : va_G) (base : Nat) (τ : Nat → Nat) (u0 : Nat),
    zFx zi p R s m args meth c D base τ u0 j d → zInv D base τ s h u H → va_S (zAb base) s.heap H locs → cells + s.heap.size = H.size → slots + u0 = u → lv_has ls (zMl (zi j)) (zlm τ lv) →
    (∀ (pc : Nat) (i : Instr) (a b : Nat) (st : List Value) (v : Option Value) (h : List zC) (u : Nat) (H : Heap) (locs : List Loc) (cells slots : Nat) (ls : Array Slot), zr j pc = some (i, a, b) → zRt (zRe (zi j)) i st = some v → K (.inl v) h u → zInv D base τ s h u H → va_S (zAb base) s.heap H locs → cells + s.heap.size = H.size → slots + u0 = u → W p l e R s m args below meth c H locs cells slots Q (F0 m pc ls (st.map (zt τ)))) →
    (∀ (pc E : Nat) (h : List zC) (u : Nat) (H : Heap) (locs : List Loc) (cells slots : Nat) (ls : Array Slot) (rest : List Value) (q : Addr) (ce : Cell), zHit (zi j) pc E = none → K (.inr E) h u → zInv D base τ s h u H → va_S (zAb base) s.heap H locs → cells + s.heap.size = H.size → slots + u0 = u → H[q]? = some ce → ce.vm = .none → s.vm.findClass (zEx E) = some ce.cls → vx_W p l e R s m args below meth c H locs cells slots Q (F0 m pc ls rest) q) →
    (∀ (pc : Nat) (i : Instr) (a b : Nat) (st : List Value) (h : List zC) (u : Nat) (H : Heap) (locs : List Loc) (cells slots : Nat) (ls : Array Slot), zr j pc = some (i, a, b) → zKe i a b = 5 → st = [] → h.length + 1 ≤ zCM → u + 6 ≤ zSN → (∀ x y : Nat, x ≤ 1 → y ≤ 6 → K (.inr (a - 1000)) (h ++ List.replicate x (98, [])) (u + y)) → zInv D base τ s h u H → va_S (zAb base) s.heap H locs → cells + s.heap.size = H.size → slots + u0 = u → ls.size = zMl (zi j) → W p l e R s m args below meth c H locs cells slots Q (F0 m pc ls (st.map (zt τ)))) →
    W p l e R s m args below meth c H locs cells slots Q (F0 m pc ls (st.map (zt τ)))
