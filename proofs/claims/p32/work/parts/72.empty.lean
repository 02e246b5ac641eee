/-! ===== what the premises give of the start's cells: the empty text, the tables ===== -/
theorem z_typed {s : State} {a : Nat} {cell : Cell} {kC : Class} {i : Nat} {ty : FieldType} (hF : s.Fit) (hc : s.heap[a]? = some cell) (hst : cell.vm.isStatics = false) (hk : s.vm.classes[cell.cls]? = some kC) (hkind : kC.kind = .ordinary) (hty : kC.instanceTypes[i]? = some ty) (hsz : cell.slots.size = kC.instanceTypes.size) : ∃ v, cell.slots[i]? = some v ∧ fits ty v = true := by
  have hlt : i < cell.slots.size := by rw [hsz]; exact (Array.getElem?_eq_some_iff.mp hty).1
  refine ⟨cell.slots[i], Array.getElem?_eq_getElem hlt, ?_⟩
  have h := hF a cell hc i _ (Array.getElem?_eq_getElem hlt)
  cases hvm : cell.vm <;> first | (exfalso; rw [hvm] at hst; simp [VmData.isStatics] at hst; done) | simpa [State.fitsSlot, State.slotType?, hvm, hk, hkind, hty] using h
theorem z_empty {args : Array Value} {s : State} {cC : ClassId} {iS : Nat → Nat} (hF : heapFits s = true) (hts : ∀ w ∈ zT, w.before args s = true) (hfl : ∀ w ∈ zFl, w.before args s = true) (hK : u_Kn s RJ0 TJ0 4 cC iS) (hs : (Cond.stringRef "OnecodeChanceryModel" 34 "").before args s = true) :
    ∃ (sa va : Nat) (x z : Int32) (cell : Cell), (z = 0 ∨ z = 1) ∧ vk_R "OnecodeChanceryModel" 34 "" sa s ∧ va_T .byte va 0 (fun _ => .null) (fun q => s.heap.size ≤ q) s s.heap ∧ s.heap[sa]? = some cell ∧ cell.cls = cC ∧ (cell.vm ≠ .unknown ∧ cell.vm.isStatics = false) ∧
      cell.slots[iS 0]? = some (.ref va) ∧ cell.slots[iS 1]? = some (.int 0) ∧ cell.slots[iS 2]? = some (.int x) ∧ cell.slots[iS 3]? = some (.int z) := by
  have fl := fun w hw => hfl w (zFk_in w hw)
  obtain ⟨a, c, cell, k, q1, q2, q3, q4, q5, q6, q7⟩ := Cond.exactly_spec (args := args) (first := s) (o := none) (s := s) (idx := []) (fl (Cond.exactly (.string "OnecodeChanceryModel" 34) "java/lang/String") (List.mem_of_getElem? (show zFk[14]? = some _ from rfl)))
  obtain ⟨hS, hfc, kC, hkC, hkind⟩ := hK
  have ec : c = cC := Option.some.inj (q2.symm.trans hfc)
  subst ec
  subst q6
  have ek : k = kC := Option.some.inj (q4.symm.trans hkC)
  subst ek
  have hF2 : s.Fit := (heapFits'_iff s).mp hF
  have hA : ∀ a : Nat, a < s.heap.size → ¬ s.heap.size ≤ a := fun a h1 h2 => by omega
  obtain ⟨va, hva, hT⟩ := va_Tof (N := 0) (f := fun _ => .null) (A := fun q => s.heap.size ≤ q) (by decide) (fl (Cond.arrayOf (.field (.string "OnecodeChanceryModel" 34) "java/lang/String" "value" "[B") .byte) (List.mem_of_getElem? (show zFk[16]? = some _ from rfl))) (va_eqt (fl (Cond.eq (.length (.field (.string "OnecodeChanceryModel" 34) "java/lang/String" "value" "[B")) (.int 0)) (List.mem_of_getElem? (show zFk[17]? = some _ from rfl)))) (fun j hj => absurd hj (Nat.not_lt_zero j)) hA
  obtain ⟨cf1, kf1, fi1, f1, cell1, g1, -, g3, g4, g5, -⟩ := vk_OFof (A := fun q => s.heap.size ≤ q) q1 hva hA
  obtain ⟨cf2, kf2, fi2, f2, cell2, e1, -, e3, -, e5, -⟩ := vk_OFof (A := fun q => s.heap.size ≤ q) q1 (va_eqt (fl (Cond.eq (.field (.string "OnecodeChanceryModel" 34) "java/lang/String" "coder" "B") (.int 0)) (List.mem_of_getElem? (show zFk[15]? = some _ from rfl)))) hA
  cases Option.some.inj (q3.symm.trans g3)
  cases Option.some.inj (q3.symm.trans e3)
  have slot : ∀ j, j < 4 → ∃ v, cell.slots[iS j]? = some v ∧ fits (tyJ0 j) v = true := fun j hj => by
    obtain ⟨cf, kf, fi, fd, hi, hsl⟩ := hS j hj
    have h3 := (u_facts hfc hkC (u_lays hts (zIn 0 (RJ0, TJ0, 4) rfl) hj) hi).2.2
    rw [(State.fieldFound?_type hi (tyJ0_ok j hj)).2] at h3
    obtain ⟨v, h4, h5⟩ := z_typed hF2 q3 q5 hkC hkind h3 (q7 hkind)
    exact ⟨v, by rw [← hsl]; exact h4, h5⟩
  have s0 : cell.slots[iS 0]? = some (.ref va) := by
    obtain ⟨cf, kf, fi, fd, hi, hsl⟩ := hS 0 (by decide)
    have hi : s.fieldFound? "java/lang/String" "value" "[B" = some (cf, kf, fi, fd) := hi
    cases Option.some.inj (hi.symm.trans g1)
    rw [← hsl]
    exact g5
  have s1 : cell.slots[iS 1]? = some (.int 0) := by
    obtain ⟨cf, kf, fi, fd, hi, hsl⟩ := hS 1 (by decide)
    have hi : s.fieldFound? "java/lang/String" "coder" "B" = some (cf, kf, fi, fd) := hi
    cases Option.some.inj (hi.symm.trans e1)
    rw [← hsl]
    exact e5
  obtain ⟨v2, h2, t2⟩ := slot 2 (by decide)
  obtain ⟨v3, h3, t3⟩ := slot 3 (by decide)
  obtain ⟨x, rfl⟩ := isInt_of_fits (t := .int) rfl t2
  obtain ⟨z, rfl⟩ := isInt_of_fits (t := .boolean) rfl t3
  have hz : z = 0 ∨ z = 1 := by
    have t4 : (z == 0 || z == 1) = true := t3
    simpa using t4
  exact ⟨a, va, x, z, cell, hz, vk_R.of hs q1, hT, q3, rfl, ⟨g4, q5⟩, s0, s1, h2, h3⟩
theorem z_rd {ty : FieldType} {t n : Nat} {f : Nat → Value} {A : Nat → Prop} {U : State} {H : Heap} {τ : Nat → Nat} {l : List Value} (h : va_T ty t n f A U H) (hl : l.length = n) (hv : ∀ j : Nat, j < n → zt τ (l.getD j .null) = f j) : zRdA U τ t ty l H := by
  obtain ⟨cell, h1, h2, h3, h4, h5, h6, -⟩ := h
  subst hl
  exact ⟨cell, h1, h2, h3, ⟨h4, h5⟩, fun j hj => by rw [h6 j hj, hv j hj]⟩
theorem z_lt {ty : FieldType} {t n : Nat} {f : Nat → Value} {A : Nat → Prop} {U : State} {H : Heap} (h : va_T ty t n f A U H) : t < H.size := by
  obtain ⟨cell, h1, -⟩ := h
  exact (Array.getElem?_eq_some_iff.mp h1).1
theorem z_isRef {args : Array Value} {s : State} {t : Term} (h : (Cond.isRef t).before args s = true) : t.eval args s none [] s = some .null ∨ ∃ q : Nat, t.eval args s none [] s = some (.ref q) := by
  cases hv : t.eval args s none [] s with
  | none => simp [Cond.before, Cond.holds, Cond.value, hv] at h
  | some w =>
    simp only [Cond.before, Cond.holds, Cond.value, hv] at h
    cases w with
    | null => exact Or.inl rfl
    | ref q => exact Or.inr ⟨q, rfl⟩
    | _ => simp at h
