/-! ===== the small machine: what makes cells ===== -/
def zDef (a : Nat) : List Value := match vwCl[a]? with
  | some r => (List.range r.2.2).map (fun k => defaultValue (zFT a k))
  | none => []
def zCn (a : Nat) : Nat := match vwCl[a]? with
  | some r => r.2.2
  | none => 0
def zOb (a : Nat) : String := match zTy a with
  | .object C => C
  | _ => ""
abbrev zOm : Type := Option (Nat × List Value × List zC × Nat)
/-- an instruction that makes cells: an object, an array, an array of arrays -/
def zMk (i : Instr) (a pc : Nat) (st : List Value) (h : List zC) (u : Nat) : zOm := match i with
  | .new _ => if a < vwCl.length ∧ a < 90 ∧ h.length + 1 ≤ zCM ∧ u + zCn a ≤ zSM then some (pc + 3, .ref h.length :: st, h ++ [(a, zDef a)], u + zCn a) else none
  | .newarray at1 => match st with
    | .int n :: r => if 100 ≤ a ∧ zTy a = newarray.typeOf at1 ∧ ¬ n < 0 ∧ n.toNatClampNeg * 8 ≤ 536870912 ∧ h.length + 1 ≤ zCM ∧ u + n.toNatClampNeg ≤ zSM then some (pc + 2, .ref h.length :: r, h ++ [(a, List.replicate n.toNatClampNeg (defaultValue (newarray.typeOf at1)))], u + n.toNatClampNeg) else none
    | _ => none
  | .anewarray _ => match st with
    | .int n :: r => if 100 ≤ a ∧ zTy a = .object (zOb a) ∧ ¬ n < 0 ∧ n.toNatClampNeg * 4 ≤ 536870912 ∧ h.length + 1 ≤ zCM ∧ u + n.toNatClampNeg ≤ zSM then some (pc + 3, .ref h.length :: r, h ++ [(a, List.replicate n.toNatClampNeg .null)], u + n.toNatClampNeg) else none
    | _ => none
  | .multianewarray _ d => match st with
    | .int k :: .int n :: r => if d = 2 ∧ a = 104 ∧ ¬ n < 0 ∧ ¬ k < 0 ∧ n.toNatClampNeg ≤ 1000 ∧ k.toNatClampNeg ≤ 1000 ∧ h.length + 1 + n.toNatClampNeg ≤ zCM ∧ u + n.toNatClampNeg + n.toNatClampNeg * k.toNatClampNeg ≤ zSM then
        some (pc + 4, .ref h.length :: r, h ++ ((104, (List.range n.toNatClampNeg).map (fun i => Value.ref (h.length + 1 + i))) :: List.replicate n.toNatClampNeg (100, List.replicate k.toNatClampNeg (.int 0))), u + n.toNatClampNeg + n.toNatClampNeg * k.toNatClampNeg) else none
    | _ => none
  | _ => none
def zNk (own : String) (i : Instr) (a : Nat) : List Cond := match i with
  | .new x => [.classLink own x (zNm a), .instantiable (zNm a) (zCn a), .initialized (zNm a)]
  | .newarray t => [.arrayClass (newarray.typeOf t)]
  | .anewarray x => [.classLink own x (zOb a), .arrayOver (.object (zOb a))]
  | .multianewarray x _ => [.classLink own x "[[I", .arrayOver (.array .int), .arrayClass .int]
  | _ => []
section zMkS
variable {p : Program} {l : Launch} {e : Env} {R : Room} {s : State} {m : MethodId} {args : Array Value} {below : List Frame} {meth : Method} {c : Code} {H : Heap} {locs : List Loc} {cells slots : Nat} {Q : State → Prop}
variable {cc : ByteArray} {D : va_G} {base : Nat} {τ : Nat → Nat} {own : String} {pc pc' a u u' u0 : Nat} {st st' : List Value} {ls : Array Slot} {h h' : List zC}
theorem va_S_push {A : Nat → Prop} {H0 : Heap} {x : Cell} (hS : va_S A H0 H locs) : va_S A H0 (H.push x) locs :=
  ⟨by have := hS.1; simp; omega, fun q h1 h2 => by rw [Array.getElem?_push, if_neg (by have := hS.1; omega)]; exact hS.2.1 q h1 h2, hS.2.2⟩
theorem zt_def (τ : Nat → Nat) (ty : FieldType) : zt τ (defaultValue ty) = defaultValue ty := by cases ty <;> rfl
theorem arr_new {cA : ClassId} {τ : Nat → Nat} {N : Nat} {v : Value} (hv : zt τ v = v) : ({ cls := cA, slots := Array.replicate N v, vm := .none } : Cell) = arrV cA (List.replicate N v).length (fun k => zt τ ((List.replicate N v).getD k .null)) := by
  rw [arrV_new, List.length_replicate]
  apply arrV_congr
  intro k hk
  rw [List.getD_eq_getElem?_getD, List.getElem?_replicate, if_pos hk]
  exact hv.symm
theorem arrOf_of {cA comp : ClassId} {kA : Class} {ty : FieldType} (h1 : s.vm.classes[cA]? = some kA) (h2 : kA.kind = .array comp ty) : ArrOfT s cA ty := fun n z => ⟨(fun k q => nomatch q), ⟨kA, h1, comp, h2⟩⟩
theorem cb8 (ty : FieldType) : componentBytes ty ≤ 8 := by cases ty <;> simp [componentBytes]
set_option maxHeartbeats 1000000 in
theorem zMk_ok {i : Instr} {n : Nat} (hx : p.tables.exec = Jvm.exec) (hb : c.code = cc) (hown : s.vm.findClass own = some m.cls) (hts : ∀ w ∈ zT, w.before args s = true) (hK : va_K D vwCl [] s) (hτ : zTau base τ) (hdg : decode cc pc = .ok (i, n)) (hn : zLen i = 0 ∨ n = zLen i) (hw : ∀ w ∈ zNk own i a, w.before args s = true)
    (hc1 : cells + s.heap.size = H.size) (hc2 : slots + u0 = u) (hR1 : base + zCM ≤ R.cells + s.heap.size + zro) (hR2 : zSM ≤ R.slots + u0)
    (hI : zInv D base τ s h u H) (hS : va_S (fun q => base ≤ q) s.heap H locs) (hg : zMk i a pc st h u = some (pc', st', h', u'))
    (k : ∀ H1 cells1 slots1, zInv D base τ s h' u' H1 → va_S (fun q => base ≤ q) s.heap H1 locs → cells1 + s.heap.size = H1.size → slots1 + u0 = u' → W p l e R s m args below meth c H1 locs cells1 slots1 Q (F0 m pc' ls (st'.map (zt τ)))) : W p l e R s m args below meth c H locs cells slots Q (F0 m pc ls (st.map (zt τ))) := by
  have hd : zLen i ≠ 0 → n = zLen i := fun q => hn.resolve_left q
  have hI3 : H.size + zro = base + h.length := hI.2.2.1
  have hI2 : zro ≤ h.length := hI.2.1
  have hz : zro = 16 := rfl
  unfold zMk at hg
  split at hg
  · rename_i x
    split at hg
    · rename_i hc
      obtain ⟨ha, ha9, hL, hU⟩ := hc
      cases hg
      have hn3 : n = 3 := hd (by simp [zLen])
      subst hn3
      obtain ⟨rr, hr⟩ : ∃ rr, vwCl[a]? = some rr := ⟨vwCl[a], List.getElem?_eq_getElem ha⟩
      have hcn : zCn a = rr.2.2 := by unfold zCn; rw [hr]
      have hdf : zDef a = (List.range rr.2.2).map (fun k => defaultValue (zFT a k)) := by unfold zDef; rw [hr]
      have hKn := hK.1 _ _ hr
      have hw2 := hw
      unfold zNk at hw2
      rw [zNm_of hr] at hw2
      refine W.newc hx hb hown (hw2 _ List.mem_cons_self) (hw2 _ (List.mem_cons_of_mem _ List.mem_cons_self)) (hw2 _ (List.mem_cons_of_mem _ (List.mem_cons_of_mem _ List.mem_cons_self))) rfl hdg (by omega) (by omega) fun cC kC e1 e2 e3 e4 => ?_
      cases Option.some.inj (hKn.2.1.symm.trans e1)
      have hob : va_at D vwCl (H.size, .inr (a, (zDef a).map (zt τ))) (H.push (blank (D.1 a) kC)) := by
        refine ⟨rr, hr, (u_born (zFT a) hts (zIn _ _ hr) hKn e2 (H := H.push (blank (D.1 a) kC)) (by simp) (zTyOk _ _ hr)).to (fun k hk => ?_)⟩
        show _ = vp_V ((zDef a).map (zt τ)) k
        unfold vp_V
        rw [hdf, List.getD_eq_getElem?_getD, List.getElem?_map, List.getElem?_map, List.getElem?_range hk]
        exact (zt_def τ _).symm
      have hln : ∀ r : vw_C, vwCl[a]? = some r → (zDef a).length = r.2.2 := fun r2 hr2 => by
        cases hr.symm.trans hr2
        rw [hdf]
        simp
      obtain ⟨hI1, hta⟩ := zInv_push (c := (a, zDef a)) (n := zCn a) (cell := blank (D.1 a) kC) hτ hI (by rw [show (blank (D.1 a) kC).slots.size = kC.instanceTypes.size by simp [blank], e4, hcn]) hL hU (zAt.ofObj ha9 hob hln)
      have kk := k (H.push (blank (D.1 a) kC)) (cells + 1) (slots + zCn a) hI1 (va_S_push hS) (by simp; omega) (by omega)
      rw [List.map_cons] at kk
      have e9 : zt τ (.ref h.length) = .ref H.size := by show Value.ref (τ h.length) = _; rw [hta]
      rw [e9] at kk
      exact kk
    · cases hg
  · rename_i at1
    split at hg
    · rename_i n1 r
      split at hg
      · rename_i hc
        obtain ⟨ha, hty, hn0, hby, hL, hU⟩ := hc
        cases hg
        have hn3 : n = 2 := hd (by simp [zLen])
        subst hn3
        have hbb : n1.toNatClampNeg * componentBytes (newarray.typeOf at1) ≤ 536870912 := Nat.le_trans (Nat.mul_le_mul_left _ (cb8 _)) hby
        refine W.newa hx hb (hw _ List.mem_cons_self) rfl hdg rfl hn0 hbb (by omega) (by omega) fun cA kA comp e1 e2 e3 => ?_
        have hdv := zt_def τ (newarray.typeOf at1)
        obtain ⟨hI1, hta⟩ := zInv_push (c := (a, List.replicate n1.toNatClampNeg (defaultValue (newarray.typeOf at1)))) (n := n1.toNatClampNeg) (cell := { cls := cA, slots := Array.replicate n1.toNatClampNeg (defaultValue (newarray.typeOf at1)), vm := .none }) hτ hI (by simp) hL hU
          (zAt.ofArr (cA := cA) ha (by rw [arr_new hdv]; simp) (by rw [hty]; exact arrOf_of e2 e3) (by rw [hty]; cases at1 <;> exact e1))
        have kk := k _ (cells + 1) (slots + n1.toNatClampNeg) hI1 (va_S_push hS) (by simp; omega) (by omega)
        rw [List.map_cons] at kk
        have e9 : zt τ (.ref h.length) = .ref H.size := by show Value.ref (τ h.length) = _; rw [hta]
        rw [e9] at kk
        exact kk
      · cases hg
    · cases hg
  · rename_i x
    split at hg
    · rename_i n1 r
      split at hg
      · rename_i hc
        obtain ⟨ha, hty, hn0, hby, hL, hU⟩ := hc
        cases hg
        have hn3 : n = 3 := hd (by simp [zLen])
        subst hn3
        refine W.anew hx hb hown (hw _ List.mem_cons_self) (hw _ (List.mem_cons_of_mem _ List.mem_cons_self)) rfl hdg rfl hn0 hby (by omega) (by omega) fun cA kA comp e1 e2 e3 e4 => ?_
        obtain ⟨hI1, hta⟩ := zInv_push (c := (a, List.replicate n1.toNatClampNeg .null)) (n := n1.toNatClampNeg) (cell := { cls := cA, slots := Array.replicate n1.toNatClampNeg .null, vm := .none }) hτ hI (by simp) hL hU
          (zAt.ofArr (cA := cA) ha (by rw [arr_new (τ := τ) (v := .null) rfl]; simp) (by rw [hty]; exact arrOf_of e2 e3) (by rw [hty]; exact ⟨kA, comp, e2, e3, e4, e1⟩))
        have kk := k _ (cells + 1) (slots + n1.toNatClampNeg) hI1 (va_S_push hS) (by simp; omega) (by omega)
        rw [List.map_cons] at kk
        have e9 : zt τ (.ref h.length) = .ref H.size := by show Value.ref (τ h.length) = _; rw [hta]
        rw [e9] at kk
        exact kk
      · cases hg
    · cases hg
  · sorry
  · cases hg
end zMkS
