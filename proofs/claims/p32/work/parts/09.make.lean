/-! ===== the small machine: what makes cells ===== -/
def zDef (a : Nat) : List Value := match vwCl[a]? with
  | some r => (List.range r.2.2).map (fun k => defaultValue (zFT a k))
  | none => []
abbrev zOm : Type := Option (Nat × List Value × List zC × Nat)
/-- an instruction that makes cells: an object, an array, an array of arrays -/
def zMk (i : Instr) (a pc : Nat) (st : List Value) (h : List zC) (u : Nat) : zOm := match i with
  | .new _ => if a < vwCl.length ∧ a < 90 ∧ h.length + 1 ≤ zCM ∧ u + zCn a ≤ zSN then some (pc + 3, .ref h.length :: st, h ++ [(a, zDef a)], u + zCn a) else none
  | .newarray at1 => match st with
    | .int n :: r => if 100 ≤ a ∧ zTy a = newarray.typeOf at1 ∧ ¬ n < 0 ∧ n.toNatClampNeg * 8 ≤ 536870912 ∧ h.length + 1 ≤ zCM ∧ u + n.toNatClampNeg ≤ zSN then some (pc + 2, .ref h.length :: r, h ++ [(a, List.replicate n.toNatClampNeg (defaultValue (newarray.typeOf at1)))], u + n.toNatClampNeg) else none
    | _ => none
  | .anewarray _ => match st with
    | .int n :: r => if 100 ≤ a ∧ zTy a = .object (zOb a) ∧ ¬ n < 0 ∧ n.toNatClampNeg * 4 ≤ 536870912 ∧ h.length + 1 ≤ zCM ∧ u + n.toNatClampNeg ≤ zSN then some (pc + 3, .ref h.length :: r, h ++ [(a, List.replicate n.toNatClampNeg .null)], u + n.toNatClampNeg) else none
    | _ => none
  | .multianewarray _ d => match st with
    | .int k :: .int n :: r => if d = 2 ∧ a = 104 ∧ ¬ n < 0 ∧ ¬ k < 0 ∧ n.toNatClampNeg ≤ 1000 ∧ k.toNatClampNeg ≤ 1000 ∧ h.length + 1 + n.toNatClampNeg ≤ zCM ∧ u + n.toNatClampNeg + n.toNatClampNeg * k.toNatClampNeg ≤ zSN then
        some (pc + 4, .ref h.length :: r, h ++ ((104, (List.range n.toNatClampNeg).map (fun i => Value.ref (h.length + 1 + i))) :: List.replicate n.toNatClampNeg (100, List.replicate k.toNatClampNeg (.int 0))), u + n.toNatClampNeg + n.toNatClampNeg * k.toNatClampNeg) else none
    | _ => none
  | _ => none
theorem zsum_split {b : Nat} {s T : State} {locs : List Loc} {k n : Nat} (hb : b ≤ s.heap.size) (h : s.sameButNew T locs k n) : zsum b T.heap = zsum b s.heap + ((T.heap.toList.drop s.heap.size).map (fun c => c.slots.size)).sum := by
  obtain ⟨-, h2, -, -, -, h6⟩ := h
  have hm : (T.heap.toList.take s.heap.size).map (fun c => c.slots.size) = s.heap.toList.map (fun c => c.slots.size) := by
    apply List.ext_getElem?
    intro i
    rw [List.getElem?_map, List.getElem?_map, List.getElem?_take, Array.getElem?_toList, Array.getElem?_toList]
    by_cases e : i < s.heap.size
    · rw [if_pos e]
      obtain ⟨c', e1, -, e3, -⟩ := h6 i _ (Array.getElem?_eq_getElem e)
      rw [e1, Array.getElem?_eq_getElem e]
      simp [e3]
    · rw [if_neg e, Array.getElem?_eq_none (by omega)]
  have hs : T.heap.toList.drop b = (T.heap.toList.take s.heap.size).drop b ++ T.heap.toList.drop s.heap.size := by
    have e1 : T.heap.toList = T.heap.toList.take s.heap.size ++ T.heap.toList.drop s.heap.size := (List.take_append_drop _ _).symm
    have e2 : (T.heap.toList.take s.heap.size).length = s.heap.size := by rw [List.length_take, Array.length_toList]; omega
    calc T.heap.toList.drop b = (T.heap.toList.take s.heap.size ++ T.heap.toList.drop s.heap.size).drop b := by rw [← e1]
      _ = _ := List.drop_append_of_le_length (by rw [e2]; exact hb)
  unfold zsum
  rw [hs, List.map_append, List.sum_append, List.map_drop, hm, ← List.map_drop]
theorem z_outer (c : ClassId) (N h0 : Nat) : ∀ i : Nat, Jvm.Free.Multi.outerC c N h0 i = arrV c N (fun j => if j < i then .ref (h0 + 1 + j) else .null)
  | 0 => by
    show ({ cls := c, slots := Array.replicate N .null, vm := .none } : Cell) = _
    rw [arrV_new]
    apply arrV_congr
    intro k _
    simp
  | i + 1 => by
    show (Jvm.Free.Multi.outerC c N h0 i).setSlot i (.ref (h0 + 1 + i)) = _
    rw [z_outer c N h0 i, arrV_store]
    apply arrV_congr
    intro j _
    unfold updV
    by_cases e : j = i
    · subst e
      simp
    · by_cases h : j < i
      · simp [e, h, Nat.lt_succ_of_lt h]
      · simp [e, h, show ¬ j < i + 1 by omega]
section zMkS
variable {p : Program} {l : Launch} {e : Env} {R : Room} {s : State} {m : MethodId} {args : Array Value} {below : List Frame} {meth : Method} {c : Code} {H : Heap} {locs : List Loc} {cells slots : Nat} {Q : State → Prop}
variable {cc : ByteArray} {D : va_G} {base : Nat} {τ : Nat → Nat} {own : String} {pc pc' a u u' u0 : Nat} {st st' : List Value} {ls : Array Slot} {h h' : List zC}
theorem va_S_push {A : Nat → Prop} {H0 : Heap} {x : Cell} (hS : va_S A H0 H locs) : va_S A H0 (H.push x) locs :=
  ⟨by have := hS.1; simp; omega, fun q h1 h2 => by rw [Array.getElem?_push, if_neg (by have := hS.1; omega)]; exact hS.2.1 q h1 h2, hS.2.2⟩
theorem zt_def (τ : Nat → Nat) (ty : FieldType) : zt τ (defaultValue ty) = defaultValue ty := by cases ty <;> rfl
theorem arr_new {cA : ClassId} {τ : Nat → Nat} {N : Nat} {v : Value} (hv : zt τ v = v) : ({ cls := cA, slots := Array.replicate N v, vm := .none } : Cell) = arrV cA (List.replicate N v).length (fun k => zt τ ((List.replicate N v).getD k .null)) := by
  rw [arrV_new, List.length_replicate]
  apply arrV_congr
  intro k hk
  rw [List.getD_eq_getElem?_getD, List.getElem?_replicate, if_pos hk]
  exact hv.symm
theorem arrOf_of {cA comp : ClassId} {kA : Class} {ty : FieldType} (h1 : s.vm.classes[cA]? = some kA) (h2 : kA.kind = .array comp ty) : ArrOfT s cA ty := fun n z => ⟨(fun k q => nomatch q), ⟨kA, h1, comp, h2⟩⟩
theorem cb8 (ty : FieldType) : componentBytes ty ≤ 8 := by cases ty <;> simp [componentBytes]
set_option maxHeartbeats 1000000 in
theorem zMk_ok {i : Instr} {n : Nat} (hx : p.tables.exec = Jvm.exec) (hb : c.code = cc) (hown : s.vm.findClass own = some m.cls) (hts : ∀ w ∈ zT, w.before args s = true) (hK : va_K D vwCl [] s) (hτ : zTau base τ) (hdg : decode cc pc = .ok (i, n)) (hn : zLen i = 0 ∨ n = zLen i) (hw : ∀ w ∈ zNk own i a, w.before args s = true)
    (hbase : base ≤ s.heap.size) (hc1 : cells + s.heap.size = H.size) (hc2 : slots + u0 = u) (hR1 : base + zCM ≤ R.cells + s.heap.size + zro) (hR2 : zSN ≤ R.slots + u0)
    (hI : zInv D base τ s h u H) (hS : va_S (fun q => base ≤ q) s.heap H locs) (hg : zMk i a pc st h u = some (pc', st', h', u'))
    (k : ∀ H1 cells1 slots1, zInv D base τ s h' u' H1 → va_S (fun q => base ≤ q) s.heap H1 locs → cells1 + s.heap.size = H1.size → slots1 + u0 = u' → W p l e R s m args below meth c H1 locs cells1 slots1 Q (F0 m pc' ls (st'.map (zt τ)))) : W p l e R s m args below meth c H locs cells slots Q (F0 m pc ls (st.map (zt τ))) := by
  have hd : zLen i ≠ 0 → n = zLen i := fun q => hn.resolve_left q
  have hI3 : H.size + zro = base + h.length := hI.2.2.1
  have hI2 : zro ≤ h.length := hI.2.1
  have hz : zro = 16 := rfl
  unfold zMk at hg
  split at hg
  · rename_i x
    split at hg
    · rename_i hc
      obtain ⟨ha, ha9, hL, hU⟩ := hc
      cases hg
      have hn3 : n = 3 := hd (by simp [zLen])
      subst hn3
      obtain ⟨rr, hr⟩ : ∃ rr, vwCl[a]? = some rr := ⟨vwCl[a], List.getElem?_eq_getElem ha⟩
      have hcn : zCn a = rr.2.2 := by unfold zCn; rw [hr]
      have hdf : zDef a = (List.range rr.2.2).map (fun k => defaultValue (zFT a k)) := by unfold zDef; rw [hr]
      have hKn := hK.1 _ _ hr
      have hw2 := hw
      unfold zNk at hw2
      rw [zNm_of hr] at hw2
      refine W.newc hx hb hown (hw2 _ List.mem_cons_self) (hw2 _ (List.mem_cons_of_mem _ List.mem_cons_self)) (hw2 _ (List.mem_cons_of_mem _ (List.mem_cons_of_mem _ List.mem_cons_self))) rfl hdg (by omega) (by omega) fun cC kC e1 e2 e3 e4 => ?_
      cases Option.some.inj (hKn.2.1.symm.trans e1)
      have hob : va_at D vwCl (H.size, .inr (a, (zDef a).map (zt τ))) (H.push (blank (D.1 a) kC)) := by
        refine ⟨rr, hr, (u_born (zFT a) hts (zIn _ _ hr) hKn e2 (H := H.push (blank (D.1 a) kC)) (by simp) (zTyOk _ _ hr)).to (fun k hk => ?_)⟩
        show _ = vp_V ((zDef a).map (zt τ)) k
        unfold vp_V
        rw [hdf, List.getD_eq_getElem?_getD, List.getElem?_map, List.getElem?_map, List.getElem?_range hk]
        exact (zt_def τ _).symm
      have hln : ∀ r : vw_C, vwCl[a]? = some r → (zDef a).length = r.2.2 := fun r2 hr2 => by
        cases hr.symm.trans hr2
        rw [hdf]
        simp
      obtain ⟨hI1, hta⟩ := zInv_push (c := (a, zDef a)) (n := zCn a) (cell := blank (D.1 a) kC) hτ hI (by rw [show (blank (D.1 a) kC).slots.size = kC.instanceTypes.size by simp [blank], e4, hcn]) hL hU (zAt.ofObj ha9 hob hln)
      have kk := k (H.push (blank (D.1 a) kC)) (cells + 1) (slots + zCn a) hI1 (va_S_push hS) (by simp; omega) (by omega)
      rw [List.map_cons] at kk
      have e9 : zt τ (.ref h.length) = .ref H.size := by show Value.ref (τ h.length) = _; rw [hta]
      rw [e9] at kk
      exact kk
    · cases hg
  · rename_i at1
    split at hg
    · rename_i n1 r
      split at hg
      · rename_i hc
        obtain ⟨ha, hty, hn0, hby, hL, hU⟩ := hc
        cases hg
        have hn3 : n = 2 := hd (by simp [zLen])
        subst hn3
        have hbb : n1.toNatClampNeg * componentBytes (newarray.typeOf at1) ≤ 536870912 := Nat.le_trans (Nat.mul_le_mul_left _ (cb8 _)) hby
        refine W.newa hx hb (hw _ List.mem_cons_self) rfl hdg rfl hn0 hbb (by omega) (by omega) fun cA kA comp e1 e2 e3 => ?_
        have hdv := zt_def τ (newarray.typeOf at1)
        obtain ⟨hI1, hta⟩ := zInv_push (c := (a, List.replicate n1.toNatClampNeg (defaultValue (newarray.typeOf at1)))) (n := n1.toNatClampNeg) (cell := { cls := cA, slots := Array.replicate n1.toNatClampNeg (defaultValue (newarray.typeOf at1)), vm := .none }) hτ hI (by simp) hL hU
          (zAt.ofArr (cA := cA) ha (by rw [arr_new hdv]; simp) (by rw [hty]; exact arrOf_of e2 e3) (by rw [hty]; cases at1 <;> exact e1))
        have kk := k _ (cells + 1) (slots + n1.toNatClampNeg) hI1 (va_S_push hS) (by simp; omega) (by omega)
        rw [List.map_cons] at kk
        have e9 : zt τ (.ref h.length) = .ref H.size := by show Value.ref (τ h.length) = _; rw [hta]
        rw [e9] at kk
        exact kk
      · cases hg
    · cases hg
  · rename_i x
    split at hg
    · rename_i n1 r
      split at hg
      · rename_i hc
        obtain ⟨ha, hty, hn0, hby, hL, hU⟩ := hc
        cases hg
        have hn3 : n = 3 := hd (by simp [zLen])
        subst hn3
        refine W.anew hx hb hown (hw _ List.mem_cons_self) (hw _ (List.mem_cons_of_mem _ List.mem_cons_self)) rfl hdg rfl hn0 hby (by omega) (by omega) fun cA kA comp e1 e2 e3 e4 => ?_
        obtain ⟨hI1, hta⟩ := zInv_push (c := (a, List.replicate n1.toNatClampNeg .null)) (n := n1.toNatClampNeg) (cell := { cls := cA, slots := Array.replicate n1.toNatClampNeg .null, vm := .none }) hτ hI (by simp) hL hU
          (zAt.ofArr (cA := cA) ha (by rw [arr_new (τ := τ) (v := .null) rfl]; simp) (by rw [hty]; exact arrOf_of e2 e3) (by rw [hty]; exact ⟨kA, comp, e2, e3, e4, e1⟩))
        have kk := k _ (cells + 1) (slots + n1.toNatClampNeg) hI1 (va_S_push hS) (by simp; omega) (by omega)
        rw [List.map_cons] at kk
        have e9 : zt τ (.ref h.length) = .ref H.size := by show Value.ref (τ h.length) = _; rw [hta]
        rw [e9] at kk
        exact kk
      · cases hg
    · cases hg
  · rename_i x d
    split at hg
    · rename_i k1 n1 r
      split at hg
      · rename_i hc
        obtain ⟨hd2, ha, hn0, hk0, hn9, hk9, hL, hU⟩ := hc
        cases hg
        subst hd2
        subst ha
        have hn3 : n = 4 := hd (by simp [zLen])
        subst hn3
        intro T hT X
        have hw1 := hw _ List.mem_cons_self
        have hw2 := hw _ (List.mem_cons_of_mem _ List.mem_cons_self)
        have hw3 := hw _ (List.mem_cons_of_mem _ (List.mem_cons_of_mem _ List.mem_cons_self))
        obtain ⟨vm₁, cA, comp, hW1, hfA, hfC, hO, hIn, X', step⟩ := X.multianewarray2F hx (ty := .int) hown hw1 hw2 hw3 (g := F0 m pc ls (.int k1 :: .int n1 :: r.map (zt τ))) rfl (by rw [hb]; exact hdg) rfl hn0 hk0 (by omega) (by show k1.toNatClampNeg * 4 ≤ _; omega) (by omega) rfl rfl (by omega) (by omega)
        have hTh : (T.setVm vm₁).heap = H := hT
        obtain ⟨f1, f2, -, f4⟩ := Jvm.Free.Multi.fill_facts (T.setVm vm₁) cA comp n1.toNatClampNeg k1.toNatClampNeg (defaultValue .int) n1.toNatClampNeg
        have f3 := fun (q : Nat) (hq : q < (T.setVm vm₁).heap.size) => Jvm.Free.Multi.fill_old (T.setVm vm₁) cA comp n1.toNatClampNeg k1.toNatClampNeg (defaultValue .int) (a := q) hq n1.toNatClampNeg
        have f5 := Jvm.Free.Multi.fill_inner (T.setVm vm₁) cA comp n1.toNatClampNeg k1.toNatClampNeg (defaultValue .int) n1.toNatClampNeg
        generalize hFd : Jvm.Free.Multi.fill (T.setVm vm₁) cA comp n1.toNatClampNeg k1.toNatClampNeg (defaultValue .int) n1.toNatClampNeg = F at X' step f1 f2 f3 f4 f5
        rw [hTh] at f1 f2 f3 f5
        have hsu : zsum base F.heap = u + n1.toNatClampNeg + n1.toNatClampNeg * k1.toNatClampNeg := by
          have hbs : base ≤ s.heap.size ∨ ¬ base ≤ s.heap.size := Classical.em _
          rcases hbs with hbs | hbs
          · have a1 : zsum base F.heap = zsum base s.heap + ((F.heap.toList.drop s.heap.size).map (fun c => c.slots.size)).sum := zsum_split (T := F.setVm s.vm) hbs X'.same
            have a2 : zsum base T.heap = zsum base s.heap + ((T.heap.toList.drop s.heap.size).map (fun c => c.slots.size)).sum := zsum_split (T := T.setVm s.vm) hbs X.same
            have a3 : F.slotsUsed = s.slotsUsed + ((F.heap.toList.drop s.heap.size).map (fun c => c.slots.size)).sum := X'.same.2.2.2.1
            have a4 : T.slotsUsed = s.slotsUsed + ((T.heap.toList.drop s.heap.size).map (fun c => c.slots.size)).sum := X.same.2.2.2.1
            have a5 : F.slotsUsed = T.slotsUsed + n1.toNatClampNeg + n1.toNatClampNeg * k1.toNatClampNeg := f4
            have a6 : zsum base T.heap = u := by rw [hT]; exact hI.2.2.2.1
            omega
          · exact absurd hbase hbs
        have hAO : ArrOfT s cA (.array .int) := fun n z => by
          obtain ⟨-, kk, q1, q2⟩ := (hO 0 0 0).1
          exact ⟨(fun k q => nomatch q), kk, q1, q2⟩
        have hAI : ArrOfT s comp .int := fun n z => by
          obtain ⟨-, kk, q1, q2⟩ := (hIn 0 .null).1
          exact ⟨(fun k q => nomatch q), kk, q1, q2⟩
        have hI1 : zInv D base τ s (h ++ ((104, (List.range n1.toNatClampNeg).map (fun i => Value.ref (h.length + 1 + i))) :: List.replicate n1.toNatClampNeg (100, List.replicate k1.toNatClampNeg (.int 0)))) (u + n1.toNatClampNeg + n1.toNatClampNeg * k1.toNatClampNeg) F.heap := by
          have hz16 : zro = 16 := rfl
          refine ⟨fun i c hic => ?_, by simp; omega, by simp; omega, hsu, by simp; omega, hU, fun i c hic hnf => ?_⟩
          rotate_left
          · have hj2 : i < h.length := by
              have q : ¬ (h.length ≤ i) := fun q => hnf ⟨by omega, by omega⟩
              omega
            rw [List.getElem?_append_left hj2] at hic
            exact hI.2.2.2.2.2.2 i c hic hnf
          rcases Nat.lt_or_ge i h.length with e | e
          · rw [List.getElem?_append_left e] at hic
            by_cases hf : zfr i
            · refine (hI.1 i c hic).kept (f3 _ ?_)
              rcases Nat.lt_or_ge i zro with e4 | e4
              · have := hτ.2.1 i e4 hf; omega
              · have := hτ.1 i e4; omega
            · exact zAt.free (hI.2.2.2.2.2.2 i c hic hf)
          · have hti : τ i = H.size + (i - h.length) := by have := hτ.1 i (Nat.le_trans hI2 e); omega
            rw [List.getElem?_append_right e] at hic
            rcases Nat.eq_zero_or_pos (i - h.length) with e2 | e2
            · rw [e2] at hic hti
              cases hic
              refine zAt.ofArr (cA := cA) (Nat.le_of_ble_eq_true rfl) ?_ hAO hfA
              rw [hti, Nat.add_zero, f2, z_outer]
              simp only [List.length_map, List.length_range]
              congr 1
              apply arrV_congr
              intro j hj
              rw [if_pos hj, List.getD_eq_getElem?_getD, List.getElem?_map, List.getElem?_range hj]
              show _ = Value.ref (τ (h.length + 1 + j))
              have e7 := hτ.1 (h.length + 1 + j) (by omega)
              have e8 : H.size + 1 + j = τ (h.length + 1 + j) := by omega
              rw [← e8]
            · obtain ⟨j, hj⟩ : ∃ j, i - h.length = j + 1 := ⟨i - h.length - 1, by omega⟩
              rw [hj, List.getElem?_cons_succ] at hic
              have hjn : j < n1.toNatClampNeg := by
                have := (List.getElem?_eq_some_iff.mp hic).1
                simpa using this
              rw [List.getElem?_replicate, if_pos hjn] at hic
              cases hic
              refine zAt.ofArr (cA := comp) (Nat.le_of_ble_eq_true rfl) ?_ hAI hfC
              rw [hti, hj, show H.size + (j + 1) = H.size + 1 + j by omega, f5 j hjn]
              exact congrArg some (arr_new (τ := τ) (v := .int 0) rfl)
        have hta : τ h.length = H.size := by have := hτ.1 _ hI2; omega
        have hS1 : va_S (fun q => base ≤ q) s.heap F.heap locs := ⟨by have := hS.1; omega, fun q h1 h2 => by rw [f3 q (by have := hS.1; omega)]; exact hS.2.1 q h1 h2, hS.2.2⟩
        obtain ⟨t, a1, b1⟩ := k F.heap (cells + 1 + n1.toNatClampNeg) (slots + n1.toNatClampNeg + n1.toNatClampNeg * k1.toNatClampNeg) hI1 hS1 (by omega) (by omega) F rfl X'
        refine ⟨t, step t ?_, b1⟩
        have e9 : zt τ (.ref h.length) = .ref T.heap.size := by show Value.ref (τ h.length) = _; rw [hta, hT]
        rw [List.map_cons, e9] at a1
        exact a1
      · cases hg
    · cases hg
  · cases hg
end zMkS
