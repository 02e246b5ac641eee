/-! ===== the small machine: what reads or writes the heap ===== -/
/-- every class of the worlds can be cast to Object -/
def zObjs (U : State) : Prop := ∀ (a : Nat) (r : vw_C), vwCl[a]? = some r → va_Nw (.castable r.1 "java/lang/Object") U

abbrev zOh : Type := Option (Nat × List Value × List zC)
def zGet (a b pc : Nat) (st : List Value) (h : List zC) : zOh := match st with
  | .ref q :: r => match h[q]? with
    | some c => if c.1 = a ∧ a < 90 then match c.2[b]? with
        | some v => some (pc + 3, v :: r, h)
        | none => none
      else none
    | none => none
  | _ => none
def zPut (a b pc : Nat) (st : List Value) (h : List zC) : zOh := match st with
  | v :: .ref q :: r => match h[q]? with
    | some c => if c.1 = a ∧ a < 90 ∧ zro ≤ q ∧ b < c.2.length ∧ zfitv (zFT a b) v = true then some (pc + 3, r, h.set q (c.1, c.2.set b v)) else none
    | none => none
  | _ => none
def zLenA (pc : Nat) (st : List Value) (h : List zC) : zOh := match st with
  | .ref q :: r => match h[q]? with
    | some c => if 100 ≤ c.1 ∨ (93 ≤ c.1 ∧ c.1 < 97) then some (pc + 1, .int (Int32.ofNat c.2.length) :: r, h) else none
    | none => none
  | _ => none
def zLdA (ok : Nat → Bool) (pc : Nat) (st : List Value) (h : List zC) : zOh := match st with
  | .int j :: .ref q :: r => match h[q]? with
    | some c => if ok c.1 = true ∧ ¬ j < 0 then match c.2[j.toNatClampNeg]? with
        | some v => some (pc + 1, v :: r, h)
        | none => none
      else none
    | none => none
  | _ => none
def zStA (ok : Nat → Bool) (f : Nat → Int32 → Value) (pc : Nat) (st : List Value) (h : List zC) : zOh := match st with
  | .int x :: .int j :: .ref q :: r => match h[q]? with
    | some c => if ok c.1 = true ∧ zro ≤ q ∧ ¬ j < 0 ∧ j.toNatClampNeg < c.2.length then some (pc + 1, r, h.set q (c.1, c.2.set j.toNatClampNeg (f c.1 x))) else none
    | none => none
  | _ => none
def zStR (pc : Nat) (st : List Value) (h : List zC) : zOh := match st with
  | .ref v :: .int j :: .ref q :: r => match h[q]?, h[v]? with
    | some c, some cv => if 105 ≤ c.1 ∧ zro ≤ q ∧ ¬ j < 0 ∧ j.toNatClampNeg < c.2.length ∧ cv.1 < 90 ∧ (zTy c.1 = .object (zNm cv.1) ∨ zTy c.1 = .object "java/lang/Object") then some (pc + 1, r, h.set q (c.1, c.2.set j.toNatClampNeg (.ref v))) else none
    | _, _ => none
  | _ => none
def zCk (a pc : Nat) (st : List Value) (h : List zC) : zOh := match st with
  | .ref q :: r => match h[q]? with
    | some c => if c.1 = a ∧ a < 90 then some (pc + 3, .ref q :: r, h) else none
    | none => none
  | _ => none
/-- an instruction that reads or writes the heap, and makes nothing; a: the class' place, b: the field's (1000 more: a nest mate's) -/
def zG (i : Instr) (a b pc : Nat) (st : List Value) (h : List zC) : zOh := match i with
  | .getfield _ => zGet a (b % 1000) pc st h
  | .putfield _ => zPut a (b % 1000) pc st h
  | .arraylength => zLenA pc st h
  | .iaload => zLdA (fun k => k == 100 || k == 96) pc st h
  | .baload => zLdA (fun k => k == 101 || k == 102 || k == 95) pc st h
  | .aaload => zLdA (fun k => decide (104 ≤ k) && (zTy k).isReference) pc st h
  | .iastore => zStA (fun k => k == 100) (fun _ x => .int x) pc st h
  | .bastore => zStA (fun k => k == 101 || k == 102) (fun k x => if k = 101 then narrow .byte (.int x) else narrow .boolean (.int x)) pc st h
  | .aastore => zStR pc st h
  | .checkcast _ => zCk a pc st h
  | _ => none
/-- what is to be true of it besides: a field that is final is written in its own class' constructor alone -/
def zSg (own mn : String) (i : Instr) (a b : Nat) : Prop := match i with
  | .putfield _ => ((zF a (b % 1000)).2.2.2 = true → mn = "<init>" ∧ (zF a (b % 1000)).1 = own ∧ b < 1000)
  | _ => True
section zHp
variable {p : Program} {l : Launch} {e : Env} {R : Room} {s : State} {m : MethodId} {args : Array Value} {below : List Frame} {meth : Method} {c : Code} {H : Heap} {locs : List Loc} {cells slots : Nat} {Q : State → Prop}
variable {cc : ByteArray} {D : va_G} {base : Nat} {τ : Nat → Nat} {own mn : String} {pc pc' a b u : Nat} {st st' : List Value} {ls : Array Slot} {h h' : List zC}
theorem zF_of {r : vw_C} {k : Nat} (hr : vwCl[a]? = some r) : zF a k = r.2.1 k := by
  unfold zF
  rw [hr]
theorem zNm_of {r : vw_C} (hr : vwCl[a]? = some r) : zNm a = r.1 := by
  unfold zNm
  rw [hr]
theorem zA_of (hτ : zTau base τ) {q : Nat} (hq : zro ≤ q) : base ≤ τ q := by have := hτ.1 q hq; omega
theorem zA_own (hτ : zTau base τ) {q : Nat} (hq : zro ≤ q) : τ zro ≤ τ q := by
  have h1 := hτ.1 q hq
  have h2 := hτ.1 zro (Nat.le_refl _)
  omega
theorem zSlotV {a0 : Nat} {rr : vw_C} {cell : Cell} {fs : List Value} {k : Nat} {v : Value} (hts : ∀ w ∈ zT, w.before args s = true) (hK : va_K D vwCl [] s) (hr : vwCl[a0]? = some rr) (hk : k < rr.2.2) (q5 : ∀ j : Nat, j < rr.2.2 → cell.slots[D.2 a0 j]? = some (vp_V fs j)) (hv : fs[k]? = some v) :
    ∃ (cf : ClassId) (kf : Class) (fi : Nat) (f : Field), s.fieldFound? (rr.2.1 k).1 (rr.2.1 k).2.1 (rr.2.1 k).2.2.1 = some (cf, kf, fi, f) ∧ f.isStatic = false ∧ cell.slots[f.slot]? = some v := by
  obtain ⟨hSl, hfc, kC, hkC, hkind⟩ := hK.1 _ _ hr
  obtain ⟨cf, kf, fi, f, hi, hsl⟩ := hSl _ hk
  refine ⟨cf, kf, fi, f, hi, (u_facts hfc hkC (u_lays hts (zIn _ _ hr) hk) hi).1, ?_⟩
  rw [hsl, q5 k hk]
  show some (fs.getD k .null) = _
  rw [List.getD_eq_getElem?_getD, hv]
  rfl
theorem zGet_ok (hx : p.tables.exec = Jvm.exec) (hb : c.code = cc) (hown : s.vm.findClass own = some m.cls) (hts : ∀ w ∈ zT, w.before args s = true) (hK : va_K D vwCl [] s) {x n : Nat} (hdg : decode cc pc = .ok (.getfield x, n)) (hn : n = 3) (hw : ∀ w ∈ zNg own (.getfield x) a b, w.before args s = true)
    (hI : zInv D base τ s h u H) (hg : zGet a (b % 1000) pc st h = some (pc', st', h')) (k : h' = h → W p l e R s m args below meth c H locs cells slots Q (F0 m pc' ls (st'.map (zt τ)))) : W p l e R s m args below meth c H locs cells slots Q (F0 m pc ls (st.map (zt τ))) := by
  subst hn
  unfold zGet at hg
  split at hg
  · rename_i q r
    split at hg
    · rename_i c1 hc1
      split at hg
      · rename_i hc
        obtain ⟨hca, ha⟩ := hc
        split at hg
        · rename_i v hv
          cases hg
          subst hca
          obtain ⟨⟨rr, cell, hr, q1, q2, q3, q5⟩, hlen⟩ := (hI.1 q c1 hc1).obj ha
          have hk : b % 1000 < rr.2.2 := by
            rw [← hlen rr hr]
            exact (List.getElem?_eq_some_iff.mp hv).1
          have hv2 : (c1.2.map (zt τ))[b % 1000]? = some (zt τ v) := by rw [List.getElem?_map, hv]; rfl
          have kk := k rfl
          unfold zNg at hw
          dsimp only at hw
          split at hw
          · rename_i hb1
            rw [Nat.mod_eq_of_lt hb1] at hk hv2
            rw [zF_of hr] at hw
            obtain ⟨cf, kf, fi, f, hi, hst, hsv⟩ := zSlotV hts hK hr hk q5 hv2
            exact W.getf hx hb hown (hw _ List.mem_cons_self) hi hst q1 q3.1 hsv rfl rfl hdg kk
          · rw [zF_of hr] at hw
            obtain ⟨cf, kf, fi, f, hi, hst, hsv⟩ := zSlotV hts hK hr hk q5 hv2
            exact va_Wgetf hx hb hown (hw _ List.mem_cons_self) hi hst q1 q3.1 hsv rfl rfl hdg kk
        · cases hg
      · cases hg
    · cases hg
  · cases hg
theorem zPut_ok (hx : p.tables.exec = Jvm.exec) (hb : c.code = cc) (hown : s.vm.findClass own = some m.cls) (hts : ∀ w ∈ zT, w.before args s = true) (hK : va_K D vwCl [] s) (hτ : zTau base τ) (hmn : meth.name = mn) {x n : Nat} (hdg : decode cc pc = .ok (.putfield x, n)) (hn : n = 3) (hw : ∀ w ∈ zNg own (.putfield x) a b, w.before args s = true) (hs : zSg own mn (.putfield x) a b)
    (hI : zInv D base τ s h u H) (hS : va_S (fun q => base ≤ q) s.heap H locs) (hg : zPut a (b % 1000) pc st h = some (pc', st', h')) (k : ∀ H1 locs1, zInv D base τ s h' u H1 → va_S (fun q => base ≤ q) s.heap H1 locs1 → H1.size = H.size → W p l e R s m args below meth c H1 locs1 cells slots Q (F0 m pc' ls (st'.map (zt τ)))) : W p l e R s m args below meth c H locs cells slots Q (F0 m pc ls (st.map (zt τ))) := by
  subst hn
  unfold zPut at hg
  split at hg
  · rename_i v q r
    split at hg
    · rename_i c1 hc1
      split at hg
      · rename_i hc
        obtain ⟨hca, ha, hzq, hbl, hfit⟩ := hc
        cases hg
        subst hca
        obtain ⟨hat, hlen⟩ := (hI.1 q c1 hc1).own ha (zA_own hτ hzq)
        obtain ⟨rr, hr, hOB⟩ := id hat
        have hk : b % 1000 < rr.2.2 := by
          rw [← hlen rr hr]
          exact hbl
        have hP : va_P D vwCl [(τ q, .inr (c1.1, c1.2.map (zt τ)))] H := fun i y hy => by
          match i, hy with
          | 0, hy => cases hy; exact hat
          | i + 1, hy => simp at hy
        have hD : va_D (fun q => base ≤ q) [(τ q, (.inr (c1.1, c1.2.map (zt τ)) : va_E))] := by
          refine ⟨fun i j y z hy hz _ => ?_, fun i y hy => ?_⟩
          · have h1 := (List.getElem?_eq_some_iff.mp hy).1
            have h2 := (List.getElem?_eq_some_iff.mp hz).1
            simp at h1 h2
            omega
          · match i, hy with
            | 0, hy => cases hy; exact zA_of hτ hzq
            | i + 1, hy => simp at hy
        obtain ⟨hn1, hf1⟩ := zfitv_t (τ := τ) hfit
        have hpd := zTyOk _ _ hr (b % 1000) hk
        have hl2 : b % 1000 < (c1.2.map (zt τ)).length := by rw [List.length_map]; exact hbl
        have fin : ∀ (H1 : Heap) (locs1 : List Loc), va_P D vwCl [(τ q, .inr (c1.1, (c1.2.map (zt τ)).set (b % 1000) (zt τ v)))] H1 → va_S (fun q => base ≤ q) s.heap H1 locs1 → H1.size = H.size → (∀ z, z ≠ τ q → H1[z]? = H[z]?) → (∃ x y : Cell, H[τ q]? = some x ∧ H1[τ q]? = some y ∧ y.slots.size = x.slots.size) → W p l e R s m args below meth c H1 locs1 cells slots Q (F0 m (pc + 3) ls (st'.map (zt τ))) := by
          intro H1 locs1 hP1 hS1 hz1 ho1 hsl1
          refine k H1 locs1 (zInv_set hτ hI hc1 hzq hz1 ho1 hsl1 (zAt.ofObj ha ?_ ?_)) hS1 hz1
          · have h9 := hP1 0 _ rfl
            show va_at D vwCl (τ q, .inr (c1.1, (c1.2.set (b % 1000) v).map (zt τ))) H1
            rw [List.map_set]
            exact h9
          · intro r2 hr2
            show (c1.2.set (b % 1000) v).length = _
            rw [List.length_set]
            exact hlen r2 hr2
        obtain ⟨hSl, hfc, kC, hkC, hkind⟩ := hK.1 _ _ hr
        obtain ⟨cf, kf, fi, f, hi, hsl⟩ := hSl _ hk
        obtain ⟨cell, q1, q2, q3, q4⟩ := hOB
        have hlay := hts _ (zIn _ _ hr _ (u_in_lay hk))
        have hst := (u_facts hfc hkC (u_lays hts (zIn _ _ hr) hk) hi).1
        have hap := va_apart (own := own) hts (zIn _ _ hr) (zFT c1.1) (zTyOk _ _ hr) (zNap _ _ hr) hK hr
        unfold zNg at hw
        dsimp only at hw
        have last : ∀ H1 : Heap, H1[τ q]? = some (cell.setSlot f.slot (zt τ v)) → H1.size = H.size → (∀ z, z ≠ τ q → H1[z]? = H[z]?) → W p l e R s m args below meth c H1 (locs ++ [⟨τ q, f.slot⟩]) cells slots Q (F0 m (pc + 3) ls (st'.map (zt τ))) := by
          intro H1 e1 e2 e3
          refine fin H1 _ ?_ (hS.put e2 e3 (zA_of hτ hzq)) e2 e3 ⟨_, _, q1, e1, by simp [Cell.setSlot]⟩
          rw [hsl] at e1
          exact fun i y hy => by
            match i, hy with
            | 0, hy =>
              cases hy
              exact ⟨_, hr, t_OB.to (V := updV (vp_V (c1.2.map (zt τ))) (b % 1000) (zt τ v)) ⟨_, e1, q2, q3, t_set q4 hap hk (zt τ v)⟩ (fun j _ => vp_updV_set hl2 (zt τ v) j)⟩
            | i + 1, hy => simp at hy
        by_cases hfin : (rr.2.1 (b % 1000)).2.2.2 = true
        · have hs2 : (zF c1.1 (b % 1000)).2.2.2 = true → mn = "<init>" ∧ (zF c1.1 (b % 1000)).1 = own ∧ b < 1000 := hs
          rw [zF_of hr] at hs2
          obtain ⟨s1, s2, s3⟩ := hs2 hfin
          rw [if_pos s3, zF_of hr] at hw
          rw [Nat.mod_eq_of_lt s3] at *
          unfold u_lay at hlay
          rw [if_pos hfin] at hlay
          have hcf : m.cls = cf := by
            obtain ⟨_, _, c', _, _, _, -, -, hf', -, -, -, hown2, -⟩ := Cond.laysFinal_spec hlay
            have e1 : c' = cf := by have := hi.symm.trans hf'; simp at this; exact this.1.symm
            rw [s2] at hown2
            rw [← e1]; exact Option.some.inj (hown.symm.trans hown2)
          have h6 := u_fits hfc hkC hkind (Or.inr hlay) hi hpd hn1 hf1
          exact W.putFinK hx hb hown (hw _ List.mem_cons_self) hi hst hcf (hmn.trans s1) (by rw [q2]; exact h6) q1 q3 (by rw [hsl]; exact k2_hasslot (q4 _ hk)) rfl rfl hdg last
        · have hfin2 : (rr.2.1 (b % 1000)).2.2.2 = false := by simpa using hfin
          unfold u_lay at hlay
          rw [if_neg hfin] at hlay
          have h6 := u_store hfc hkC hkind hlay hi hpd hn1 hf1
          split at hw
          · rename_i hb1
            rw [zF_of hr] at hw
            rw [Nat.mod_eq_of_lt hb1] at *
            exact W.putK hx hb (f := f) ⟨hown, hw _ List.mem_cons_self, ⟨_, _, _, hi⟩, hst⟩ (by rw [q2]; exact h6) q1 q3 (by rw [hsl]; exact k2_hasslot (q4 _ hk)) rfl rfl hdg last
          · rw [zF_of hr] at hw
            exact va_WputK hx hb (f := f) hown (hw _ List.mem_cons_self) hi hst (by rw [q2]; exact h6) q1 q3 (by rw [hsl]; exact k2_hasslot (q4 _ hk)) rfl rfl hdg last
      · cases hg
    · cases hg
  · cases hg
theorem zLenA_ok (hx : p.tables.exec = Jvm.exec) (hb : c.code = cc) {n : Nat} (hdg : decode cc pc = .ok (.arraylength, n)) (hn : n = 1)
    (hI : zInv D base τ s h u H) (hg : zLenA pc st h = some (pc', st', h')) (k : h' = h → W p l e R s m args below meth c H locs cells slots Q (F0 m pc' ls (st'.map (zt τ)))) : W p l e R s m args below meth c H locs cells slots Q (F0 m pc ls (st.map (zt τ))) := by
  subst hn
  unfold zLenA at hg
  split at hg
  · rename_i q r
    split at hg
    · rename_i c1 hc1
      split at hg
      · rename_i hc
        cases hg
        obtain ⟨cell, h1, h2, h3, h4, h5⟩ := (hI.1 q c1 hc1).read hc
        exact W.alen hx hb h1 h2 h4.2 rfl rfl hdg (k rfl)
      · cases hg
    · cases hg
  · cases hg
theorem zTy_100 : zTy 100 = .int := rfl
theorem zLdA_ok {i : Instr} {ok : Nat → Bool} (hx : p.tables.exec = Jvm.exec) (hb : c.code = cc) {n : Nat} (hdg : decode cc pc = .ok (i, n)) (hn : n = 1)
    (row : ∀ (q : Nat) (rest : List Value) (kd : Nat) (cell : Cell) (j : Int32) (v : Value), ok kd = true → H[q]? = some cell → s.isArrayOf cell (zTyR kd) → cell.vm ≠ .unknown → ¬ (j < 0 ∨ cell.slots.size ≤ j.toNatClampNeg) → cell.slots[j.toNatClampNeg]? = some v → decode cc pc = .ok (i, 1) → W p l e R s m args below meth c H locs cells slots Q (F0 m (pc + 1) ls (v :: rest)) → W p l e R s m args below meth c H locs cells slots Q (F0 m pc ls (.int j :: .ref q :: rest)))
    (hok : ∀ kd, ok kd = true → 100 ≤ kd ∨ (93 ≤ kd ∧ kd < 97))
    (hI : zInv D base τ s h u H) (hg : zLdA ok pc st h = some (pc', st', h')) (k : h' = h → W p l e R s m args below meth c H locs cells slots Q (F0 m pc' ls (st'.map (zt τ)))) : W p l e R s m args below meth c H locs cells slots Q (F0 m pc ls (st.map (zt τ))) := by
  subst hn
  unfold zLdA at hg
  split at hg
  · rename_i j q r
    split at hg
    · rename_i c1 hc1
      split at hg
      · rename_i hc
        split at hg
        · rename_i v hv
          cases hg
          obtain ⟨cell, h1, h2, h3, h4, h5⟩ := (hI.1 q c1 hc1).read (hok _ hc.1)
          have hlt := (List.getElem?_eq_some_iff.mp hv).1
          have ev : zt τ (c1.2.getD j.toNatClampNeg .null) = zt τ v := by rw [List.getD_eq_getElem?_getD, hv]; rfl
          refine row (τ q) _ c1.1 cell j (zt τ v) hc.1 h1 h2 h3 (fun z => z.elim hc.2 (fun z => absurd hlt (by have := h4.1; omega))) (by rw [h5 _ hlt, ev]) hdg ?_
          have kk := k rfl
          rw [List.map_cons] at kk
          exact kk
        · cases hg
      · cases hg
    · cases hg
  · cases hg
theorem zInv_arr (hτ : zTau base τ) (hI : zInv D base τ s h u H) {q kd jn : Nat} {l : List Value} {v : Value} {cA : ClassId} {H1 : Heap} (hc : h[q]? = some (kd, l)) (hk : 100 ≤ kd) (hzq : zro ≤ q) (hj : jn < l.length) (h1 : H[τ q]? = some (arrV cA l.length (fun k => zt τ (l.getD k .null)))) (h2 : ArrOfT s cA (zTy kd)) (h3 : va_RA s cA (zTy kd))
    (e1 : H1[τ q]? = some ((arrV cA l.length (fun k => zt τ (l.getD k .null))).setSlot jn (zt τ v))) (e2 : H1.size = H.size) (e3 : ∀ z, z ≠ τ q → H1[z]? = H[z]?) : zInv D base τ s (h.set q (kd, l.set jn v)) u H1 := by
  refine zInv_set hτ hI hc hzq e2 e3 ⟨_, _, h1, e1, by simp [Cell.setSlot]⟩ (zAt.ofArr hk ?_ h2 h3)
  rw [e1, arrV_set hj]
theorem zStA_ok {i : Instr} {ok : Nat → Bool} {f : Nat → Int32 → Value} (hx : p.tables.exec = Jvm.exec) (hb : c.code = cc) (hτ : zTau base τ) {n : Nat} (hdg : decode cc pc = .ok (i, n)) (hn : n = 1)
    (row : ∀ (q : Nat) (rest : List Value) (kd N : Nat) (cA : ClassId) (g : Nat → Value) (j x : Int32), ok kd = true → H[q]? = some (arrV cA N g) → ArrOfT s cA (zTy kd) → ¬ (j < 0 ∨ N ≤ j.toNatClampNeg) → decode cc pc = .ok (i, 1) →
      (∀ H' : Heap, H'[q]? = some ((arrV cA N g).setSlot j.toNatClampNeg (f kd x)) → H'.size = H.size → (∀ z, z ≠ q → H'[z]? = H[z]?) → W p l e R s m args below meth c H' (locs ++ [⟨q, j.toNatClampNeg⟩]) cells slots Q (F0 m (pc + 1) ls rest)) → W p l e R s m args below meth c H locs cells slots Q (F0 m pc ls (.int x :: .int j :: .ref q :: rest)))
    (hok : ∀ kd, ok kd = true → 100 ≤ kd) (hf : ∀ kd x, zt τ (f kd x) = f kd x)
    (hI : zInv D base τ s h u H) (hS : va_S (fun q => base ≤ q) s.heap H locs) (hg : zStA ok f pc st h = some (pc', st', h')) (k : ∀ H1 locs1, zInv D base τ s h' u H1 → va_S (fun q => base ≤ q) s.heap H1 locs1 → H1.size = H.size → W p l e R s m args below meth c H1 locs1 cells slots Q (F0 m pc' ls (st'.map (zt τ)))) : W p l e R s m args below meth c H locs cells slots Q (F0 m pc ls (st.map (zt τ))) := by
  subst hn
  unfold zStA at hg
  split at hg
  · rename_i x j q r
    split at hg
    · rename_i c1 hc1
      split at hg
      · rename_i hc
        obtain ⟨ho, hzq, hj0, hjl⟩ := hc
        cases hg
        obtain ⟨cA, h1, h2, h3⟩ := (hI.1 q c1 hc1).arr (hok _ ho)
        refine row (τ q) _ c1.1 c1.2.length cA _ j x ho h1 h2 (fun z => z.elim hj0 (fun z => absurd hjl (by omega))) hdg (fun H1 e1 e2 e3 => ?_)
        rw [← hf] at e1
        exact k H1 _ (zInv_arr hτ hI hc1 (hok _ ho) hzq hjl h1 h2 h3 e1 e2 e3) (hS.put e2 e3 (zA_of hτ hzq)) e2
      · cases hg
    · cases hg
  · cases hg
theorem zStR_ok (hx : p.tables.exec = Jvm.exec) (hb : c.code = cc) (hK : va_K D vwCl [] s) (hτ : zTau base τ) (hO : zObjs s) {n : Nat} (hdg : decode cc pc = .ok (.aastore, n)) (hn : n = 1)
    (hI : zInv D base τ s h u H) (hS : va_S (fun q => base ≤ q) s.heap H locs) (hg : zStR pc st h = some (pc', st', h')) (k : ∀ H1 locs1, zInv D base τ s h' u H1 → va_S (fun q => base ≤ q) s.heap H1 locs1 → H1.size = H.size → W p l e R s m args below meth c H1 locs1 cells slots Q (F0 m pc' ls (st'.map (zt τ)))) : W p l e R s m args below meth c H locs cells slots Q (F0 m pc ls (st.map (zt τ))) := by
  subst hn
  unfold zStR at hg
  split at hg
  · rename_i v j q r
    split at hg
    · rename_i c1 cv hc1 hcv
      split at hg
      · rename_i hc
        obtain ⟨ho, hzq, hj0, hjl, hv9, hty⟩ := hc
        cases hg
        obtain ⟨cA, h1, h2, h3⟩ := (hI.1 q c1 hc1).arr (by omega)
        obtain ⟨⟨rv, cell, hrv, q1, q2, ⟨-, q3, -⟩, q4⟩, -⟩ := (hI.1 v cv hcv).obj hv9
        have hcls := (hK.1 _ _ hrv).2
        obtain ⟨kC, hkC, -⟩ := hcls.2
        have go : ∀ (C : String), zTy c1.1 = .object C → (∀ comp, s.vm.findClass C = some comp → s.vm.assignable (D.1 cv.1) comp = true ∧ ∃ kk : Class, s.vm.classes[comp]? = some kk) → W p l e R s m args below meth c H locs cells slots Q (F0 m pc ls ((Value.ref v :: Value.int j :: Value.ref q :: st').map (zt τ))) := by
          intro C hC hcmp
          rw [hC] at h3
          obtain ⟨kA, comp, k1, k2, k3, k4⟩ := id h3
          obtain ⟨a1, kk9, a2⟩ := hcmp comp k3
          refine W.aast hx hb h1 (fun q h => by cases h) (fun h => by cases h) k1 k2 rfl a2 ⟨hj0, by rw [arrV_size]; exact hjl⟩ q1 (fun q h => by rw [h] at q3; cases q3) (by rw [q2]; exact hkC) (by rw [q2]; exact a1) rfl rfl hdg (fun H1 e1 e2 e3 => ?_)
          exact k H1 _ (zInv_arr hτ hI hc1 (by omega) hzq hjl h1 h2 (by rw [hC]; exact h3) e1 e2 e3) (hS.put e2 e3 (zA_of hτ hzq)) e2
        rcases hty with hty | hty
        · rw [zNm_of hrv] at hty
          refine go rv.1 hty (fun comp hcomp => ?_)
          cases Option.some.inj (hcls.1.symm.trans hcomp)
          exact ⟨va_assign hcls, _, hkC⟩
        · refine go "java/lang/Object" hty (fun comp hcomp => ?_)
          obtain ⟨c0, t0, f1, f2, f3⟩ := Cond.castable_spec (va_Nw.use (A := args) rfl (hO _ _ hrv))
          cases Option.some.inj (hcls.1.symm.trans f1)
          cases Option.some.inj (f2.symm.trans hcomp)
          obtain ⟨kk9, h9, -⟩ := Vm.findClass_spec hcomp
          exact ⟨f3, kk9, h9⟩
      · cases hg
    · cases hg
  · cases hg
theorem zCk_ok (hx : p.tables.exec = Jvm.exec) (hb : c.code = cc) (hown : s.vm.findClass own = some m.cls) (hK : va_K D vwCl [] s) {x n : Nat} (hdg : decode cc pc = .ok (.checkcast x, n)) (hn : n = 3) (hw : ∀ w ∈ zNg own (.checkcast x) a b, w.before args s = true)
    (hI : zInv D base τ s h u H) (hg : zCk a pc st h = some (pc', st', h')) (k : h' = h → W p l e R s m args below meth c H locs cells slots Q (F0 m pc' ls (st'.map (zt τ)))) : W p l e R s m args below meth c H locs cells slots Q (F0 m pc ls (st.map (zt τ))) := by
  subst hn
  unfold zCk at hg
  split at hg
  · rename_i q r
    split at hg
    · rename_i c1 hc1
      split at hg
      · rename_i hc
        obtain ⟨hca, ha⟩ := hc
        cases hg
        subst hca
        obtain ⟨⟨rv, cell, hrv, q1, q2, ⟨-, q3, -⟩, q4⟩, -⟩ := (hI.1 q c1 hc1).obj ha
        have hcls := (hK.1 _ _ hrv).2
        have hw1 := hw _ List.mem_cons_self
        rw [zNm_of hrv] at hw1
        intro T hT X
        obtain ⟨vm', X', stp⟩ := X.checkcastYes hx hown hw1 (by rw [hT]; exact q1) q3 hcls.1 (by rw [q2]; exact va_assign hcls) (g := F0 m pc ls (Value.ref (τ q) :: r.map (zt τ))) rfl rfl (by rw [hb]; exact hdg)
        obtain ⟨t, a1, b1⟩ := k rfl (T.setVm vm') hT X'
        exact ⟨t, stp t a1, b1⟩
      · cases hg
    · cases hg
  · cases hg
set_option maxHeartbeats 1000000 in
theorem zG_ok {i : Instr} {n : Nat} (hx : p.tables.exec = Jvm.exec) (hb : c.code = cc) (hown : s.vm.findClass own = some m.cls) (hts : ∀ w ∈ zT, w.before args s = true) (hK : va_K D vwCl [] s) (hτ : zTau base τ) (hO : zObjs s) (hmn : meth.name = mn) (hdg : decode cc pc = .ok (i, n)) (hn : zLen i = 0 ∨ n = zLen i) (hw : ∀ w ∈ zNg own i a b, w.before args s = true) (hs : zSg own mn i a b)
    (hI : zInv D base τ s h u H) (hS : va_S (fun q => base ≤ q) s.heap H locs) (hg : zG i a b pc st h = some (pc', st', h')) (k : ∀ H1 locs1, zInv D base τ s h' u H1 → va_S (fun q => base ≤ q) s.heap H1 locs1 → H1.size = H.size → W p l e R s m args below meth c H1 locs1 cells slots Q (F0 m pc' ls (st'.map (zt τ)))) : W p l e R s m args below meth c H locs cells slots Q (F0 m pc ls (st.map (zt τ))) := by
  have hd : zLen i ≠ 0 → n = zLen i := fun q => hn.resolve_left q
  have kr : h' = h → W p l e R s m args below meth c H locs cells slots Q (F0 m pc' ls (st'.map (zt τ))) := fun q => k H locs (by rw [q]; exact hI) hS rfl
  unfold zG at hg
  split at hg
  · exact zGet_ok hx hb hown hts hK hdg (hd (by simp [zLen])) hw hI hg kr
  · exact zPut_ok hx hb hown hts hK hτ hmn hdg (hd (by simp [zLen])) hw hs hI hS hg k
  · exact zLenA_ok hx hb hdg (hd (by simp [zLen])) hI hg kr
  · refine zLdA_ok hx hb hdg (hd (by simp [zLen])) (fun q rest kd cell j v hok h1 h2 h3 h4 h5 h6 kk => ?_) (fun kd q => by simp at q; omega) hI hg kr
    have e : kd = 100 ∨ kd = 96 := by simpa using hok
    rcases e with e | e
    · subst e
      exact W.iald (v := v) hx hb h1 h2 h3 h4 h5 rfl rfl h6 kk
    · subst e
      exact W.iald (v := v) hx hb h1 h2 h3 h4 h5 rfl rfl h6 kk
  · refine zLdA_ok hx hb hdg (hd (by simp [zLen])) (fun q rest kd cell j v hok h1 h2 h3 h4 h5 h6 kk => ?_) (fun kd q => by simp at q; omega) hI hg kr
    have e : (kd = 101 ∨ kd = 102) ∨ kd = 95 := by simpa using hok
    rcases e with (e | e) | e
    · subst e
      exact W.bald (v := v) hx hb h1 h2 h3 h4 h5 rfl rfl h6 kk
    · subst e
      exact W.zald (v := v) hx hb h1 h2 h3 h4 h5 rfl rfl h6 kk
    · subst e
      exact W.bald (v := v) hx hb h1 h2 h3 h4 h5 rfl rfl h6 kk
  · refine zLdA_ok hx hb hdg (hd (by simp [zLen])) (fun q rest kd cell j v hok h1 h2 h3 h4 h5 h6 kk => ?_) (fun kd q => by simp at q; omega) hI hg kr
    have e : 104 ≤ kd ∧ (zTy kd).isReference = true := by simpa using hok
    have e2 : (zTyR kd).isReference = true := by unfold zTyR; rw [if_neg (by omega)]; exact e.2
    exact W.aald (v := v) hx hb h1 h2 e2 h3 h4 h5 rfl rfl h6 kk
  · refine zStA_ok hx hb hτ hdg (hd (by simp [zLen])) (fun q rest kd N cA g j x hok h1 h2 h3 h4 kk => ?_) (fun kd q => by simp at q; omega) (fun _ _ => rfl) hI hS hg k
    have e : kd = 100 := by simpa using hok
    subst e
    exact W.iast hx hb h1 (h2 _ _) (fun q => by cases q) (by rw [arrV_size]; exact h3) rfl rfl h4 kk
  · refine zStA_ok hx hb hτ hdg (hd (by simp [zLen])) (fun q rest kd N cA g j x hok h1 h2 h3 h4 kk => ?_) (fun kd q => by simp at q; omega) (fun kd x => by split <;> rfl) hI hS hg k
    have e : kd = 101 ∨ kd = 102 := by simpa using hok
    rcases e with e | e
    · subst e
      exact W.bast hx hb h1 (h2 _ _) (fun q => by cases q) (by rw [arrV_size]; exact h3) rfl rfl h4 kk
    · subst e
      exact W.zast hx hb h1 (h2 _ _) (fun q => by cases q) (by rw [arrV_size]; exact h3) rfl rfl h4 kk
  · exact zStR_ok hx hb hK hτ hO hdg (hd (by simp [zLen])) hI hS hg k
  · exact zCk_ok hx hb hown hK hdg (hd (by simp [zLen])) hw hI hg kr
  · cases hg
end zHp
