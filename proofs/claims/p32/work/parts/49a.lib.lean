/-! ===== what a run gives, if it ends: partial runs ===== -/
def zL (zr : zRow) (zi : Nat → zI) : Nat → Nat → Nat → List (Nat × Value) → List Value → List zC → Nat → zK → Prop
  | 0, _, _, _, _, _, _, _ => True
  | f + 1, j, pc, lv, st, h, u, K =>
    match zr j pc with
    | none => True
    | some (i, a, b) =>
      match zKe i a b with
      | 0 => match zP (zMl (zi j)) i pc lv st with
        | some (pc', lv', st') => zL zr zi f j pc' lv' st' h u K
        | none => True
      | 1 => match zG i a b pc st h with
        | some (pc', st', h') => zL zr zi f j pc' lv st' h' u K
        | none => True
      | 2 => match zMk i a pc st h u with
        | some (pc', st', h', u') => zL zr zi f j pc' lv st' h' u' K
        | none => True
      | 3 => zL zr zi f a 0 (lv_args 0 (st.take (zNp (zi a))).reverse) [] h u (fun o h' u' => match o with
          | .inl v => zL zr zi f j (pc + zLen i) lv (v.toList ++ st.drop (zNp (zi a))) h' u' K
          | .inr E => match zCat zr zi j pc E lv with
            | some (some (pc', lv')) => zL zr zi f j pc' lv' [] h' u' K
            | some none => K (.inr E) h' u'
            | none => True)
      | 4 => match zRt (zRe (zi j)) i st with
        | some v => K (.inl v) h u
        | none => True
      | 5 => ∀ x y : Nat, x ≤ 1 → y ≤ 6 → K (.inr (a - 1000)) (h ++ List.replicate x (98, [])) (u + y)
      | 6 => match st with
        | .ref _ :: r => zL zr zi f j (pc + 3) lv r h u K
        | _ => True
      | 7 => zL zr zi f j (pc + zLen i) lv (zCo i a b :: st) h u K
      | 8 => match zX i a pc st h u with
        | some os => ∀ o ∈ os, zL zr zi f j o.1 lv o.2.1 o.2.2.1 o.2.2.2 K
        | none => True
      | _ => True
theorem zL_K {zr : zRow} {zi : Nat → zI} : ∀ (f j pc : Nat) (lv : List (Nat × Value)) (st : List Value) (h : List zC) (u : Nat) (K K' : zK), zL zr zi f j pc lv st h u K → (∀ o h' u', K o h' u' → K' o h' u') → zL zr zi f j pc lv st h u K'
  | 0, _, _, _, _, _, _, _, _, _, _ => trivial
  | f + 1, j, pc, lv, st, h, u, K, K', hw, hk => by
    have ih := @zL_K zr zi f
    unfold zL at hw ⊢
    split at hw
    · trivial
    · split at hw
      · split at hw
        · exact ih _ _ _ _ _ _ _ _ hw hk
        · trivial
      · split at hw
        · exact ih _ _ _ _ _ _ _ _ hw hk
        · trivial
      · split at hw
        · exact ih _ _ _ _ _ _ _ _ hw hk
        · trivial
      · refine ih _ _ _ _ _ _ _ _ hw (fun o h' u' q => ?_)
        split at q
        · exact ih _ _ _ _ _ _ _ _ q hk
        · split at q
          · exact ih _ _ _ _ _ _ _ _ q hk
          · exact hk _ _ _ q
          · trivial
      · split at hw
        · exact hk _ _ _ hw
        · trivial
      · exact fun x y hx hy => hk _ _ _ (hw x y hx hy)
      · split at hw
        · exact ih _ _ _ _ _ _ _ _ hw hk
        · trivial
      · exact ih _ _ _ _ _ _ _ _ hw hk
      · split at hw
        · exact fun o ho => ih _ _ _ _ _ _ _ _ (hw o ho) hk
        · trivial
      · trivial
/-- less fuel says less -/
theorem zL_anti {zr : zRow} {zi : Nat → zI} : ∀ (f j pc : Nat) (lv : List (Nat × Value)) (st : List Value) (h : List zC) (u : Nat) (K : zK), zL zr zi (f + 1) j pc lv st h u K → zL zr zi f j pc lv st h u K
  | 0, _, _, _, _, _, _, _, _ => trivial
  | f + 1, j, pc, lv, st, h, u, K, hw => by
    have ih := @zL_anti zr zi f
    unfold zL at hw ⊢
    split at hw
    · trivial
    · split at hw
      · split at hw
        · exact ih _ _ _ _ _ _ _ hw
        · trivial
      · split at hw
        · exact ih _ _ _ _ _ _ _ hw
        · trivial
      · split at hw
        · exact ih _ _ _ _ _ _ _ hw
        · trivial
      · refine zL_K _ _ _ _ _ _ _ _ _ (ih _ _ _ _ _ _ _ hw) (fun o h' u' q => ?_)
        split at q
        · exact ih _ _ _ _ _ _ _ q
        · split at q
          · exact ih _ _ _ _ _ _ _ q
          · exact q
          · trivial
      · exact hw
      · exact hw
      · split at hw
        · exact ih _ _ _ _ _ _ _ hw
        · trivial
      · exact ih _ _ _ _ _ _ _ hw
      · split at hw
        · exact fun o ho => ih _ _ _ _ _ _ _ (hw o ho)
        · trivial
      · trivial
/-- a run that ends, and what it gives if it ends -/
theorem zW_L {zr : zRow} {zi : Nat → zI} : ∀ (f d j pc : Nat) (lv : List (Nat × Value)) (st : List Value) (h : List zC) (u : Nat) (K K' : zK), zW zr zi f d j pc lv st h u K → zL zr zi f j pc lv st h u K' → zW zr zi f d j pc lv st h u (fun o h u => K o h u ∧ K' o h u)
  | 0, _, _, _, _, _, _, _, _, _, hw, _ => hw.elim
  | f + 1, d, j, pc, lv, st, h, u, K, K', hw, hl => by
    have ih := @zW_L zr zi f
    unfold zW at hw ⊢
    unfold zL at hl
    split at hw
    · exact hw
    · rename_i i a b hrow
      simp only [hrow] at hl
      split at hw
      · rename_i hk
        simp only [hk] at hl
        split at hw
        · rename_i hp
          simp only [hp] at hl
          exact ih _ _ _ _ _ _ _ _ _ hw hl
        · exact hw
      · rename_i hk
        simp only [hk] at hl
        split at hw
        · rename_i hp
          simp only [hp] at hl
          exact ih _ _ _ _ _ _ _ _ _ hw hl
        · exact hw
      · rename_i hk
        simp only [hk] at hl
        split at hw
        · rename_i hp
          simp only [hp] at hl
          exact ih _ _ _ _ _ _ _ _ _ hw hl
        · exact hw
      · rename_i hk
        simp only [hk] at hl
        obtain ⟨h1, h2, h3, h4, h5, hw⟩ := hw
        refine ⟨h1, h2, h3, h4, h5, ?_⟩
        split at hw
        · exact hw
        · refine zW_K _ _ _ _ _ _ _ _ _ _ (ih _ _ _ _ _ _ _ _ _ hw hl) (fun o h' u' q => ?_)
          obtain ⟨q1, q2⟩ := q
          split at q1
          · exact ih _ _ _ _ _ _ _ _ _ q1 q2
          · split at q1
            · rename_i hz
              simp only [hz] at q2
              exact ih _ _ _ _ _ _ _ _ _ q1 q2
            · rename_i hz
              simp only [hz] at q2
              exact ⟨q1, q2⟩
            · exact q1
      · rename_i hk
        simp only [hk] at hl
        split at hw
        · rename_i hp
          simp only [hp] at hl
          exact ⟨hw, hl⟩
        · exact hw
      · rename_i hk
        simp only [hk] at hl
        exact ⟨hw.1, hw.2.1, hw.2.2.1, fun x y hx hy => ⟨hw.2.2.2 x y hx hy, hl x y hx hy⟩⟩
      · rename_i hk
        simp only [hk] at hl
        split at hw
        · exact ⟨hw.1, ih _ _ _ _ _ _ _ _ _ hw.2 hl⟩
        · exact hw
      · rename_i hk
        simp only [hk] at hl
        exact ih _ _ _ _ _ _ _ _ _ hw hl
      · rename_i hk
        simp only [hk] at hl
        split at hw
        · rename_i hp
          simp only [hp] at hl
          exact fun o ho => ih _ _ _ _ _ _ _ _ _ (hw o ho) (hl o ho)
        · exact hw
      · exact hw
theorem zE_L {zr : zRow} {zi : Nat → zI} {d j pc : Nat} {lv : List (Nat × Value)} {st : List Value} {h : List zC} {u : Nat} {K K' : zK} (hw : zE zr zi d j pc lv st h u K) (hl : ∀ n, zL zr zi n j pc lv st h u K') : zE zr zi d j pc lv st h u (fun o h u => K o h u ∧ K' o h u) := by
  obtain ⟨f, hw⟩ := hw
  exact ⟨f, zW_L _ _ _ _ _ _ _ _ _ _ hw (hl f)⟩
/-! ===== fields ===== -/
/-- the field (or element) k of the cell p -/
def gF (h : List zC) (p k : Nat) : Option Value := match h[p]? with
  | some c => c.2[k]?
  | none => none
/-- of which kind the cell p is -/
def gT (h : List zC) (p : Nat) : Option Nat := match h[p]? with
  | some c => some c.1
  | none => none
/-- how long the cell p is -/
def gN (h : List zC) (p : Nat) : Option Nat := match h[p]? with
  | some c => some c.2.length
  | none => none
theorem gF_of {h : List zC} {p k : Nat} {c : zC} (e : h[p]? = some c) : gF h p k = c.2[k]? := by
  unfold gF
  rw [e]
theorem gT_of {h : List zC} {p : Nat} {c : zC} (e : h[p]? = some c) : gT h p = some c.1 := by
  unfold gT
  rw [e]
theorem gN_of {h : List zC} {p : Nat} {c : zC} (e : h[p]? = some c) : gN h p = some c.2.length := by
  unfold gN
  rw [e]
theorem gF_set {h : List zC} {q b : Nat} {c : zC} {v : Value} (e : h[q]? = some c) (hb : b < c.2.length) (p k : Nat) : gF (h.set q (c.1, c.2.set b v)) p k = if p = q ∧ k = b then some v else gF h p k := by
  unfold gF
  have hq := (List.getElem?_eq_some_iff.mp e).1
  by_cases z : p = q
  · subst z
    rw [List.getElem?_set_self hq, e]
    show (c.2.set b v)[k]? = _
    by_cases y : k = b
    · subst y
      rw [List.getElem?_set_self hb, if_pos ⟨rfl, rfl⟩]
    · rw [List.getElem?_set_ne (Ne.symm y), if_neg (fun w => y w.2)]
  · rw [List.getElem?_set_ne (Ne.symm z), if_neg (fun w => z w.1)]
theorem gT_set {h : List zC} {q b : Nat} {c : zC} {v : Value} (e : h[q]? = some c) (p : Nat) : gT (h.set q (c.1, c.2.set b v)) p = gT h p := by
  unfold gT
  have hq := (List.getElem?_eq_some_iff.mp e).1
  by_cases z : p = q
  · subst z
    rw [List.getElem?_set_self hq, e]
  · rw [List.getElem?_set_ne (Ne.symm z)]
theorem gN_set {h : List zC} {q b : Nat} {c : zC} {v : Value} (e : h[q]? = some c) (p : Nat) : gN (h.set q (c.1, c.2.set b v)) p = gN h p := by
  unfold gN
  have hq := (List.getElem?_eq_some_iff.mp e).1
  by_cases z : p = q
  · subst z
    rw [List.getElem?_set_self hq, e]
    show some (c.2.set b v).length = some c.2.length
    rw [List.length_set]
  · rw [List.getElem?_set_ne (Ne.symm z)]
/-- the heap h2 is h with v at the place b of the cell q -/
def hPut (h h2 : List zC) (q b : Nat) (v : Value) : Prop := h2.length = h.length ∧ (∀ p k, gF h2 p k = if p = q ∧ k = b then some v else gF h p k) ∧ (∀ p, gT h2 p = gT h p) ∧ ∀ p, gN h2 p = gN h p
theorem hPut_set {h : List zC} {q b : Nat} {c : zC} {v : Value} (e : h[q]? = some c) (hb : b < c.2.length) : hPut h (h.set q (c.1, c.2.set b v)) q b v := ⟨List.length_set, gF_set e hb, gT_set e, gN_set e⟩
/-- the heap h2 is h with the cells l behind -/
theorem gF_app {h l : List zC} {p : Nat} (hp : p < h.length) (k : Nat) : gF (h ++ l) p k = gF h p k := by
  unfold gF
  rw [List.getElem?_append_left hp]
theorem gF_lt {h : List zC} {p k : Nat} {v : Value} (e : gF h p k = some v) : p < h.length := by
  unfold gF at e
  split at e
  · rename_i c hc
    exact (List.getElem?_eq_some_iff.mp hc).1
  · cases e
theorem gF_app2 {h l : List zC} {p k : Nat} {v : Value} (e : gF h p k = some v) : gF (h ++ l) p k = some v := by
  rw [gF_app (gF_lt e), e]
/-! ===== steps ===== -/
section zLs
variable {zr : zRow} {zi : Nat → zI} {n j pc : Nat} {lv : List (Nat × Value)} {st : List Value} {h : List zC} {u : Nat} {K : zK} {i : Instr} {a b : Nat}
theorem zLp {pc' : Nat} {lv' : List (Nat × Value)} {st' : List Value} (hrow : zr j pc = some (i, a, b)) (hk : zKe i a b = 0) (hp : zP (zMl (zi j)) i pc lv st = some (pc', lv', st')) (hw : zL zr zi n j pc' lv' st' h u K) : zL zr zi (n + 1) j pc lv st h u K := by
  unfold zL
  simp only [hrow, hk, hp]
  exact hw
/-- a pure step: what it gives, if it goes on -/
theorem zLq (hrow : zr j pc = some (i, a, b)) (hk : zKe i a b = 0) (hw : ∀ pc' lv' st', zP (zMl (zi j)) i pc lv st = some (pc', lv', st') → zL zr zi n j pc' lv' st' h u K) : zL zr zi n j pc lv st h u K := by
  cases n with
  | zero => trivial
  | succ n =>
    unfold zL
    simp only [hrow, hk]
    split
    · rename_i e
      exact zL_anti _ _ _ _ _ _ _ _ (hw _ _ _ e)
    · trivial
theorem zL1 (hrow : zr j pc = some (i, a, b)) (hk : zKe i a b = 1) (hw : ∀ pc' st' h', zG i a b pc st h = some (pc', st', h') → zL zr zi n j pc' lv st' h' u K) : zL zr zi n j pc lv st h u K := by
  cases n with
  | zero => trivial
  | succ n =>
    unfold zL
    simp only [hrow, hk]
    split
    · rename_i e
      exact zL_anti _ _ _ _ _ _ _ _ (hw _ _ _ e)
    · trivial
theorem zLget {x : Nat} {v : Value} {r : List Value} (hrow : zr j pc = some (.getfield x, a, b)) (hk : zKe (.getfield x) a b = 1) (hw : ∀ q w, v = .ref q → gT h q = some a → gF h q (b % 1000) = some w → zL zr zi n j (pc + 3) lv (w :: r) h u K) : zL zr zi n j pc lv (v :: r) h u K := by
  refine zL1 hrow hk (fun pc' st' h' e => ?_)
  have e : zGet a (b % 1000) pc (v :: r) h = some (pc', st', h') := e
  unfold zGet at e
  split at e
  · rename_i q r2 hs
    cases hs
    split at e
    · rename_i c hc
      split at e
      · rename_i ht
        split at e
        · rename_i w hv
          cases e
          exact hw _ _ rfl ((gT_of hc).trans (congrArg some ht.1)) ((gF_of hc).trans hv)
        · cases e
      · cases e
    · cases e
  · cases e
theorem zLput {x : Nat} {v w : Value} {r : List Value} (hrow : zr j pc = some (.putfield x, a, b)) (hk : zKe (.putfield x) a b = 1) (hw : ∀ q h', w = .ref q → gT h q = some a → hPut h h' q (b % 1000) v → zL zr zi n j (pc + 3) lv r h' u K) : zL zr zi n j pc lv (v :: w :: r) h u K := by
  refine zL1 hrow hk (fun pc' st' h' e => ?_)
  have e : zPut a (b % 1000) pc (v :: w :: r) h = some (pc', st', h') := e
  unfold zPut at e
  split at e
  · rename_i v2 q r2 hs
    cases hs
    split at e
    · rename_i c hc
      split at e
      · rename_i hb
        cases e
        exact hw _ _ rfl ((gT_of hc).trans (congrArg some hb.1)) (hPut_set hc hb.2.2.2.1)
      · cases e
    · cases e
  · cases e
theorem zLlda {ok : Nat → Bool} {v w : Value} {r : List Value} (hrow : zr j pc = some (i, a, b)) (hk : zKe i a b = 1) (hi : zG i a b pc (w :: v :: r) h = zLdA ok pc (w :: v :: r) h) (hw : ∀ q x y, v = .ref q → w = .int x → ¬ x < 0 → (∃ t, gT h q = some t ∧ ok t = true) → gF h q x.toNatClampNeg = some y → zL zr zi n j (pc + 1) lv (y :: r) h u K) : zL zr zi n j pc lv (w :: v :: r) h u K := by
  refine zL1 hrow hk (fun pc' st' h' e => ?_)
  rw [hi] at e
  unfold zLdA at e
  split at e
  · rename_i x q r2 hs
    cases hs
    split at e
    · rename_i c hc
      split at e
      · rename_i hx
        split at e
        · rename_i y hy
          cases e
          exact hw _ _ _ rfl rfl hx.2 ⟨_, gT_of hc, hx.1⟩ ((gF_of hc).trans hy)
        · cases e
      · cases e
    · cases e
  · cases e
theorem zLiast {v w y : Value} {r : List Value} (hrow : zr j pc = some (.iastore, a, b)) (hk : zKe .iastore a b = 1) (hw : ∀ q x z h', v = .ref q → w = .int x → y = .int z → ¬ x < 0 → gT h q = some 100 → hPut h h' q x.toNatClampNeg (.int z) → zL zr zi n j (pc + 1) lv r h' u K) : zL zr zi n j pc lv (y :: w :: v :: r) h u K := by
  refine zL1 hrow hk (fun pc' st' h' e => ?_)
  have e : zStA (fun k => k == 100) (fun _ x => .int x) pc (y :: w :: v :: r) h = some (pc', st', h') := e
  unfold zStA at e
  split at e
  · rename_i z x q r2 hs
    cases hs
    split at e
    · rename_i c hc
      split at e
      · rename_i hx
        cases e
        exact hw _ _ _ _ rfl rfl rfl hx.2.2.1 ((gT_of hc).trans (congrArg some (by simpa using hx.1))) (hPut_set hc hx.2.2.2)
      · cases e
    · cases e
  · cases e
theorem zLaast {v w y : Value} {r : List Value} (hrow : zr j pc = some (.aastore, a, b)) (hk : zKe .aastore a b = 1) (hw : ∀ q x z h', v = .ref q → w = .int x → y = .ref z → ¬ x < 0 → (∃ t, gT h q = some t ∧ 105 ≤ t) → hPut h h' q x.toNatClampNeg (.ref z) → zL zr zi n j (pc + 1) lv r h' u K) : zL zr zi n j pc lv (y :: w :: v :: r) h u K := by
  refine zL1 hrow hk (fun pc' st' h' e => ?_)
  have e : zStR pc (y :: w :: v :: r) h = some (pc', st', h') := e
  unfold zStR at e
  split at e
  · rename_i z x q r2 hs
    cases hs
    split at e
    · rename_i c cv hc hcv
      split at e
      · rename_i hx
        cases e
        exact hw _ _ _ _ rfl rfl rfl hx.2.2.1 ⟨_, gT_of hc, hx.1⟩ (hPut_set hc hx.2.2.2.1)
      · cases e
    · cases e
  · cases e
theorem zLlen {v : Value} {r : List Value} (hrow : zr j pc = some (.arraylength, a, b)) (hk : zKe .arraylength a b = 1) (hw : ∀ q m, v = .ref q → gN h q = some m → zL zr zi n j (pc + 1) lv (.int (Int32.ofNat m) :: r) h u K) : zL zr zi n j pc lv (v :: r) h u K := by
  refine zL1 hrow hk (fun pc' st' h' e => ?_)
  have e : zLenA pc (v :: r) h = some (pc', st', h') := e
  unfold zLenA at e
  split at e
  · rename_i q r2 hs
    cases hs
    split at e
    · rename_i c hc
      split at e
      · cases e
        exact hw _ _ rfl (gN_of hc)
      · cases e
    · cases e
  · cases e
theorem zLcst {x : Nat} {v : Value} {r : List Value} (hrow : zr j pc = some (.checkcast x, a, b)) (hk : zKe (.checkcast x) a b = 1) (hw : ∀ q, v = .ref q → zL zr zi n j (pc + 3) lv (.ref q :: r) h u K) : zL zr zi n j pc lv (v :: r) h u K := by
  refine zL1 hrow hk (fun pc' st' h' e => ?_)
  have e : zCk a pc (v :: r) h = some (pc', st', h') := e
  unfold zCk at e
  split at e
  · rename_i q r2 hs
    cases hs
    split at e
    · rename_i c hc
      split at e
      · cases e
        exact hw _ rfl
      · cases e
    · cases e
  · cases e
theorem zLmk (hrow : zr j pc = some (i, a, b)) (hk : zKe i a b = 2) (hw : ∀ pc' st' h' u', zMk i a pc st h u = some (pc', st', h', u') → zL zr zi n j pc' lv st' h' u' K) : zL zr zi n j pc lv st h u K := by
  cases n with
  | zero => trivial
  | succ n =>
    unfold zL
    simp only [hrow, hk]
    split
    · rename_i e
      exact zL_anti _ _ _ _ _ _ _ _ (hw _ _ _ _ e)
    · trivial
theorem zLnew {x : Nat} (hrow : zr j pc = some (.new x, a, b)) (hk : zKe (.new x) a b = 2) (hw : ∀ u', zL zr zi n j (pc + 3) lv (.ref h.length :: st) (h ++ [(a, zDef a)]) u' K) : zL zr zi n j pc lv st h u K := by
  refine zLmk hrow hk (fun pc' st' h' u' e => ?_)
  unfold zMk at e
  dsimp only at e
  split at e
  · cases e
    exact hw _
  · cases e
/-- a call, less than all the fuel -/
theorem zLcall {S : zK} (hrow : zr j pc = some (i, a, b)) (hk : zKe i a b = 3)
    (hc : ∀ m, m ≤ n → zL zr zi m a 0 (lv_args 0 (st.take (zNp (zi a))).reverse) [] h u S)
    (hw : ∀ v h' u', S (.inl v) h' u' → zL zr zi n j (pc + zLen i) lv (v.toList ++ st.drop (zNp (zi a))) h' u' K)
    (he : ∀ E h' u', S (.inr E) h' u' → match zCat zr zi j pc E lv with
      | some (some (pc', lv')) => zL zr zi n j pc' lv' [] h' u' K
      | some none => K (.inr E) h' u'
      | none => True) : zL zr zi (n + 1) j pc lv st h u K := by
  unfold zL
  simp only [hrow, hk]
  refine zL_K _ _ _ _ _ _ _ _ _ (hc n (Nat.le_refl n)) (fun o h' u' q => ?_)
  split
  · exact hw _ _ _ q
  · have e := he _ _ _ q
    split
    · rename_i hz
      simp only [hz] at e
      exact e
    · rename_i hz
      simp only [hz] at e
      exact e
    · trivial
theorem zLret (hrow : zr j pc = some (i, a, b)) (hk : zKe i a b = 4) (hw : ∀ v, zRt (zRe (zi j)) i st = some v → K (.inl v) h u) : zL zr zi n j pc lv st h u K := by
  cases n with
  | zero => trivial
  | succ n =>
    unfold zL
    simp only [hrow, hk]
    split
    · rename_i w e
      exact hw w e
    · trivial
theorem zLiret {v : Value} (hrow : zr j pc = some (.ireturn, a, b)) (hk : zKe .ireturn a b = 4) (hw : ∀ x, v = .int x → K (.inl (some (.int x))) h u) : zL zr zi n j pc lv [v] h u K := by
  refine zLret hrow hk (fun w e => ?_)
  unfold zRt at e
  dsimp only at e
  split at e
  · rename_i x ty e2 e3
    split at e
    · cases e2
      cases e
      exact hw _ rfl
    · cases e
  · cases e
end zLs
