/-! ===== values: more steps (rows of references, copies, comparisons of references) ===== -/
/-- h2 has all cells of h as they are -/
def hExt (h h2 : List zC) : Prop := ∀ p, p < h.length → h2[p]? = h[p]?
theorem hExt_app (h l : List zC) : hExt h (h ++ l) := fun p hp => List.getElem?_append_left hp
theorem hExt.fld {h h2 : List zC} (e : hExt h h2) {p : Nat} (hp : p < h.length) (k : Nat) : gF h2 p k = gF h p k := by
  unfold gF
  rw [e p hp]
theorem hExt_F {h h2 : List zC} (e : hExt h h2) {p k : Nat} {w : Value} (q : gF h p k = some w) : gF h2 p k = some w := by
  rw [e.fld (gF_lt q)]
  exact q
theorem hExt.trans {h h2 h3 : List zC} (e : hExt h h2) (hl : h.length ≤ h2.length) (f : hExt h2 h3) : hExt h h3 := fun p hp => by rw [f p (by omega), e p hp]
theorem zCat_no {zr : zRow} {zi : Nat → zI} {j pc E : Nat} {lv : List (Nat × Value)} (hz : zHit (zi j) pc E = none) : zCat zr zi j pc E lv = some none := by
  unfold zCat
  rw [hz]
theorem zCat_hit {zr : zRow} {zi : Nat → zI} {j pc E t k m a b : Nat} {i : Instr} {lv : List (Nat × Value)} (hz : (zHit (zi j) pc E).map (fun r => r.2.2.1) = some t) (hr : zr j t = some (i, a, b)) (ha : zAst i = some (k, m)) (hk : k < zMl (zi j)) : zCat zr zi j pc E lv = some (some (t + m, (zs1 lv k .null).drop 1)) := by
  unfold zCat
  cases e : zHit (zi j) pc E with
  | none => rw [e] at hz; cases hz
  | some r =>
    rw [e] at hz
    have hz : r.2.2.1 = t := Option.some.inj hz
    dsimp only
    rw [hz, hr]
    dsimp only
    rw [ha]
    dsimp only
    rw [if_pos hk]
theorem ndc {p : Prop} [Decidable p] (h : ¬ decide p = true) : ¬ p := fun z => h (decide_eq_true z)
theorem ofNat_succ (k : Nat) : Int32.ofNat k + Int32.ofInt 1 = Int32.ofNat (k + 1) := by
  rw [Int32.ofNat_add]
  rfl
theorem i32_lt {x y : Int32} : x < y ↔ x.toInt < y.toInt := Int32.lt_iff_toInt_lt
theorem i32_le {x y : Int32} : x ≤ y ↔ x.toInt ≤ y.toInt := Int32.le_iff_toInt_le
/-- x is a number from 0 to m - 1 -/
def iN (m : Int) (x : Int32) : Prop := 0 ≤ x.toInt ∧ x.toInt < m
theorem iN_lt {m : Nat} {x : Int32} (h : iN m x) : x.toNatClampNeg < m := by
  obtain ⟨h1, h2⟩ := h
  show x.toInt.toNat < m
  omega
theorem iN_eq {m : Int} {x y : Int32} (h : iN m x) (h' : iN m y) (e : x.toNatClampNeg = y.toNatClampNeg) : x = y := by
  obtain ⟨h1, h2⟩ := h
  obtain ⟨h3, h4⟩ := h'
  have e : x.toInt.toNat = y.toInt.toNat := e
  exact Int32.toInt_inj.mp (by omega)
theorem cell_eq {h h2 : List zC} {p : Nat} (e1 : ∀ k, gF h2 p k = gF h p k) (e2 : gT h2 p = gT h p) (e3 : gN h2 p = gN h p) : h2[p]? = h[p]? := by
  unfold gF at e1
  unfold gT at e2
  unfold gN at e3
  cases x : h[p]? with
  | none =>
    cases y : h2[p]? with
    | none => rfl
    | some c => simp [x, y] at e2
  | some c =>
    cases y : h2[p]? with
    | none => simp [x, y] at e2
    | some d =>
      simp only [x, y] at e1 e2 e3
      obtain ⟨a, l⟩ := c
      obtain ⟨b, m⟩ := d
      have e2 : b = a := Option.some.inj e2
      have e4 : m = l := List.ext_getElem? e1
      rw [e2, e4]
theorem Stc.thr {h h' : List zC} {v : Value} (hS : Stc h) (H : hPut h h' 213 0 v) : Stc h' := hS.put H (stL_no2 (by decide +kernel))
theorem Stc.out {h h' : List zC} {k : Nat} {v : Value} (hS : Stc h) (H : hPut h h' 238 k v) : Stc h' := hS.put H (stL_no (fun p => p == 238) (by decide) rfl)
theorem Stc.ext {h h' : List zC} (hS : Stc h) (hl : h.length ≤ h'.length) (H : hExt h h') : Stc h' := ⟨Nat.le_trans hS.1 hl, fun e he => hExt_F H (hS.2 e he)⟩
section zMo
variable {zr : zRow} {zi : Nat → zI} {n j pc : Nat} {lv : List (Nat × Value)} {st : List Value} {h : List zC} {u : Nat} {K : zK} {i : Instr} {a b : Nat}
theorem zScstV {v : Value} (hrow : zr j pc = some (i, a, b)) (hk : zKe i a b = 7) (hv : zCo i a b = v) (hw : zL zr zi n j (pc + zLen i) lv (v :: st) h u K) : zL zr zi n j pc lv st h u K := zScst hrow hk (by rw [hv]; exact hw)
theorem zLnone (hr : zr j pc = none) : zL zr zi n j pc lv st h u K := by
  cases n with
  | zero => trivial
  | succ n =>
    unfold zL
    simp only [hr]
theorem zLx (hrow : zr j pc = some (i, a, b)) (hk : zKe i a b = 8) (hw : ∀ os, zX i a pc st h u = some os → ∀ o ∈ os, zL zr zi n j o.1 lv o.2.1 o.2.2.1 o.2.2.2 K) : zL zr zi n j pc lv st h u K := by
  cases n with
  | zero => trivial
  | succ n =>
    unfold zL
    simp only [hrow, hk]
    split
    · rename_i os e
      exact fun o ho => zL_anti _ _ _ _ _ _ _ _ (hw os e o ho)
    · trivial
theorem zJmp_at {off : Int} {t : Nat} {r : List Value} {os : List (Nat × List Value × List zC × Nat)} (ht : ((pc : Int) + off).toNat = t) (e : zJmp pc off r h u = some os) : os = [(t, r, h, u)] := by
  unfold zJmp at e
  split at e
  · cases e
    rw [ht]
  · cases e
theorem zLacmEq {off : Int} {t : Nat} {v w : Value} {r : List Value} (hrow : zr j pc = some (.if_acmp .eq off, a, b)) (hk : zKe (.if_acmp .eq off) a b = 8) (ht : ((pc : Int) + off).toNat = t)
    (hy : ∀ p q, v = .ref p → w = .ref q → p = q → zL zr zi n j t lv r h u K) (hn : ∀ p q, v = .ref p → w = .ref q → ¬ p = q → zL zr zi n j (pc + 3) lv r h u K) : zL zr zi n j pc lv (w :: v :: r) h u K := by
  refine zLx hrow hk (fun os e o ho => ?_)
  have e : zAcm true pc off (w :: v :: r) h u = some os := e
  unfold zAcm at e
  split at e
  · rename_i q p r2 e2
    cases e2
    split at e
    · rename_i z
      rw [if_pos rfl] at e
      rw [zJmp_at ht e] at ho
      rw [List.mem_singleton.mp ho]
      exact hy _ _ rfl rfl z
    · rename_i z
      split at e
      · rw [if_pos rfl] at e
        cases e
        rw [List.mem_singleton.mp ho]
        exact hn _ _ rfl rfl z
      · cases e
  · cases e
theorem zLacmNe {off : Int} {t : Nat} {v w : Value} {r : List Value} (hrow : zr j pc = some (.if_acmp .ne off, a, b)) (hk : zKe (.if_acmp .ne off) a b = 8) (ht : ((pc : Int) + off).toNat = t)
    (hy : ∀ p q, v = .ref p → w = .ref q → ¬ p = q → zL zr zi n j t lv r h u K) (hn : ∀ p q, v = .ref p → w = .ref q → p = q → zL zr zi n j (pc + 3) lv r h u K) : zL zr zi n j pc lv (w :: v :: r) h u K := by
  refine zLx hrow hk (fun os e o ho => ?_)
  have e : zAcm false pc off (w :: v :: r) h u = some os := e
  unfold zAcm at e
  split at e
  · rename_i q p r2 e2
    cases e2
    split at e
    · rename_i z
      rw [if_neg (by decide)] at e
      cases e
      rw [List.mem_singleton.mp ho]
      exact hn _ _ rfl rfl z
    · rename_i z
      split at e
      · rw [if_neg (by decide)] at e
        rw [zJmp_at ht e] at ho
        rw [List.mem_singleton.mp ho]
        exact hy _ _ rfl rfl z
      · cases e
  · cases e
theorem zLgmod {x : Nat} {v : Value} {r : List Value} (hrow : zr j pc = some (.getfield x, a, b)) (hk : zKe (.getfield x) a b = 8) (hw : ∀ q w, v = .ref q → gT h q = some 2 → gF h q 0 = some w → zL zr zi n j (pc + 3) lv (w :: r) h u K) : zL zr zi n j pc lv (v :: r) h u K := by
  refine zLx hrow hk (fun os e o ho => ?_)
  have e : zOh1 (zGet 2 0 pc (v :: r) h) u = some os := e
  unfold zOh1 at e
  split at e
  · rename_i pc' st' h' e1
    cases e
    rw [List.mem_singleton.mp ho]
    unfold zGet at e1
    split at e1
    · rename_i q r2 hs
      cases hs
      split at e1
      · rename_i c hc
        split at e1
        · rename_i ht
          split at e1
          · rename_i w hv
            cases e1
            exact hw _ _ rfl ((gT_of hc).trans (congrArg some ht.1)) ((gF_of hc).trans hv)
          · cases e1
        · cases e1
      · cases e1
    · cases e1
  · cases e
theorem zLpmod {x : Nat} {v w : Value} {r : List Value} (hrow : zr j pc = some (.putfield x, a, b)) (hk : zKe (.putfield x) a b = 8) (hw : ∀ q h', w = .ref q → gT h q = some 2 → hPut h h' q 0 v → zL zr zi n j (pc + 3) lv r h' u K) : zL zr zi n j pc lv (v :: w :: r) h u K := by
  refine zLx hrow hk (fun os e o ho => ?_)
  have e : zOh1 (zPut 2 0 pc (v :: w :: r) h) u = some os := e
  unfold zOh1 at e
  split at e
  · rename_i pc' st' h' e1
    cases e
    rw [List.mem_singleton.mp ho]
    unfold zPut at e1
    split at e1
    · rename_i v2 q r2 hs
      cases hs
      split at e1
      · rename_i c hc
        split at e1
        · rename_i hb
          cases e1
          exact hw _ _ rfl ((gT_of hc).trans (congrArg some hb.1)) (hPut_set hc hb.2.2.2.1)
        · cases e1
      · cases e1
    · cases e1
  · cases e
theorem zLgst {x : Nat} (hrow : zr j pc = some (.getstatic x, a, b)) (hk : zKe (.getstatic x) a b = 8) (hw : ∀ w, zL zr zi n j (pc + 3) lv (w :: st) h u K) : zL zr zi n j pc lv st h u K := by
  refine zLx hrow hk (fun os e o ho => ?_)
  have e : some [(pc + 3, .null :: st, h, u), (pc + 3, .ref 3 :: st, h, u)] = some os := e
  cases e
  rcases List.mem_cons.mp ho with z | z
  · subst z
    exact hw _
  · rw [List.mem_singleton.mp z]
    exact hw _
theorem zLgcl {x : Nat} {v : Value} {r : List Value} (hrow : zr j pc = some (.invokevirtual x, 2, b)) (hk : zKe (.invokevirtual x) 2 b = 8) (hw : ∀ q, v = .ref q → gT h q = some 105 → zL zr zi n j (pc + 3) lv (.ref 7 :: r) h u K) : zL zr zi n j pc lv (v :: r) h u K := by
  refine zLx hrow hk (fun os e o ho => ?_)
  have e : zGcl pc (v :: r) h u = some os := e
  unfold zGcl at e
  split at e
  · rename_i q r2 hs
    cases hs
    split at e
    · rename_i c hc
      split at e
      · rename_i hx
        cases e
        rw [List.mem_singleton.mp ho]
        exact hw _ rfl ((gT_of hc).trans (congrArg some hx.1))
      · cases e
    · cases e
  · cases e
theorem zLcka {x : Nat} {v : Value} {r : List Value} (hrow : zr j pc = some (.checkcast x, a, b)) (hk : zKe (.checkcast x) a b = 8) (hw : ∀ q, v = .ref q → zL zr zi n j (pc + 3) lv (.ref q :: r) h u K) : zL zr zi n j pc lv (v :: r) h u K := by
  refine zLx hrow hk (fun os e o ho => ?_)
  have e : zCka a pc (v :: r) h u = some os := e
  unfold zCka at e
  split at e
  · rename_i q r2 hs
    cases hs
    split at e
    · rename_i c hc
      split at e
      · cases e
        rw [List.mem_singleton.mp ho]
        exact hw _ rfl
      · cases e
    · cases e
  · cases e
/-- the heap behind a copy: cells of the row d are those of the row q from sp on -/
def hCpy (h h2 : List zC) (q sp d dp n : Nat) : Prop := h2.length = h.length ∧ (∀ p k, gF h2 p k = if p = d ∧ dp ≤ k ∧ k < dp + n then gF h q (sp + (k - dp)) else gF h p k) ∧ (∀ p, gT h2 p = gT h p) ∧ ∀ p, gN h2 p = gN h p
theorem hCpy_set {h : List zC} {q sp d dp n : Nat} {c e : zC} (h1 : h[q]? = some c) (h2 : h[d]? = some e) (b1 : sp + n ≤ c.2.length) (b2 : dp + n ≤ e.2.length) : hCpy h (h.set d (e.1, zCpy c.2 e.2 sp dp n)) q sp d dp n := by
  have hd := (List.getElem?_eq_some_iff.mp h2).1
  refine ⟨List.length_set, fun p k => ?_, fun p => ?_, fun p => ?_⟩
  · unfold gF
    by_cases z : p = d
    · subst z
      rw [List.getElem?_set_self hd, h2, h1]
      show (zCpy c.2 e.2 sp dp n)[k]? = if p = p ∧ dp ≤ k ∧ k < dp + n then c.2[sp + (k - dp)]? else e.2[k]?
      by_cases y : k < e.2.length
      · have l : k < (zCpy c.2 e.2 sp dp n).length := by rw [zCpy_len]; exact y
        have g := zCpy_get (f := c.2) (g := e.2) (sp := sp) (dp := dp) (n := n) y
        rw [List.getD_eq_getElem?_getD, List.getElem?_eq_getElem l] at g
        rw [List.getElem?_eq_getElem l]
        simp only [Option.getD_some] at g
        rw [g]
        by_cases x : dp ≤ k ∧ k < dp + n
        · rw [if_pos x, if_pos ⟨rfl, x⟩, List.getD_eq_getElem?_getD, List.getElem?_eq_getElem (show sp + (k - dp) < c.2.length by omega)]
          rfl
        · rw [if_neg x, if_neg (fun w => x w.2), List.getD_eq_getElem?_getD, List.getElem?_eq_getElem y]
          rfl
      · rw [List.getElem?_eq_none (show (zCpy c.2 e.2 sp dp n).length ≤ k by rw [zCpy_len]; omega), if_neg (fun w => by omega), List.getElem?_eq_none (show e.2.length ≤ k by omega)]
    · rw [List.getElem?_set_ne (Ne.symm z), if_neg (fun w => z w.1)]
  · unfold gT
    by_cases z : p = d
    · subst z
      rw [List.getElem?_set_self hd, h2]
    · rw [List.getElem?_set_ne (Ne.symm z)]
  · unfold gN
    by_cases z : p = d
    · subst z
      rw [List.getElem?_set_self hd, h2]
      show some (zCpy c.2 e.2 sp dp n).length = some e.2.length
      rw [zCpy_len]
    · rw [List.getElem?_set_ne (Ne.symm z)]
theorem zLarc {x : Nat} {v w : Value} {n1 n2 n3 : Value} {r : List Value} (hrow : zr j pc = some (.invokestatic x, a, b)) (hk : zKe (.invokestatic x) a b = 8) (hw : ∀ q d sp dp m h', v = .ref q → w = .ref d → n1 = .int sp → n2 = .int dp → n3 = .int m → ¬ sp < 0 → ¬ dp < 0 → ¬ m < 0 → hCpy h h' q sp.toNatClampNeg d dp.toNatClampNeg m.toNatClampNeg → zL zr zi n j (pc + 3) lv r h' u K) : zL zr zi n j pc lv (n3 :: n2 :: w :: n1 :: v :: r) h u K := by
  refine zLx hrow hk (fun os e o ho => ?_)
  have e : zArc pc (n3 :: n2 :: w :: n1 :: v :: r) h u = some os := e
  unfold zArc at e
  split at e
  · rename_i m dp d sp q r2 hs
    cases hs
    split at e
    · rename_i cs cd hc1 hc2
      split at e
      · rename_i hx
        obtain ⟨x1, x2, x3, x4, x5, x6, x7⟩ := hx
        cases e
        rw [List.mem_singleton.mp ho]
        exact hw _ _ _ _ _ _ rfl rfl rfl rfl rfl x2 x3 x4 (hCpy_set hc1 hc2 x5 x6)
      · cases e
    · cases e
  · cases e
/-- the cell c behind all -/
def vNew (h h2 : List zC) (c : zC) : Prop := h2 = h ++ [c]
theorem vNew.fld {h h2 : List zC} {c : zC} (e : vNew h h2 c) (k : Nat) : gF h2 h.length k = c.2[k]? := by
  unfold vNew at e
  subst e
  exact gF_of (by simp)
theorem vNew.ext {h h2 : List zC} {c : zC} (e : vNew h h2 c) : hExt h h2 := by
  unfold vNew at e
  subst e
  exact hExt_app _ _
theorem vNew.len {h h2 : List zC} {c : zC} (e : vNew h h2 c) : h2.length = h.length + 1 := by
  unfold vNew at e
  subst e
  simp
theorem vNew.cn {h h2 : List zC} {c : zC} (e : vNew h h2 c) : gN h2 h.length = some c.2.length ∧ gT h2 h.length = some c.1 := by
  unfold vNew at e
  subst e
  exact ⟨gN_of (by simp), gT_of (by simp)⟩
theorem hExt.T {h h2 : List zC} (e : hExt h h2) {p : Nat} (hp : p < h.length) : gT h2 p = gT h p ∧ gN h2 p = gN h p := by
  unfold gT gN
  rw [e p hp]
  exact ⟨rfl, rfl⟩
theorem zLanew {x : Nat} {v : Value} {r : List Value} (hrow : zr j pc = some (.anewarray x, a, b)) (hk : zKe (.anewarray x) a b = 2) (hw : ∀ m h' u', v = .int m → ¬ m < 0 → vNew h h' (a, List.replicate m.toNatClampNeg .null) → zL zr zi n j (pc + 3) lv (.ref h.length :: r) h' u' K) : zL zr zi n j pc lv (v :: r) h u K := by
  refine zLmk hrow hk (fun pc' st' h' u' e => ?_)
  unfold zMk at e
  dsimp only at e
  split at e
  · rename_i m r2 e2
    cases e2
    split at e
    · rename_i hx
      cases e
      exact hw _ _ _ rfl hx.2.2.1 rfl
    · cases e
  · cases e
theorem zLnarr {x : _} {v : Value} {r : List Value} (hrow : zr j pc = some (.newarray x, a, b)) (hk : zKe (.newarray x) a b = 2) (hw : ∀ m h' u', v = .int m → ¬ m < 0 → vNew h h' (a, List.replicate m.toNatClampNeg (defaultValue (newarray.typeOf x))) → zL zr zi n j (pc + 2) lv (.ref h.length :: r) h' u' K) : zL zr zi n j pc lv (v :: r) h u K := by
  refine zLmk hrow hk (fun pc' st' h' u' e => ?_)
  unfold zMk at e
  dsimp only at e
  split at e
  · rename_i m r2 e2
    cases e2
    split at e
    · rename_i hx
      cases e
      exact hw _ _ _ rfl hx.2.2.1 rfl
    · cases e
  · cases e
theorem zLnew2 {x : Nat} (hrow : zr j pc = some (.new x, a, b)) (hk : zKe (.new x) a b = 2) (hw : ∀ h' u', vNew h h' (a, zDef a) → zL zr zi n j (pc + 3) lv (.ref h.length :: st) h' u' K) : zL zr zi n j pc lv st h u K :=
  zLnew hrow hk (fun _ => hw _ _ rfl)
theorem zLaast2 {v w y : Value} {r : List Value} (hrow : zr j pc = some (.aastore, a, b)) (hk : zKe .aastore a b = 1) (hw : ∀ q x z h', v = .ref q → w = .int x → y = .ref z → ¬ x < 0 → (∃ t, gT h q = some t ∧ 105 ≤ t) → (∃ m, gN h q = some m ∧ x.toNatClampNeg < m) → hPut h h' q x.toNatClampNeg (.ref z) → zL zr zi n j (pc + 1) lv r h' u K) : zL zr zi n j pc lv (y :: w :: v :: r) h u K := by
  refine zL1 hrow hk (fun pc' st' h' e => ?_)
  have e : zStR pc (y :: w :: v :: r) h = some (pc', st', h') := e
  unfold zStR at e
  split at e
  · rename_i z x q r2 hs
    cases hs
    split at e
    · rename_i c cv hc hcv
      split at e
      · rename_i hx
        cases e
        exact hw _ _ _ _ rfl rfl rfl hx.2.2.1 ⟨_, gT_of hc, hx.1⟩ ⟨_, gN_of hc, hx.2.2.2.1⟩ (hPut_set hc hx.2.2.2.1)
      · cases e
    · cases e
  · cases e
theorem zSdupx {v w : Value} {r : List Value} (hrow : zr j pc = some (.dup_x1, a, b)) (hk : zKe .dup_x1 a b = 0) (hp : zP (zMl (zi j)) .dup_x1 pc lv (v :: w :: r) = zdupx1 pc lv (v :: w :: r)) (hw : zL zr zi n j (pc + 1) lv (v :: w :: v :: r) h u K) : zL zr zi n j pc lv (v :: w :: r) h u K := by
  refine zLq hrow hk (fun pc2 lv2 st2 e => ?_)
  rw [hp] at e
  unfold zdupx1 at e
  dsimp only at e
  split at e
  · cases e
    exact hw
  · cases e
/-- a switch: elsewhere, or at one of its places -/
theorem zLsw {d lo hi : Int} {offs : Array Int} {v : Value} {r : List Value} (hrow : zr j pc = some (.tableswitch d lo hi offs, a, b)) (hk : zKe (.tableswitch d lo hi offs) a b = 0)
    (hd : ∀ x : Int32, v = .int x → x.toInt < lo ∨ hi < x.toInt → zL zr zi n j ((pc : Int) + d).toNat lv r h u K) (ho : ∀ (x : Int32) (off : Int), v = .int x → lo ≤ x.toInt → x.toInt ≤ hi → offs[(x.toInt - lo).toNat]? = some off → zL zr zi n j ((pc : Int) + off).toNat lv r h u K) : zL zr zi n j pc lv (v :: r) h u K := by
  refine zLq hrow hk (fun pc2 lv2 st2 e => ?_)
  have e : zsw pc lv (v :: r) d lo hi offs = some (pc2, lv2, st2) := e
  unfold zsw at e
  split at e
  · rename_i x r2 e2
    cases e2
    split at e
    · rename_i z
      unfold zgo at e
      split at e
      · cases e
        exact hd _ rfl z
      · cases e
    · rename_i z
      split at e
      · rename_i off hoff
        unfold zgo at e
        split at e
        · cases e
          exact ho _ _ rfl (by omega) (by omega) hoff
        · cases e
      · cases e
  · cases e
theorem zSdup2 {x : Int32} {w : Value} {r : List Value} (hrow : zr j pc = some (.dup2, a, b)) (hk : zKe .dup2 a b = 0) (hw : zL zr zi n j (pc + 1) lv (.int x :: w :: .int x :: w :: r) h u K) : zL zr zi n j pc lv (.int x :: w :: r) h u K := by
  refine zLq hrow hk (fun pc2 lv2 st2 e => ?_)
  have e : zdup2 pc lv (.int x :: w :: r) = some (pc2, lv2, st2) := e
  unfold zdup2 at e
  dsimp only at e
  split at e
  · rename_i z
    exact absurd (show (1 : Nat) = 2 from z) (by decide)
  · split at e
    · cases e
      exact hw
    · cases e
theorem zLinn {off : Int} {t : Nat} {v : Value} {r : List Value} (hrow : zr j pc = some (.ifnonnull off, a, b)) (hk : zKe (.ifnonnull off) a b = 8) (ht : ((pc : Int) + off).toNat = t) (hy : ∀ q, v = .ref q → zL zr zi n j t lv r h u K) (hn : v = .null → zL zr zi n j (pc + 3) lv r h u K) : zL zr zi n j pc lv (v :: r) h u K := by
  refine zLx hrow hk (fun os e o ho => ?_)
  have e : zIfn false pc off (v :: r) h u = some os := e
  unfold zIfn at e
  split at e
  · rename_i r2 e2
    cases e2
    rw [if_neg (by decide)] at e
    cases e
    rw [List.mem_singleton.mp ho]
    exact hn rfl
  · rename_i q r2 e2
    cases e2
    rw [if_neg (by decide)] at e
    rw [zJmp_at ht e] at ho
    rw [List.mem_singleton.mp ho]
    exact hy _ rfl
  · cases e
theorem zLbast {v w y : Value} {r : List Value} (hrow : zr j pc = some (.bastore, a, b)) (hk : zKe .bastore a b = 1) (hw : ∀ q x z t h', v = .ref q → w = .int x → y = .int z → ¬ x < 0 → gT h q = some t → (∃ m, gN h q = some m ∧ x.toNatClampNeg < m) → hPut h h' q x.toNatClampNeg (if t = 101 then narrow .byte (.int z) else narrow .boolean (.int z)) → zL zr zi n j (pc + 1) lv r h' u K) : zL zr zi n j pc lv (y :: w :: v :: r) h u K := by
  refine zL1 hrow hk (fun pc' st' h' e => ?_)
  have e : zStA (fun k => k == 101 || k == 102) (fun k x => if k = 101 then narrow .byte (.int x) else narrow .boolean (.int x)) pc (y :: w :: v :: r) h = some (pc', st', h') := e
  unfold zStA at e
  split at e
  · rename_i z x q r2 hs
    cases hs
    split at e
    · rename_i c hc
      split at e
      · rename_i hx
        cases e
        exact hw _ _ _ _ _ rfl rfl rfl hx.2.2.1 (gT_of hc) ⟨_, gN_of hc, hx.2.2.2⟩ (hPut_set hc hx.2.2.2)
      · cases e
    · cases e
  · cases e
theorem zLcln {x : Nat} {v : Value} {r : List Value} (hrow : zr j pc = some (.invokevirtual x, 1, b)) (hk : zKe (.invokevirtual x) 1 b = 8) (hw : ∀ q l h' u', v = .ref q → gN h q = some l.length → (∀ k, gF h q k = l[k]?) → vNew h h' (101, l) → zL zr zi n j (pc + 3) lv (.ref h.length :: r) h' u' K) : zL zr zi n j pc lv (v :: r) h u K := by
  refine zLx hrow hk (fun os e o ho => ?_)
  have e : zCln pc (v :: r) h u = some os := e
  unfold zCln at e
  split at e
  · rename_i q r2 hs
    cases hs
    split at e
    · rename_i c hc
      split at e
      · cases e
        rw [List.mem_singleton.mp ho]
        exact hw _ c.2 _ _ rfl (gN_of hc) (fun k => gF_of hc) rfl
      · cases e
    · cases e
  · cases e
end zMo
