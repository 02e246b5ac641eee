/-! ===== the small machine: its run, as what must hold for the rest to hold ===== -/
/-- the exception E at pc: the row of the table that takes it -/
def zHit (x : zI) (pc E : Nat) : Option (Nat × Nat × Nat × Nat × Nat) := (zTb x).find? (fun r => decide (r.1 ≤ pc) && decide (pc < r.2.1) && decide (zEx r.2.2.2.2 = zEx E))
/-- it lays a reference into a local: which, and its length -/
def zAst (i : Instr) : Option (Nat × Nat) := match i with
  | .astore k => some (k, 2)
  | .astore_n k => some (k.val, 1)
  | _ => none
theorem zAst_inv {i : Instr} {k n : Nat} (h : zAst i = some (k, n)) : (i = .astore k ∧ n = 2) ∨ ∃ q : Fin 4, i = .astore_n q ∧ q.val = k ∧ n = 1 := by
  unfold zAst at h
  split at h
  · cases h
    exact Or.inl ⟨rfl, rfl⟩
  · cases h
    exact Or.inr ⟨_, rfl, rfl, rfl⟩
  · cases h
/-- what a handler does first with what it caught: it lays it into a local (which is never read) -/
def zCat (zr : zRow) (zi : Nat → zI) (j pc E : Nat) (lv : List (Nat × Value)) : Option (Option (Nat × List (Nat × Value))) := match zHit (zi j) pc E with
  | none => some none
  | some r => match zr j r.2.2.1 with
    | some (i, _, _) => match zAst i with
      | some (k, n) => if k < zMl (zi j) then some (some (r.2.2.1 + n, (zs1 lv k .null).drop 1)) else none
      | none => none
    | none => none
def zRt (ret : Option FieldType) (i : Instr) (st : List Value) : Option (Option Value) := match i with
  | .ireturn => match st, ret with
    | [.int v], some ty => if narrow ty (.int v) = .int v then some (some (.int v)) else none
    | _, _ => none
  | .lreturn => match st, ret with
    | [.long v], some .long => some (some (.long v))
    | _, _ => none
  | .dreturn => match st, ret with
    | [.double v], some .double => some (some (.double v))
    | _, _ => none
  | .areturn => match st, ret with
    | [.ref v], some (.object _) => some (some (.ref v))
    | [.null], some (.object _) => some (some .null)
    | [.ref v], some (.array _) => some (some (.ref v))
    | [.null], some (.array _) => some (some .null)
    | _, _ => none
  | .return_ => match st, ret with
    | [], none => some none
    | _, _ => none
  | _ => none
/-- a constant: of the kind b (0 int, 1 long, 2 double, 3 a cell of the start) -/
def zCo (i : Instr) (a b : Nat) : Value := match b with
  | 0 => .int (Int32.ofNat a)
  | 1 => .long (Int64.ofNat a)
  | 2 => .double (UInt64.ofNat a)
  | _ => .ref a
/-- the receiver's class, where there is one: b / 10 is 1 more than its place -/
def zRc (b : Nat) (As : List Value) (h : List zC) : Prop := b / 10 = 0 ∨ match As with
  | .ref q :: _ => match h[q]? with
    | some c => c.1 + 1 = b / 10 ∧ c.1 < 90
    | none => False
  | _ => False
abbrev zRes : Type := Option Value ⊕ Nat
abbrev zK : Type := zRes → List zC → Nat → Prop
def zW (zr : zRow) (zi : Nat → zI) : Nat → Nat → Nat → Nat → List (Nat × Value) → List Value → List zC → Nat → zK → Prop
  | 0, _, _, _, _, _, _, _, _ => False
  | f + 1, d, j, pc, lv, st, h, u, K =>
    match zr j pc with
    | none => False
    | some (i, a, b) =>
      match zKe i a b with
      | 0 => match zP (zMl (zi j)) i pc lv st with
        | some (pc', lv', st') => zW zr zi f d j pc' lv' st' h u K
        | none => False
      | 1 => match zG i a b pc st h with
        | some (pc', st', h') => zW zr zi f d j pc' lv st' h' u K
        | none => False
      | 2 => match zMk i a pc st h u with
        | some (pc', st', h', u') => zW zr zi f d j pc' lv st' h' u' K
        | none => False
      | 3 => zNp (zi a) ≤ st.length ∧ ((st.drop (zNp (zi a))).map (fun v => v.category)).sum ≤ 8 ∧ (lg_sl (st.take (zNp (zi a))).reverse).length ≤ zMl (zi a) ∧ zMl (zi a) ≤ 40 ∧ zRc b (st.take (zNp (zi a))).reverse h ∧
        match d with
        | 0 => False
        | d' + 1 => zW zr zi f d' a 0 (lv_args 0 (st.take (zNp (zi a))).reverse) [] h u (fun o h' u' => match o with
          | .inl v => zW zr zi f (d' + 1) j (pc + zLen i) lv (v.toList ++ st.drop (zNp (zi a))) h' u' K
          | .inr E => match zCat zr zi j pc E lv with
            | some (some (pc', lv')) => zW zr zi f (d' + 1) j pc' lv' [] h' u' K
            | some none => K (.inr E) h' u'
            | none => False)
      | 4 => match zRt (zRe (zi j)) i st with
        | some v => K (.inl v) h u
        | none => False
      | 5 => st = [] ∧ h.length + 1 ≤ zCM ∧ u + 6 ≤ zSN ∧ ∀ x y : Nat, x ≤ 1 → y ≤ 6 → K (.inr (a - 1000)) (h ++ List.replicate x (98, [])) (u + y)
      | 6 => match st with
        | .ref _ :: r => (r.map (fun v => v.category)).sum ≤ 8 ∧ zW zr zi f d j (pc + 3) lv r h u K
        | _ => False
      | 7 => zW zr zi f d j (pc + zLen i) lv (zCo i a b :: st) h u K
      | 8 => match zX i a pc st h u with
        | some os => ∀ o ∈ os, zW zr zi f d j o.1 lv o.2.1 o.2.2.1 o.2.2.2 K
        | none => False
      | _ => False
theorem zW_K {zr : zRow} {zi : Nat → zI} : ∀ (f d j pc : Nat) (lv : List (Nat × Value)) (st : List Value) (h : List zC) (u : Nat) (K K' : zK), zW zr zi f d j pc lv st h u K → (∀ o h' u', K o h' u' → K' o h' u') → zW zr zi f d j pc lv st h u K'
  | 0, _, _, _, _, _, _, _, _, _, hw, _ => hw
  | f + 1, d, j, pc, lv, st, h, u, K, K', hw, hk => by
    have ih := @zW_K zr zi f
    unfold zW at hw ⊢
    split at hw
    · exact hw
    · split at hw
      · split at hw
        · exact ih _ _ _ _ _ _ _ _ _ hw hk
        · exact hw
      · split at hw
        · exact ih _ _ _ _ _ _ _ _ _ hw hk
        · exact hw
      · split at hw
        · exact ih _ _ _ _ _ _ _ _ _ hw hk
        · exact hw
      · obtain ⟨h1, h2, h3, h4, h5, hw⟩ := hw
        refine ⟨h1, h2, h3, h4, h5, ?_⟩
        split at hw
        · exact hw
        · refine ih _ _ _ _ _ _ _ _ _ hw (fun o h' u' q => ?_)
          split at q
          · exact ih _ _ _ _ _ _ _ _ _ q hk
          · split at q
            · exact ih _ _ _ _ _ _ _ _ _ q hk
            · exact hk _ _ _ q
            · exact q
      · split at hw
        · exact hk _ _ _ hw
        · exact hw
      · exact ⟨hw.1, hw.2.1, hw.2.2.1, fun x y hx hy => hk _ _ _ (hw.2.2.2 x y hx hy)⟩
      · split at hw
        · exact ⟨hw.1, ih _ _ _ _ _ _ _ _ _ hw.2 hk⟩
        · exact hw
      · exact ih _ _ _ _ _ _ _ _ _ hw hk
      · split at hw
        · exact fun o ho => ih _ _ _ _ _ _ _ _ _ (hw o ho) hk
        · exact hw
      · exact hw
