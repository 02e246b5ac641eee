/-! ===== runs of any number of steps ===== -/
theorem zW_mono {zr : zRow} {zi : Nat → zI} : ∀ (f d j pc : Nat) (lv : List (Nat × Value)) (st : List Value) (h : List zC) (u : Nat) (K : zK), zW zr zi f d j pc lv st h u K → zW zr zi (f + 1) d j pc lv st h u K
  | 0, _, _, _, _, _, _, _, _, hw => hw.elim
  | f + 1, d, j, pc, lv, st, h, u, K, hw => by
    have ih := @zW_mono zr zi f
    unfold zW at hw ⊢
    split at hw
    · exact hw
    · split at hw
      · split at hw
        · exact ih _ _ _ _ _ _ _ _ hw
        · exact hw
      · split at hw
        · exact ih _ _ _ _ _ _ _ _ hw
        · exact hw
      · split at hw
        · exact ih _ _ _ _ _ _ _ _ hw
        · exact hw
      · obtain ⟨h1, h2, h3, h4, h5, hw⟩ := hw
        refine ⟨h1, h2, h3, h4, h5, ?_⟩
        split at hw
        · exact hw
        · refine zW_K _ _ _ _ _ _ _ _ _ _ (ih _ _ _ _ _ _ _ _ hw) (fun o h' u' q => ?_)
          split at q
          · exact ih _ _ _ _ _ _ _ _ q
          · split at q
            · exact ih _ _ _ _ _ _ _ _ q
            · exact q
            · exact q
      · exact hw
      · exact hw
      · split at hw
        · exact ⟨hw.1, ih _ _ _ _ _ _ _ _ hw.2⟩
        · exact hw
      · exact ih _ _ _ _ _ _ _ _ hw
      · split at hw
        · exact fun o ho => ih _ _ _ _ _ _ _ _ (hw o ho)
        · exact hw
      · exact hw
theorem zW_le {zr : zRow} {zi : Nat → zI} {f g d j pc : Nat} {lv : List (Nat × Value)} {st : List Value} {h : List zC} {u : Nat} {K : zK} (hfg : f ≤ g) (hw : zW zr zi f d j pc lv st h u K) : zW zr zi g d j pc lv st h u K := by
  obtain ⟨n, rfl⟩ := Nat.exists_eq_add_of_le hfg
  clear hfg
  induction n with
  | zero => exact hw
  | succ n ih => exact zW_mono _ _ _ _ _ _ _ _ _ ih
theorem zBnd {Q : Nat → Nat → Prop} (hm : ∀ g x, Q g x → Q (g + 1) x) : ∀ n, (∀ x, x < n → ∃ g, Q g x) → ∃ g, ∀ x, x < n → Q g x
  | 0, _ => ⟨0, fun x h => absurd h (Nat.not_lt_zero x)⟩
  | n + 1, h => by
    have up : ∀ k g x, Q g x → Q (g + k) x := fun k => by
      induction k with
      | zero => exact fun g x q => q
      | succ k ih => exact fun g x q => hm _ _ (ih g x q)
    obtain ⟨g1, h1⟩ := zBnd hm n (fun x hx => h x (Nat.lt_succ_of_lt hx))
    obtain ⟨g2, h2⟩ := h n (Nat.lt_succ_self n)
    refine ⟨g1 + g2, fun x hx => ?_⟩
    rcases Nat.lt_or_eq_of_le (Nat.le_of_lt_succ hx) with e | e
    · exact up g2 g1 x (h1 x e)
    · subst e
      have := up g1 g2 x h2
      rw [Nat.add_comm] at this
      exact this
theorem zBndL {α : Type} {Q : Nat → α → Prop} (hm : ∀ g x, Q g x → Q (g + 1) x) : ∀ l : List α, (∀ x ∈ l, ∃ g, Q g x) → ∃ g, ∀ x ∈ l, Q g x
  | [], _ => ⟨0, fun x h => nomatch h⟩
  | y :: l, h => by
    have up : ∀ k g x, Q g x → Q (g + k) x := fun k => by
      induction k with
      | zero => exact fun g x q => q
      | succ k ih => exact fun g x q => hm _ _ (ih g x q)
    obtain ⟨g1, h1⟩ := zBndL hm l (fun x hx => h x (List.mem_cons_of_mem _ hx))
    obtain ⟨g2, h2⟩ := h y List.mem_cons_self
    refine ⟨g1 + g2, fun x hx => ?_⟩
    rcases List.mem_cons.mp hx with e | e
    · subst e
      have := up g1 g2 x h2
      rw [Nat.add_comm] at this
      exact this
    · exact up g2 g1 x (h1 x e)
theorem zW_unif {zr : zRow} {zi : Nat → zI} : ∀ (f d j pc : Nat) (lv : List (Nat × Value)) (st : List Value) (h : List zC) (u : Nat) (P : Nat → zK), (∀ g o h u, P g o h u → P (g + 1) o h u) → zW zr zi f d j pc lv st h u (fun o h u => ∃ g, P g o h u) → ∃ g, zW zr zi f d j pc lv st h u (P g)
  | 0, _, _, _, _, _, _, _, _, _, hw => hw.elim
  | f + 1, d, j, pc, lv, st, h, u, P, hm, hw => by
    have ih := @zW_unif zr zi f
    unfold zW at hw
    split at hw
    · exact hw.elim
    · rename_i i a b hrow
      split at hw
      · rename_i hk
        split at hw
        · rename_i heq
          obtain ⟨g, q⟩ := ih _ _ _ _ _ _ _ P hm hw
          refine ⟨g, ?_⟩
          unfold zW
          simp only [hrow, hk, heq]
          exact q
        · exact hw.elim
      · rename_i hk
        split at hw
        · rename_i heq
          obtain ⟨g, q⟩ := ih _ _ _ _ _ _ _ P hm hw
          refine ⟨g, ?_⟩
          unfold zW
          simp only [hrow, hk, heq]
          exact q
        · exact hw.elim
      · rename_i hk
        split at hw
        · rename_i heq
          obtain ⟨g, q⟩ := ih _ _ _ _ _ _ _ P hm hw
          refine ⟨g, ?_⟩
          unfold zW
          simp only [hrow, hk, heq]
          exact q
        · exact hw.elim
      · rename_i hk
        obtain ⟨h1, h2, h3, h4, h5, hw⟩ := hw
        cases d with
        | zero => exact hw.elim
        | succ d =>
          have hw2 : zW zr zi f d a 0 (lv_args 0 (st.take (zNp (zi a))).reverse) [] h u (fun o h' u' => ∃ g, (fun (g : Nat) (o : zRes) (h' : List zC) (u' : Nat) => match o with
            | .inl v => zW zr zi f (d + 1) j (pc + zLen i) lv (v.toList ++ st.drop (zNp (zi a))) h' u' (P g)
            | .inr E => match zCat zr zi j pc E lv with
              | some (some (pc', lv')) => zW zr zi f (d + 1) j pc' lv' [] h' u' (P g)
              | some none => P g (.inr E) h' u'
              | none => False) g o h' u') := by
            refine zW_K _ _ _ _ _ _ _ _ _ _ hw (fun o h' u' q => ?_)
            cases o with
            | inl v => exact ih _ _ _ _ _ _ _ P hm q
            | inr E =>
              dsimp only at q ⊢
              cases hc : zCat zr zi j pc E lv with
              | none => rw [hc] at q; exact q.elim
              | some z =>
                rw [hc] at q
                cases z with
                | none => exact q
                | some y => exact ih _ _ _ _ _ _ _ P hm q
          obtain ⟨g, q⟩ := ih _ _ _ _ _ _ _ _ (fun g o h' u' q => by
            cases o with
            | inl v => exact zW_K _ _ _ _ _ _ _ _ _ _ q (hm g)
            | inr E =>
              dsimp only at q ⊢
              cases hc : zCat zr zi j pc E lv with
              | none => rw [hc] at q; exact q.elim
              | some z =>
                rw [hc] at q
                cases z with
                | none => exact hm g _ _ _ q
                | some y => exact zW_K _ _ _ _ _ _ _ _ _ _ q (hm g)) hw2
          refine ⟨g, ?_⟩
          unfold zW
          rw [hrow]
          dsimp only
          rw [hk]
          exact ⟨h1, h2, h3, h4, h5, q⟩
      · rename_i hk
        split at hw
        · rename_i heq
          obtain ⟨g, q⟩ := hw
          refine ⟨g, ?_⟩
          unfold zW
          simp only [hrow, hk, heq]
          exact q
        · exact hw.elim
      · rename_i hk
        obtain ⟨h1, h2, h3, hw⟩ := hw
        obtain ⟨g, q⟩ := zBnd (Q := fun g x => ∀ y, y < 7 → P g (.inr (a - 1000)) (h ++ List.replicate x (98, [])) (u + y)) (fun g x q y hy => hm g _ _ _ (q y hy)) 2 (fun x hx => zBnd (Q := fun g y => P g (.inr (a - 1000)) (h ++ List.replicate x (98, [])) (u + y)) (fun g y q => hm g _ _ _ q) 7 (fun y hy => hw x y (by omega) (by omega)))
        refine ⟨g, ?_⟩
        unfold zW
        rw [hrow]
        dsimp only
        rw [hk]
        exact ⟨h1, h2, h3, fun x y hx hy => q x (by omega) y (by omega)⟩
      · rename_i hk
        split at hw
        · obtain ⟨g, q⟩ := ih _ _ _ _ _ _ _ P hm hw.2
          refine ⟨g, ?_⟩
          unfold zW
          rw [hrow]
          dsimp only
          rw [hk]
          exact ⟨hw.1, q⟩
        · exact hw.elim
      · rename_i hk
        obtain ⟨g, q⟩ := ih _ _ _ _ _ _ _ P hm hw
        refine ⟨g, ?_⟩
        unfold zW
        rw [hrow]
        dsimp only
        rw [hk]
        exact q
      · rename_i hk
        split at hw
        · rename_i os heq
          obtain ⟨g, q⟩ := zBndL (Q := fun g (o : Nat × List Value × List zC × Nat) => zW zr zi f d j o.1 lv o.2.1 o.2.2.1 o.2.2.2 (P g)) (fun g o q => zW_K _ _ _ _ _ _ _ _ _ _ q (hm g)) os (fun o ho => ih _ _ _ _ _ _ _ P hm (hw o ho))
          refine ⟨g, ?_⟩
          unfold zW
          simp only [hrow, hk, heq]
          exact q
        · exact hw.elim
      · exact hw.elim
def zE (zr : zRow) (zi : Nat → zI) (d j pc : Nat) (lv : List (Nat × Value)) (st : List Value) (h : List zC) (u : Nat) (K : zK) : Prop := ∃ f, zW zr zi f d j pc lv st h u K
section zEr
variable {zr : zRow} {zi : Nat → zI} {d j pc : Nat} {lv : List (Nat × Value)} {st : List Value} {h : List zC} {u a b : Nat} {K K' : zK} {i : Instr}
theorem zE_K (hw : zE zr zi d j pc lv st h u K) (hk : ∀ o h' u', K o h' u' → K' o h' u') : zE zr zi d j pc lv st h u K' := by
  obtain ⟨f, hw⟩ := hw
  exact ⟨f, zW_K _ _ _ _ _ _ _ _ _ _ hw hk⟩
theorem zE_0 {pc' : Nat} {lv' : List (Nat × Value)} {st' : List Value} (hrow : zr j pc = some (i, a, b)) (hk : zKe i a b = 0) (hp : zP (zMl (zi j)) i pc lv st = some (pc', lv', st')) (hw : zE zr zi d j pc' lv' st' h u K) : zE zr zi d j pc lv st h u K := by
  obtain ⟨f, hw⟩ := hw
  refine ⟨f + 1, ?_⟩
  unfold zW
  simp only [hrow, hk, hp]
  exact hw
theorem zE_1 {pc' : Nat} {st' : List Value} {h' : List zC} (hrow : zr j pc = some (i, a, b)) (hk : zKe i a b = 1) (hp : zG i a b pc st h = some (pc', st', h')) (hw : zE zr zi d j pc' lv st' h' u K) : zE zr zi d j pc lv st h u K := by
  obtain ⟨f, hw⟩ := hw
  refine ⟨f + 1, ?_⟩
  unfold zW
  simp only [hrow, hk, hp]
  exact hw
theorem zE_2 {pc' u' : Nat} {st' : List Value} {h' : List zC} (hrow : zr j pc = some (i, a, b)) (hk : zKe i a b = 2) (hp : zMk i a pc st h u = some (pc', st', h', u')) (hw : zE zr zi d j pc' lv st' h' u' K) : zE zr zi d j pc lv st h u K := by
  obtain ⟨f, hw⟩ := hw
  refine ⟨f + 1, ?_⟩
  unfold zW
  simp only [hrow, hk, hp]
  exact hw
theorem zE_4 {v : Option Value} (hrow : zr j pc = some (i, a, b)) (hk : zKe i a b = 4) (hp : zRt (zRe (zi j)) i st = some v) (hw : K (.inl v) h u) : zE zr zi d j pc lv st h u K := by
  refine ⟨1, ?_⟩
  unfold zW
  simp only [hrow, hk, hp]
  exact hw
theorem zE_5 (hrow : zr j pc = some (i, a, b)) (hk : zKe i a b = 5) (h1 : st = []) (h2 : h.length + 1 ≤ zCM) (h3 : u + 6 ≤ zSN) (hw : ∀ x y : Nat, x ≤ 1 → y ≤ 6 → K (.inr (a - 1000)) (h ++ List.replicate x (98, [])) (u + y)) : zE zr zi d j pc lv st h u K := by
  refine ⟨1, ?_⟩
  unfold zW
  rw [hrow]
  dsimp only
  rw [hk]
  exact ⟨h1, h2, h3, hw⟩
theorem zE_6 {q : Nat} {r : List Value} (hrow : zr j pc = some (i, a, b)) (hk : zKe i a b = 6) (hst : st = .ref q :: r) (hr : (r.map (fun v => v.category)).sum ≤ 8) (hw : zE zr zi d j (pc + 3) lv r h u K) : zE zr zi d j pc lv st h u K := by
  obtain ⟨f, hw⟩ := hw
  refine ⟨f + 1, ?_⟩
  unfold zW
  rw [hrow]
  dsimp only
  rw [hk, hst]
  exact ⟨hr, hw⟩
theorem zE_7 (hrow : zr j pc = some (i, a, b)) (hk : zKe i a b = 7) (hw : zE zr zi d j (pc + zLen i) lv (zCo i a b :: st) h u K) : zE zr zi d j pc lv st h u K := by
  obtain ⟨f, hw⟩ := hw
  refine ⟨f + 1, ?_⟩
  unfold zW
  rw [hrow]
  dsimp only
  rw [hk]
  exact hw
theorem zE_8 {os : List (Nat × List Value × List zC × Nat)} (hrow : zr j pc = some (i, a, b)) (hk : zKe i a b = 8) (hp : zX i a pc st h u = some os) (hw : ∀ o ∈ os, zE zr zi d j o.1 lv o.2.1 o.2.2.1 o.2.2.2 K) : zE zr zi d j pc lv st h u K := by
  obtain ⟨f, hf⟩ := zBndL (Q := fun g (o : Nat × List Value × List zC × Nat) => zW zr zi g d j o.1 lv o.2.1 o.2.2.1 o.2.2.2 K) (fun g o q => zW_mono _ _ _ _ _ _ _ _ _ q) os hw
  refine ⟨f + 1, ?_⟩
  unfold zW
  simp only [hrow, hk, hp]
  exact hf
/-- behind a call: what its outcome goes on to -/
def zAf (zr : zRow) (zi : Nat → zI) (d j pc n : Nat) (lv : List (Nat × Value)) (rest : List Value) (K : zK) : zK := fun o h' u' => match o with
  | .inl v => zE zr zi d j (pc + n) lv (v.toList ++ rest) h' u' K
  | .inr E => match zCat zr zi j pc E lv with
    | some (some (pc', lv')) => zE zr zi d j pc' lv' [] h' u' K
    | some none => K (.inr E) h' u'
    | none => False
theorem zE_3 (hrow : zr j pc = some (i, a, b)) (hk : zKe i a b = 3) (h1 : zNp (zi a) ≤ st.length) (h2 : ((st.drop (zNp (zi a))).map (fun v => v.category)).sum ≤ 8) (h3 : (lg_sl (st.take (zNp (zi a))).reverse).length ≤ zMl (zi a)) (h4 : zMl (zi a) ≤ 40) (h5 : zRc b (st.take (zNp (zi a))).reverse h)
    (hw : zE zr zi d a 0 (lv_args 0 (st.take (zNp (zi a))).reverse) [] h u (zAf zr zi (d + 1) j pc (zLen i) lv (st.drop (zNp (zi a))) K)) : zE zr zi (d + 1) j pc lv st h u K := by
  obtain ⟨f, hw⟩ := hw
  have hw2 : zW zr zi f d a 0 (lv_args 0 (st.take (zNp (zi a))).reverse) [] h u (fun o h' u' => ∃ g, (fun (g : Nat) (o : zRes) (h' : List zC) (u' : Nat) => match o with
    | .inl v => zW zr zi g (d + 1) j (pc + zLen i) lv (v.toList ++ st.drop (zNp (zi a))) h' u' K
    | .inr E => match zCat zr zi j pc E lv with
      | some (some (pc', lv')) => zW zr zi g (d + 1) j pc' lv' [] h' u' K
      | some none => K (.inr E) h' u'
      | none => False) g o h' u') := by
    refine zW_K _ _ _ _ _ _ _ _ _ _ hw (fun o h' u' q => ?_)
    unfold zAf at q
    cases o with
    | inl v => exact q
    | inr E =>
      dsimp only at q ⊢
      cases hc : zCat zr zi j pc E lv with
      | none => rw [hc] at q; exact q.elim
      | some z =>
        rw [hc] at q
        cases z with
        | none => exact ⟨0, q⟩
        | some y => exact q
  obtain ⟨g, q⟩ := zW_unif _ _ _ _ _ _ _ _ _ (fun g o h' u' q => by
    cases o with
    | inl v => exact zW_mono _ _ _ _ _ _ _ _ _ q
    | inr E =>
      dsimp only at q ⊢
      cases hc : zCat zr zi j pc E lv with
      | none => rw [hc] at q; exact q.elim
      | some z =>
        rw [hc] at q
        cases z with
        | none => exact q
        | some y => exact zW_mono _ _ _ _ _ _ _ _ _ q) hw2
  refine ⟨(f + g) + 1, ?_⟩
  unfold zW
  rw [hrow]
  dsimp only
  rw [hk]
  refine ⟨h1, h2, h3, h4, h5, ?_⟩
  refine zW_K _ _ _ _ _ _ _ _ _ _ (zW_le (Nat.le_add_right f g) q) (fun o h' u' q => ?_)
  cases o with
  | inl v => exact zW_le (Nat.le_add_left g f) q
  | inr E =>
    dsimp only at q ⊢
    cases hc : zCat zr zi j pc E lv with
    | none => rw [hc] at q; exact q.elim
    | some z =>
      rw [hc] at q
      cases z with
      | none => exact q
      | some y => exact zW_le (Nat.le_add_left g f) q
end zEr
