/-! ===== steps of a partial run ===== -/
section zSt
variable {zr : zRow} {zi : Nat → zI} {n j pc : Nat} {lv : List (Nat × Value)} {st : List Value} {h : List zC} {u : Nat} {K : zK} {i : Instr} {a b : Nat}
theorem zSp0 {pc' : Nat} {lv' : List (Nat × Value)} {st' : List Value} (hrow : zr j pc = some (i, a, b)) (hk : zKe i a b = 0) (hp : zP (zMl (zi j)) i pc lv st = some (pc', lv', st')) (hw : zL zr zi n j pc' lv' st' h u K) : zL zr zi n j pc lv st h u K := by
  refine zLq hrow hk (fun pc2 lv2 st2 e => ?_)
  rw [hp] at e
  cases e
  exact hw
theorem zSiload {k m : Nat} {v : Value} (hrow : zr j pc = some (i, a, b)) (hk : zKe i a b = 0) (hp : zP (zMl (zi j)) i pc lv st = zLI pc lv st m k) (hv : zld lv k = some v) (hw : ∀ x, v = .int x → zL zr zi n j (pc + m) lv (.int x :: st) h u K) : zL zr zi n j pc lv st h u K := by
  refine zLq hrow hk (fun pc2 lv2 st2 e => ?_)
  rw [hp] at e
  unfold zLI at e
  rw [hv] at e
  split at e
  · rename_i x e2
    cases e2
    cases e
    exact hw _ rfl
  · cases e
theorem zSlload {k m : Nat} {v : Value} (hrow : zr j pc = some (i, a, b)) (hk : zKe i a b = 0) (hp : zP (zMl (zi j)) i pc lv st = zLL pc lv st m k) (hv : zld lv k = some v) (hw : ∀ x, v = .long x → zL zr zi n j (pc + m) lv (.long x :: st) h u K) : zL zr zi n j pc lv st h u K := by
  refine zLq hrow hk (fun pc2 lv2 st2 e => ?_)
  rw [hp] at e
  unfold zLL at e
  rw [hv] at e
  split at e
  · rename_i x e2
    cases e2
    cases e
    exact hw _ rfl
  · cases e
theorem zSaload {k m : Nat} {v : Value} (hrow : zr j pc = some (i, a, b)) (hk : zKe i a b = 0) (hp : zP (zMl (zi j)) i pc lv st = zLA pc lv st m k) (hv : zld lv k = some v) (hw : zL zr zi n j (pc + m) lv (v :: st) h u K) : zL zr zi n j pc lv st h u K := by
  refine zLq hrow hk (fun pc2 lv2 st2 e => ?_)
  rw [hp] at e
  unfold zLA at e
  rw [hv] at e
  split at e
  · rename_i x e2
    cases e2
    cases e
    exact hw
  · rename_i e2
    cases e2
    cases e
    exact hw
  · cases e
theorem zSistore {k m : Nat} {v : Value} {r : List Value} (hrow : zr j pc = some (i, a, b)) (hk : zKe i a b = 0) (hp : zP (zMl (zi j)) i pc lv (v :: r) = zSI pc lv (v :: r) (zMl (zi j)) m k) (hw : ∀ x, v = .int x → zL zr zi n j (pc + m) (zs1 lv k (.int x)) r h u K) : zL zr zi n j pc lv (v :: r) h u K := by
  refine zLq hrow hk (fun pc2 lv2 st2 e => ?_)
  rw [hp] at e
  unfold zSI at e
  split at e
  · rename_i x r2 e2
    cases e2
    split at e
    · cases e
      exact hw _ rfl
    · cases e
  · cases e
theorem zSlstore {k m : Nat} {v : Value} {r : List Value} (hrow : zr j pc = some (i, a, b)) (hk : zKe i a b = 0) (hp : zP (zMl (zi j)) i pc lv (v :: r) = zSL pc lv (v :: r) (zMl (zi j)) m k) (hw : ∀ x, v = .long x → zL zr zi n j (pc + m) (zs2 lv k (.long x)) r h u K) : zL zr zi n j pc lv (v :: r) h u K := by
  refine zLq hrow hk (fun pc2 lv2 st2 e => ?_)
  rw [hp] at e
  unfold zSL at e
  split at e
  · rename_i x r2 e2
    cases e2
    split at e
    · cases e
      exact hw _ rfl
    · cases e
  · cases e
theorem zSastore {k m : Nat} {v : Value} {r : List Value} (hrow : zr j pc = some (i, a, b)) (hk : zKe i a b = 0) (hp : zP (zMl (zi j)) i pc lv (v :: r) = zSA pc lv (v :: r) (zMl (zi j)) m k) (hw : zL zr zi n j (pc + m) (zs1 lv k v) r h u K) : zL zr zi n j pc lv (v :: r) h u K := by
  refine zLq hrow hk (fun pc2 lv2 st2 e => ?_)
  rw [hp] at e
  unfold zSA at e
  split at e
  · rename_i x r2 e2
    cases e2
    split at e
    · cases e
      exact hw
    · cases e
  · rename_i r2 e2
    cases e2
    split at e
    · cases e
      exact hw
    · cases e
  · cases e
theorem zSiinc {k : Nat} {c : Int} {v : Value} (hrow : zr j pc = some (.iinc k c, a, b)) (hk : zKe (.iinc k c) a b = 0) (hv : zld lv k = some v) (hw : ∀ x, v = .int x → zL zr zi n j (pc + 3) (zs1 lv k (.int (x + Int32.ofInt c))) st h u K) : zL zr zi n j pc lv st h u K := by
  refine zLq hrow hk (fun pc2 lv2 st2 e => ?_)
  have e : zinc pc lv st (zMl (zi j)) k c = some (pc2, lv2, st2) := e
  unfold zinc at e
  rw [hv] at e
  split at e
  · rename_i x e2
    cases e2
    split at e
    · cases e
      exact hw _ rfl
    · cases e
  · cases e
theorem zS1 {f : Int32 → Value} {v : Value} {r : List Value} (hrow : zr j pc = some (i, a, b)) (hk : zKe i a b = 0) (hp : zP (zMl (zi j)) i pc lv (v :: r) = z1 pc lv (v :: r) f) (hw : ∀ x, v = .int x → zL zr zi n j (pc + 1) lv (f x :: r) h u K) : zL zr zi n j pc lv (v :: r) h u K := by
  refine zLq hrow hk (fun pc2 lv2 st2 e => ?_)
  rw [hp] at e
  unfold z1 at e
  split at e
  · rename_i x r2 e2
    cases e2
    cases e
    exact hw _ rfl
  · cases e
theorem zS2 {f : Int32 → Int32 → Value} {v w : Value} {r : List Value} (hrow : zr j pc = some (i, a, b)) (hk : zKe i a b = 0) (hp : zP (zMl (zi j)) i pc lv (w :: v :: r) = z2 pc lv (w :: v :: r) f) (hw : ∀ x y, v = .int x → w = .int y → zL zr zi n j (pc + 1) lv (f x y :: r) h u K) : zL zr zi n j pc lv (w :: v :: r) h u K := by
  refine zLq hrow hk (fun pc2 lv2 st2 e => ?_)
  rw [hp] at e
  unfold z2 at e
  split at e
  · rename_i y x r2 e2
    cases e2
    cases e
    exact hw _ _ rfl rfl
  · cases e
theorem zSl1 {f : Int64 → Value} {v : Value} {r : List Value} (hrow : zr j pc = some (i, a, b)) (hk : zKe i a b = 0) (hp : zP (zMl (zi j)) i pc lv (v :: r) = zl1 pc lv (v :: r) f) (hw : ∀ x, v = .long x → zL zr zi n j (pc + 1) lv (f x :: r) h u K) : zL zr zi n j pc lv (v :: r) h u K := by
  refine zLq hrow hk (fun pc2 lv2 st2 e => ?_)
  rw [hp] at e
  unfold zl1 at e
  split at e
  · rename_i x r2 e2
    cases e2
    cases e
    exact hw _ rfl
  · cases e
theorem zSl2 {f : Int64 → Int64 → Value} {v w : Value} {r : List Value} (hrow : zr j pc = some (i, a, b)) (hk : zKe i a b = 0) (hp : zP (zMl (zi j)) i pc lv (w :: v :: r) = zl2 pc lv (w :: v :: r) f) (hw : ∀ x y, v = .long x → w = .long y → zL zr zi n j (pc + 1) lv (f x y :: r) h u K) : zL zr zi n j pc lv (w :: v :: r) h u K := by
  refine zLq hrow hk (fun pc2 lv2 st2 e => ?_)
  rw [hp] at e
  unfold zl2 at e
  split at e
  · rename_i y x r2 e2
    cases e2
    cases e
    exact hw _ _ rfl rfl
  · cases e
theorem zSdiv {v w : Value} {r : List Value} (hrow : zr j pc = some (.idiv, a, b)) (hk : zKe .idiv a b = 0) (hw : ∀ x y, v = .int x → w = .int y → ¬ y = 0 → zL zr zi n j (pc + 1) lv (.int (x / y) :: r) h u K) : zL zr zi n j pc lv (w :: v :: r) h u K := by
  refine zLq hrow hk (fun pc2 lv2 st2 e => ?_)
  unfold zP at e
  dsimp only at e
  split at e
  · rename_i y r2 e2
    cases e2
    split at e
    · cases e
    · rename_i hy
      unfold z2 at e
      split at e
      · rename_i y2 x r3 e3
        cases e3
        cases e
        exact hw _ _ rfl rfl hy
      · cases e
  · cases e
theorem zSrem {v w : Value} {r : List Value} (hrow : zr j pc = some (.irem, a, b)) (hk : zKe .irem a b = 0) (hw : ∀ x y, v = .int x → w = .int y → ¬ y = 0 → zL zr zi n j (pc + 1) lv (.int (x - x / y * y) :: r) h u K) : zL zr zi n j pc lv (w :: v :: r) h u K := by
  refine zLq hrow hk (fun pc2 lv2 st2 e => ?_)
  unfold zP at e
  dsimp only at e
  split at e
  · rename_i y r2 e2
    cases e2
    split at e
    · cases e
    · rename_i hy
      unfold z2 at e
      split at e
      · rename_i y2 x r3 e3
        cases e3
        cases e
        exact hw _ _ rfl rfl hy
      · cases e
  · cases e
theorem zSb1 {f : Int32 → Bool} {off : Int} {t : Nat} {v : Value} {r : List Value} (hrow : zr j pc = some (i, a, b)) (hk : zKe i a b = 0) (hp : zP (zMl (zi j)) i pc lv (v :: r) = zb1 pc lv (v :: r) f off) (ht : ((pc : Int) + off).toNat = t)
    (hy : ∀ x, v = .int x → f x = true → zL zr zi n j t lv r h u K) (hn : ∀ x, v = .int x → ¬ f x = true → zL zr zi n j (pc + 3) lv r h u K) : zL zr zi n j pc lv (v :: r) h u K := by
  refine zLq hrow hk (fun pc2 lv2 st2 e => ?_)
  rw [hp] at e
  unfold zb1 at e
  split at e
  · rename_i x r2 e2
    cases e2
    split at e
    · cases e
      split
      · rename_i q
        rw [ht]
        exact hy _ rfl q
      · rename_i q
        exact hn _ rfl q
    · cases e
  · cases e
theorem zSb2 {f : Int32 → Int32 → Bool} {off : Int} {t : Nat} {v w : Value} {r : List Value} (hrow : zr j pc = some (i, a, b)) (hk : zKe i a b = 0) (hp : zP (zMl (zi j)) i pc lv (w :: v :: r) = zb2 pc lv (w :: v :: r) f off) (ht : ((pc : Int) + off).toNat = t)
    (hy : ∀ x y, v = .int x → w = .int y → f x y = true → zL zr zi n j t lv r h u K) (hn : ∀ x y, v = .int x → w = .int y → ¬ f x y = true → zL zr zi n j (pc + 3) lv r h u K) : zL zr zi n j pc lv (w :: v :: r) h u K := by
  refine zLq hrow hk (fun pc2 lv2 st2 e => ?_)
  rw [hp] at e
  unfold zb2 at e
  split at e
  · rename_i y x r2 e2
    cases e2
    split at e
    · cases e
      split
      · rename_i q
        rw [ht]
        exact hy _ _ rfl rfl q
      · rename_i q
        exact hn _ _ rfl rfl q
    · cases e
  · cases e
theorem zSgo {off : Int} {t : Nat} (hrow : zr j pc = some (.goto off, a, b)) (hk : zKe (.goto off) a b = 0) (ht : ((pc : Int) + off).toNat = t) (hw : zL zr zi n j t lv st h u K) : zL zr zi n j pc lv st h u K := by
  refine zLq hrow hk (fun pc2 lv2 st2 e => ?_)
  have e : zgo pc lv st off = some (pc2, lv2, st2) := e
  unfold zgo at e
  split at e
  · cases e
    rw [ht]
    exact hw
  · cases e
theorem zSdup {v : Value} {r : List Value} (hrow : zr j pc = some (.dup, a, b)) (hk : zKe .dup a b = 0) (hw : zL zr zi n j (pc + 1) lv (v :: v :: r) h u K) : zL zr zi n j pc lv (v :: r) h u K := by
  refine zLq hrow hk (fun pc2 lv2 st2 e => ?_)
  have e : zdup pc lv (v :: r) = some (pc2, lv2, st2) := e
  unfold zdup at e
  dsimp only at e
  split at e
  · cases e
    exact hw
  · cases e
theorem zSpop {v : Value} {r : List Value} (hrow : zr j pc = some (.pop, a, b)) (hk : zKe .pop a b = 0) (hw : zL zr zi n j (pc + 1) lv r h u K) : zL zr zi n j pc lv (v :: r) h u K := by
  refine zLq hrow hk (fun pc2 lv2 st2 e => ?_)
  have e : zpop pc lv (v :: r) = some (pc2, lv2, st2) := e
  unfold zpop at e
  dsimp only at e
  split at e
  · cases e
    exact hw
  · cases e
theorem zScst (hrow : zr j pc = some (i, a, b)) (hk : zKe i a b = 7) (hw : zL zr zi n j (pc + zLen i) lv (zCo i a b :: st) h u K) : zL zr zi n j pc lv st h u K := by
  cases n with
  | zero => trivial
  | succ n =>
    unfold zL
    simp only [hrow, hk]
    exact zL_anti _ _ _ _ _ _ _ _ hw
theorem zSthrow (hrow : zr j pc = some (i, a, b)) (hk : zKe i a b = 5) (hw : ∀ x y : Nat, K (.inr (a - 1000)) (h ++ List.replicate x (98, [])) (u + y)) : zL zr zi n j pc lv st h u K := by
  cases n with
  | zero => trivial
  | succ n =>
    unfold zL
    simp only [hrow, hk]
    exact fun x y _ _ => hw x y
theorem zSobj {v : Value} {r : List Value} (hrow : zr j pc = some (i, a, b)) (hk : zKe i a b = 6) (hw : zL zr zi n j (pc + 3) lv r h u K) : zL zr zi n j pc lv (v :: r) h u K := by
  cases n with
  | zero => trivial
  | succ n =>
    unfold zL
    simp only [hrow, hk]
    split
    · rename_i e
      cases e
      exact zL_anti _ _ _ _ _ _ _ _ hw
    · trivial
theorem zSvoid (hrow : zr j pc = some (.return_, a, b)) (hk : zKe .return_ a b = 4) (hw : K (.inl none) h u) : zL zr zi n j pc lv [] h u K := by
  refine zLret hrow hk (fun w e => ?_)
  unfold zRt at e
  dsimp only at e
  split at e
  · cases e
    exact hw
  · cases e
theorem zSaret {v : Value} (hrow : zr j pc = some (.areturn, a, b)) (hk : zKe .areturn a b = 4) (hw : K (.inl (some v)) h u) : zL zr zi n j pc lv [v] h u K := by
  refine zLret hrow hk (fun w e => ?_)
  unfold zRt at e
  dsimp only at e
  split at e
  all_goals first
    | (rename_i e2 e3
       cases e2
       cases e
       exact hw)
    | cases e
/-- a call to a method of which all is known by its contract (at any fuel) -/
theorem zScall {S : zK} {L2 : List (Nat × Value)} {r : List Value} (hrow : zr j pc = some (i, a, b)) (hk : zKe i a b = 3) (hL : lv_args 0 (st.take (zNp (zi a))).reverse = L2) (hr : st.drop (zNp (zi a)) = r)
    (hc : ∀ m, m ≤ n → zL zr zi m a 0 L2 [] h u S)
    (hw : ∀ v h' u', S (.inl v) h' u' → zL zr zi n j (pc + zLen i) lv (v.toList ++ r) h' u' K)
    (he : ∀ E h' u', S (.inr E) h' u' → match zCat zr zi j pc E lv with
      | some (some (pc', lv')) => zL zr zi n j pc' lv' [] h' u' K
      | some none => K (.inr E) h' u'
      | none => True) : zL zr zi n j pc lv st h u K := by
  cases n with
  | zero => trivial
  | succ n =>
    refine zLcall hrow hk (fun m hm => by rw [hL]; exact hc m (by omega)) (fun v h' u' q => ?_) (fun E h' u' q => ?_)
    · rw [hr]
      exact zL_anti _ _ _ _ _ _ _ _ (hw v h' u' q)
    · have e := he E h' u' q
      split
      · rename_i hz
        simp only [hz] at e
        exact zL_anti _ _ _ _ _ _ _ _ e
      · rename_i hz
        simp only [hz] at e
        exact e
      · trivial
/-- fuel that is less -/
theorem zL_le {m : Nat} (hm : m ≤ n) (hw : zL zr zi n j pc lv st h u K) : zL zr zi m j pc lv st h u K := by
  obtain ⟨k, rfl⟩ := Nat.exists_eq_add_of_le hm
  clear hm
  induction k with
  | zero => exact hw
  | succ k ih => exact ih (zL_anti _ _ _ _ _ _ _ _ hw)
theorem zLaald {v w : Value} {r : List Value} (hrow : zr j pc = some (.aaload, a, b)) (hk : zKe .aaload a b = 1) (hw : ∀ q x y, v = .ref q → w = .int x → ¬ x < 0 → (∃ t, gT h q = some t ∧ (decide (104 ≤ t) && (zTy t).isReference) = true) → gF h q x.toNatClampNeg = some y → zL zr zi n j (pc + 1) lv (y :: r) h u K) : zL zr zi n j pc lv (w :: v :: r) h u K :=
  zLlda (ok := fun k => decide (104 ≤ k) && (zTy k).isReference) hrow hk rfl hw
theorem zLiald {v w : Value} {r : List Value} (hrow : zr j pc = some (.iaload, a, b)) (hk : zKe .iaload a b = 1) (hw : ∀ q x y, v = .ref q → w = .int x → ¬ x < 0 → (∃ t, gT h q = some t ∧ (t == 100 || t == 96) = true) → gF h q x.toNatClampNeg = some y → zL zr zi n j (pc + 1) lv (y :: r) h u K) : zL zr zi n j pc lv (w :: v :: r) h u K :=
  zLlda (ok := fun k => k == 100 || k == 96) hrow hk rfl hw
theorem zLbald {v w : Value} {r : List Value} (hrow : zr j pc = some (.baload, a, b)) (hk : zKe .baload a b = 1) (hw : ∀ q x y, v = .ref q → w = .int x → ¬ x < 0 → (∃ t, gT h q = some t ∧ (t == 101 || t == 102 || t == 95) = true) → gF h q x.toNatClampNeg = some y → zL zr zi n j (pc + 1) lv (y :: r) h u K) : zL zr zi n j pc lv (w :: v :: r) h u K :=
  zLlda (ok := fun k => k == 101 || k == 102 || k == 95) hrow hk rfl hw
end zSt
