/-! ===== the small machine: each such instruction is the machine's ===== -/
theorem zld_ix {τ : Nat → Nat} {lv : List (Nat × Value)} {i : Nat} {v : Value} (h : zld lv i = some v) : ∃ j : Nat, (zlm τ lv)[j]? = some (i, zt τ v) :=
  List.getElem?_of_mem (List.mem_map.mpr ⟨(i, v), zld_mem h, rfl⟩)
section zGo
variable {Ω : JFrame → Prop} {m : MethodId} {τ : Nat → Nat} {pc pc' nL : Nat} {lv lv' : List (Nat × Value)} {st st' : List Value} {ls : Array Slot}
theorem z1_go {f : Int32 → Value} (row : ∀ x rest, Ω (F0 m (pc + 1) ls (f x :: rest)) → Ω (F0 m pc ls (.int x :: rest))) (hz : ∀ x, zt τ (f x) = f x) (h : z1 pc lv st f = some (pc', lv', st')) (hl : lv_has ls nL (zlm τ lv))
    (k : ∀ ls', lv_has ls' nL (zlm τ lv') → Ω (F0 m pc' ls' (st'.map (zt τ)))) : Ω (F0 m pc ls (st.map (zt τ))) := by
  unfold z1 at h
  split at h
  · cases h
    refine row _ _ ?_
    have q := k ls hl
    rw [List.map_cons, hz] at q
    exact q
  · cases h
theorem z2_go {f : Int32 → Int32 → Value} (row : ∀ x y rest, Ω (F0 m (pc + 1) ls (f x y :: rest)) → Ω (F0 m pc ls (.int y :: .int x :: rest))) (hz : ∀ x y, zt τ (f x y) = f x y) (h : z2 pc lv st f = some (pc', lv', st')) (hl : lv_has ls nL (zlm τ lv))
    (k : ∀ ls', lv_has ls' nL (zlm τ lv') → Ω (F0 m pc' ls' (st'.map (zt τ)))) : Ω (F0 m pc ls (st.map (zt τ))) := by
  unfold z2 at h
  split at h
  · cases h
    refine row _ _ _ ?_
    have q := k ls hl
    rw [List.map_cons, hz] at q
    exact q
  · cases h
theorem zl1_go {f : Int64 → Value} (row : ∀ x rest, Ω (F0 m (pc + 1) ls (f x :: rest)) → Ω (F0 m pc ls (.long x :: rest))) (hz : ∀ x, zt τ (f x) = f x) (h : zl1 pc lv st f = some (pc', lv', st')) (hl : lv_has ls nL (zlm τ lv))
    (k : ∀ ls', lv_has ls' nL (zlm τ lv') → Ω (F0 m pc' ls' (st'.map (zt τ)))) : Ω (F0 m pc ls (st.map (zt τ))) := by
  unfold zl1 at h
  split at h
  · cases h
    refine row _ _ ?_
    have q := k ls hl
    rw [List.map_cons, hz] at q
    exact q
  · cases h
theorem zl2_go {f : Int64 → Int64 → Value} (row : ∀ x y rest, Ω (F0 m (pc + 1) ls (f x y :: rest)) → Ω (F0 m pc ls (.long y :: .long x :: rest))) (hz : ∀ x y, zt τ (f x y) = f x y) (h : zl2 pc lv st f = some (pc', lv', st')) (hl : lv_has ls nL (zlm τ lv))
    (k : ∀ ls', lv_has ls' nL (zlm τ lv') → Ω (F0 m pc' ls' (st'.map (zt τ)))) : Ω (F0 m pc ls (st.map (zt τ))) := by
  unfold zl2 at h
  split at h
  · cases h
    refine row _ _ _ ?_
    have q := k ls hl
    rw [List.map_cons, hz] at q
    exact q
  · cases h
theorem zd1_go {f : UInt64 → Value} (row : ∀ x rest, Ω (F0 m (pc + 1) ls (f x :: rest)) → Ω (F0 m pc ls (.double x :: rest))) (hz : ∀ x, zt τ (f x) = f x) (h : zd1 pc lv st f = some (pc', lv', st')) (hl : lv_has ls nL (zlm τ lv))
    (k : ∀ ls', lv_has ls' nL (zlm τ lv') → Ω (F0 m pc' ls' (st'.map (zt τ)))) : Ω (F0 m pc ls (st.map (zt τ))) := by
  unfold zd1 at h
  split at h
  · cases h
    refine row _ _ ?_
    have q := k ls hl
    rw [List.map_cons, hz] at q
    exact q
  · cases h
theorem zd2_go {f : UInt64 → UInt64 → Value} (row : ∀ x y rest, Ω (F0 m (pc + 1) ls (f x y :: rest)) → Ω (F0 m pc ls (.double y :: .double x :: rest))) (hz : ∀ x y, zt τ (f x y) = f x y) (h : zd2 pc lv st f = some (pc', lv', st')) (hl : lv_has ls nL (zlm τ lv))
    (k : ∀ ls', lv_has ls' nL (zlm τ lv') → Ω (F0 m pc' ls' (st'.map (zt τ)))) : Ω (F0 m pc ls (st.map (zt τ))) := by
  unfold zd2 at h
  split at h
  · cases h
    refine row _ _ _ ?_
    have q := k ls hl
    rw [List.map_cons, hz] at q
    exact q
  · cases h
theorem zb1_go {f : Int32 → Bool} {off : Int} (row : ∀ x rest (tgt : Nat), (pc : Int) + off = (tgt : Int) → (f x = true → Ω (F0 m tgt ls rest)) → (¬ f x = true → Ω (F0 m (pc + 3) ls rest)) → Ω (F0 m pc ls (.int x :: rest))) (h : zb1 pc lv st f off = some (pc', lv', st')) (hl : lv_has ls nL (zlm τ lv))
    (k : ∀ ls', lv_has ls' nL (zlm τ lv') → Ω (F0 m pc' ls' (st'.map (zt τ)))) : Ω (F0 m pc ls (st.map (zt τ))) := by
  unfold zb1 at h
  split at h
  · split at h
    · rename_i h0
      cases h
      refine row _ _ _ (Int.toNat_of_nonneg h0).symm (fun q => ?_) (fun q => ?_)
      · have z := k ls hl
        rw [if_pos q] at z
        exact z
      · have z := k ls hl
        rw [if_neg q] at z
        exact z
    · cases h
  · cases h
theorem zb2_go {f : Int32 → Int32 → Bool} {off : Int} (row : ∀ x y rest (tgt : Nat), (pc : Int) + off = (tgt : Int) → (f x y = true → Ω (F0 m tgt ls rest)) → (¬ f x y = true → Ω (F0 m (pc + 3) ls rest)) → Ω (F0 m pc ls (.int y :: .int x :: rest))) (h : zb2 pc lv st f off = some (pc', lv', st')) (hl : lv_has ls nL (zlm τ lv))
    (k : ∀ ls', lv_has ls' nL (zlm τ lv') → Ω (F0 m pc' ls' (st'.map (zt τ)))) : Ω (F0 m pc ls (st.map (zt τ))) := by
  unfold zb2 at h
  split at h
  · split at h
    · rename_i h0
      cases h
      refine row _ _ _ _ (Int.toNat_of_nonneg h0).symm (fun q => ?_) (fun q => ?_)
      · have z := k ls hl
        rw [if_pos q] at z
        exact z
      · have z := k ls hl
        rw [if_neg q] at z
        exact z
    · cases h
  · cases h
theorem zgo_go {off : Int} (row : ∀ rest (tgt : Nat), (pc : Int) + off = (tgt : Int) → Ω (F0 m tgt ls rest) → Ω (F0 m pc ls rest)) (h : zgo pc lv st off = some (pc', lv', st')) (hl : lv_has ls nL (zlm τ lv))
    (k : ∀ ls', lv_has ls' nL (zlm τ lv') → Ω (F0 m pc' ls' (st'.map (zt τ)))) : Ω (F0 m pc ls (st.map (zt τ))) := by
  unfold zgo at h
  split at h
  · rename_i h0
    cases h
    exact row _ _ (Int.toNat_of_nonneg h0).symm (k ls hl)
  · cases h
theorem zsw_go {d lo hi : Int} {offs : Array Int} (out : ∀ (x : Int32) rest (tgt : Nat), (x.toInt < lo ∨ hi < x.toInt) → (pc : Int) + d = (tgt : Int) → Ω (F0 m tgt ls rest) → Ω (F0 m pc ls (.int x :: rest)))
    (inn : ∀ (x : Int32) rest (off : Int) (tgt : Nat), ¬ x.toInt < lo → ¬ hi < x.toInt → offs[(x.toInt - lo).toNat]? = some off → (pc : Int) + off = (tgt : Int) → Ω (F0 m tgt ls rest) → Ω (F0 m pc ls (.int x :: rest))) (h : zsw pc lv st d lo hi offs = some (pc', lv', st')) (hl : lv_has ls nL (zlm τ lv))
    (k : ∀ ls', lv_has ls' nL (zlm τ lv') → Ω (F0 m pc' ls' (st'.map (zt τ)))) : Ω (F0 m pc ls (st.map (zt τ))) := by
  unfold zsw at h
  split at h
  · rename_i x r
    split at h
    · rename_i hc
      unfold zgo at h
      split at h
      · rename_i h0
        cases h
        exact out _ _ _ hc (Int.toNat_of_nonneg h0).symm (k ls hl)
      · cases h
    · rename_i hc
      split at h
      · rename_i off ho
        unfold zgo at h
        split at h
        · rename_i h0
          cases h
          exact inn _ _ _ _ (fun q => hc (Or.inl q)) (fun q => hc (Or.inr q)) ho (Int.toNat_of_nonneg h0).symm (k ls hl)
        · cases h
      · cases h
  · cases h
theorem zLI_go {n i : Nat} (row : ∀ x rest, ls[i]? = some (.val (.int x)) → Ω (F0 m (pc + n) ls (.int x :: rest)) → Ω (F0 m pc ls rest)) (h : zLI pc lv st n i = some (pc', lv', st')) (hl : lv_has ls nL (zlm τ lv))
    (k : ∀ ls', lv_has ls' nL (zlm τ lv') → Ω (F0 m pc' ls' (st'.map (zt τ)))) : Ω (F0 m pc ls (st.map (zt τ))) := by
  unfold zLI at h
  split at h
  · rename_i e
    cases h
    exact row _ _ (zld_at hl e) (k ls hl)
  · cases h
theorem zLL_go {n i : Nat} (row : ∀ x rest, ls[i]? = some (.val (.long x)) → Ω (F0 m (pc + n) ls (.long x :: rest)) → Ω (F0 m pc ls rest)) (h : zLL pc lv st n i = some (pc', lv', st')) (hl : lv_has ls nL (zlm τ lv))
    (k : ∀ ls', lv_has ls' nL (zlm τ lv') → Ω (F0 m pc' ls' (st'.map (zt τ)))) : Ω (F0 m pc ls (st.map (zt τ))) := by
  unfold zLL at h
  split at h
  · rename_i e
    cases h
    exact row _ _ (zld_at hl e) (k ls hl)
  · cases h
theorem zLD_go {n i : Nat} (row : ∀ x rest, ls[i]? = some (.val (.double x)) → Ω (F0 m (pc + n) ls (.double x :: rest)) → Ω (F0 m pc ls rest)) (h : zLD pc lv st n i = some (pc', lv', st')) (hl : lv_has ls nL (zlm τ lv))
    (k : ∀ ls', lv_has ls' nL (zlm τ lv') → Ω (F0 m pc' ls' (st'.map (zt τ)))) : Ω (F0 m pc ls (st.map (zt τ))) := by
  unfold zLD at h
  split at h
  · rename_i e
    cases h
    exact row _ _ (zld_at hl e) (k ls hl)
  · cases h
theorem zLA_go {n i : Nat} (row : ∀ x rest, ls[i]? = some (.val (.ref x)) → Ω (F0 m (pc + n) ls (.ref x :: rest)) → Ω (F0 m pc ls rest)) (rowN : ∀ rest, ls[i]? = some (.val .null) → Ω (F0 m (pc + n) ls (.null :: rest)) → Ω (F0 m pc ls rest)) (h : zLA pc lv st n i = some (pc', lv', st')) (hl : lv_has ls nL (zlm τ lv))
    (k : ∀ ls', lv_has ls' nL (zlm τ lv') → Ω (F0 m pc' ls' (st'.map (zt τ)))) : Ω (F0 m pc ls (st.map (zt τ))) := by
  unfold zLA at h
  split at h
  · rename_i e
    cases h
    exact row _ _ (zld_at hl e) (k ls hl)
  · rename_i e
    cases h
    exact rowN _ (zld_at hl e) (k ls hl)
  · cases h
theorem zSI_go {n i : Nat} (row : ∀ x rest (l1 l2 : List (Nat × Value)), lv_has ls nL l1 → i < nL → (i, Value.int x) :: l1.filter (fun q => !(q.1 == i) && !(q.1 + 1 == i && q.2.category == 2)) = l2 → (∀ ls' : Array Slot, lv_has ls' nL l2 → Ω (F0 m (pc + n) ls' rest)) → Ω (F0 m pc ls (.int x :: rest))) (h : zSI pc lv st nL n i = some (pc', lv', st')) (hl : lv_has ls nL (zlm τ lv))
    (k : ∀ ls', lv_has ls' nL (zlm τ lv') → Ω (F0 m pc' ls' (st'.map (zt τ)))) : Ω (F0 m pc ls (st.map (zt τ))) := by
  unfold zSI at h
  split at h
  · split at h
    · rename_i hi
      cases h
      exact row _ _ _ _ hl hi (zs1_eq τ lv i (.int _)) k
    · cases h
  · cases h
theorem zSL_go {n i : Nat} (row : ∀ x rest (l1 l2 : List (Nat × Value)), lv_has ls nL l1 → i + 1 < nL → (i, Value.long x) :: l1.filter (fun q => !(q.1 == i) && (!(q.1 == i + 1) && !(q.1 + 1 == i && q.2.category == 2))) = l2 → (∀ ls' : Array Slot, lv_has ls' nL l2 → Ω (F0 m (pc + n) ls' rest)) → Ω (F0 m pc ls (.long x :: rest))) (h : zSL pc lv st nL n i = some (pc', lv', st')) (hl : lv_has ls nL (zlm τ lv))
    (k : ∀ ls', lv_has ls' nL (zlm τ lv') → Ω (F0 m pc' ls' (st'.map (zt τ)))) : Ω (F0 m pc ls (st.map (zt τ))) := by
  unfold zSL at h
  split at h
  · split at h
    · rename_i hi
      cases h
      exact row _ _ _ _ hl hi (zs2_eq τ lv i (.long _)) k
    · cases h
  · cases h
theorem zSD_go {n i : Nat} (row : ∀ x rest (l1 l2 : List (Nat × Value)), lv_has ls nL l1 → i + 1 < nL → (i, Value.double x) :: l1.filter (fun q => !(q.1 == i) && (!(q.1 == i + 1) && !(q.1 + 1 == i && q.2.category == 2))) = l2 → (∀ ls' : Array Slot, lv_has ls' nL l2 → Ω (F0 m (pc + n) ls' rest)) → Ω (F0 m pc ls (.double x :: rest))) (h : zSD pc lv st nL n i = some (pc', lv', st')) (hl : lv_has ls nL (zlm τ lv))
    (k : ∀ ls', lv_has ls' nL (zlm τ lv') → Ω (F0 m pc' ls' (st'.map (zt τ)))) : Ω (F0 m pc ls (st.map (zt τ))) := by
  unfold zSD at h
  split at h
  · split at h
    · rename_i hi
      cases h
      exact row _ _ _ _ hl hi (zs2_eq τ lv i (.double _)) k
    · cases h
  · cases h
theorem zSA_go {n i : Nat} (row : ∀ x rest (l1 l2 : List (Nat × Value)), lv_has ls nL l1 → i < nL → (i, Value.ref x) :: l1.filter (fun q => !(q.1 == i) && !(q.1 + 1 == i && q.2.category == 2)) = l2 → (∀ ls' : Array Slot, lv_has ls' nL l2 → Ω (F0 m (pc + n) ls' rest)) → Ω (F0 m pc ls (.ref x :: rest)))
    (rowN : ∀ rest (l1 l2 : List (Nat × Value)), lv_has ls nL l1 → i < nL → (i, Value.null) :: l1.filter (fun q => !(q.1 == i) && !(q.1 + 1 == i && q.2.category == 2)) = l2 → (∀ ls' : Array Slot, lv_has ls' nL l2 → Ω (F0 m (pc + n) ls' rest)) → Ω (F0 m pc ls (.null :: rest))) (h : zSA pc lv st nL n i = some (pc', lv', st')) (hl : lv_has ls nL (zlm τ lv))
    (k : ∀ ls', lv_has ls' nL (zlm τ lv') → Ω (F0 m pc' ls' (st'.map (zt τ)))) : Ω (F0 m pc ls (st.map (zt τ))) := by
  unfold zSA at h
  split at h
  · split at h
    · rename_i hi
      cases h
      exact row _ _ _ _ hl hi (zs1_eq τ lv i (.ref _)) k
    · cases h
  · split at h
    · rename_i hi
      cases h
      exact rowN _ _ _ hl hi (zs1_eq τ lv i .null) k
    · cases h
  · cases h
theorem zinc_go {i : Nat} {n : Int} (row : ∀ x rest (l1 l2 : List (Nat × Value)), ls[i]? = some (.val (.int x)) → lv_has ls nL l1 → i < nL → (i, Value.int (x + Int32.ofInt n)) :: l1.filter (fun q => !(q.1 == i) && !(q.1 + 1 == i && q.2.category == 2)) = l2 → (∀ ls' : Array Slot, lv_has ls' nL l2 → Ω (F0 m (pc + 3) ls' rest)) → Ω (F0 m pc ls rest)) (h : zinc pc lv st nL i n = some (pc', lv', st')) (hl : lv_has ls nL (zlm τ lv))
    (k : ∀ ls', lv_has ls' nL (zlm τ lv') → Ω (F0 m pc' ls' (st'.map (zt τ)))) : Ω (F0 m pc ls (st.map (zt τ))) := by
  unfold zinc at h
  split at h
  · rename_i e
    split at h
    · rename_i hi
      cases h
      exact row _ _ _ _ (zld_at hl e) hl hi (zs1_eq τ lv i (.int _)) k
    · cases h
  · cases h
theorem zdup_go (row : ∀ v rest, v.category = 1 → Ω (F0 m (pc + 1) ls (v :: v :: rest)) → Ω (F0 m pc ls (v :: rest))) (h : zdup pc lv st = some (pc', lv', st')) (hl : lv_has ls nL (zlm τ lv))
    (k : ∀ ls', lv_has ls' nL (zlm τ lv') → Ω (F0 m pc' ls' (st'.map (zt τ)))) : Ω (F0 m pc ls (st.map (zt τ))) := by
  unfold zdup at h
  split at h
  · split at h
    · rename_i hc
      cases h
      exact row _ _ ((zt_cat τ _).trans hc) (k ls hl)
    · cases h
  · cases h
theorem zpop_go (row : ∀ v rest, v.category = 1 → Ω (F0 m (pc + 1) ls rest) → Ω (F0 m pc ls (v :: rest))) (h : zpop pc lv st = some (pc', lv', st')) (hl : lv_has ls nL (zlm τ lv))
    (k : ∀ ls', lv_has ls' nL (zlm τ lv') → Ω (F0 m pc' ls' (st'.map (zt τ)))) : Ω (F0 m pc ls (st.map (zt τ))) := by
  unfold zpop at h
  split at h
  · split at h
    · rename_i hc
      cases h
      exact row _ _ ((zt_cat τ _).trans hc) (k ls hl)
    · cases h
  · cases h
theorem zdupx1_go (row : ∀ v w rest, v.category = 1 → w.category = 1 → Ω (F0 m (pc + 1) ls (v :: w :: v :: rest)) → Ω (F0 m pc ls (v :: w :: rest))) (h : zdupx1 pc lv st = some (pc', lv', st')) (hl : lv_has ls nL (zlm τ lv))
    (k : ∀ ls', lv_has ls' nL (zlm τ lv') → Ω (F0 m pc' ls' (st'.map (zt τ)))) : Ω (F0 m pc ls (st.map (zt τ))) := by
  unfold zdupx1 at h
  split at h
  · split at h
    · rename_i hc
      cases h
      exact row _ _ _ ((zt_cat τ _).trans hc.1) ((zt_cat τ _).trans hc.2) (k ls hl)
    · cases h
  · cases h
theorem zdup2_go (row2 : ∀ v rest, v.category = 2 → Ω (F0 m (pc + 1) ls (v :: v :: rest)) → Ω (F0 m pc ls (v :: rest))) (row1 : ∀ v w rest, v.category = 1 → w.category = 1 → Ω (F0 m (pc + 1) ls (v :: w :: v :: w :: rest)) → Ω (F0 m pc ls (v :: w :: rest))) (h : zdup2 pc lv st = some (pc', lv', st')) (hl : lv_has ls nL (zlm τ lv))
    (k : ∀ ls', lv_has ls' nL (zlm τ lv') → Ω (F0 m pc' ls' (st'.map (zt τ)))) : Ω (F0 m pc ls (st.map (zt τ))) := by
  unfold zdup2 at h
  split at h
  · split at h
    · rename_i hc
      cases h
      exact row2 _ _ ((zt_cat τ _).trans hc) (k ls hl)
    · split at h
      · split at h
        · rename_i hc
          cases h
          exact row1 _ _ _ ((zt_cat τ _).trans hc.1) ((zt_cat τ _).trans hc.2) (k ls hl)
        · cases h
      · cases h
  · cases h
theorem zpop2_go (row2 : ∀ v rest, v.category = 2 → Ω (F0 m (pc + 1) ls rest) → Ω (F0 m pc ls (v :: rest))) (row1 : ∀ v w rest, v.category = 1 → w.category = 1 → Ω (F0 m (pc + 1) ls rest) → Ω (F0 m pc ls (v :: w :: rest))) (h : zpop2 pc lv st = some (pc', lv', st')) (hl : lv_has ls nL (zlm τ lv))
    (k : ∀ ls', lv_has ls' nL (zlm τ lv') → Ω (F0 m pc' ls' (st'.map (zt τ)))) : Ω (F0 m pc ls (st.map (zt τ))) := by
  unfold zpop2 at h
  split at h
  · split at h
    · rename_i hc
      cases h
      exact row2 _ _ ((zt_cat τ _).trans hc) (k ls hl)
    · split at h
      · split at h
        · rename_i hc
          cases h
          exact row1 _ _ _ ((zt_cat τ _).trans hc.1) ((zt_cat τ _).trans hc.2) (k ls hl)
        · cases h
      · cases h
  · cases h
end zGo
section zOk
variable {p : Program} {l : Launch} {e : Env} {R : Room} {s : State} {m : MethodId} {args : Array Value} {below : List Frame} {meth : Method} {c : Code} {H : Heap} {locs : List Loc} {cells slots : Nat} {Q : State → Prop}
variable {cc : ByteArray} {τ : Nat → Nat} {pc pc' nL : Nat} {lv lv' : List (Nat × Value)} {st st' : List Value} {ls : Array Slot}
set_option maxHeartbeats 4000000 in
theorem zP_ok {i : Instr} {n : Nat} (hx : p.tables.exec = Jvm.exec) (hb : c.code = cc) (hdg : decode cc pc = .ok (i, n)) (hn : zLen i = 0 ∨ n = zLen i) (hl : lv_has ls nL (zlm τ lv)) (h : zP nL i pc lv st = some (pc', lv', st'))
    (k : ∀ ls', lv_has ls' nL (zlm τ lv') → W p l e R s m args below meth c H locs cells slots Q (F0 m pc' ls' (st'.map (zt τ)))) : W p l e R s m args below meth c H locs cells slots Q (F0 m pc ls (st.map (zt τ))) := by
  have hd : zLen i ≠ 0 → decode cc pc = .ok (i, zLen i) := fun q => by
    rcases hn with hn | hn
    · exact absurd hn q
    · rw [← hn]; exact hdg
  unfold zP at h
  split at h
  · cases h
    exact lv_iconst hx hb (hd (by simp [zLen])) rfl (k ls hl)
  · cases h
    exact lv_bipush hx hb (hd (by simp [zLen])) rfl (k ls hl)
  · cases h
    exact lv_sipush hx hb (hd (by simp [zLen])) rfl (k ls hl)
  · cases h
    exact lv_lconst hx hb (hd (by simp [zLen])) rfl (k ls hl)
  · split at h
    · rename_i hn1
      cases h
      subst hn1
      exact lv_dconst1 hx hb (hd (by simp [zLen])) (k ls hl)
    · cases h
  · cases h
    exact lv_null hx hb (hd (by simp [zLen])) (k ls hl)
  · exact zLI_go (fun x rest hi kk => lv_iload_n hx hb (hd (by simp [zLen])) rfl hi kk) h hl k
  · exact zLI_go (fun x rest hi kk => lv_iload hx hb (hd (by simp [zLen])) hi kk) h hl k
  · exact zLL_go (fun x rest hi kk => lv_lload_n hx hb (hd (by simp [zLen])) rfl hi kk) h hl k
  · exact zLL_go (fun x rest hi kk => lv_lload hx hb (hd (by simp [zLen])) hi kk) h hl k
  · exact zLD_go (fun x rest hi kk => lv_dload_n hx hb (hd (by simp [zLen])) rfl hi kk) h hl k
  · exact zLD_go (fun x rest hi kk => lv_dload hx hb (hd (by simp [zLen])) hi kk) h hl k
  · exact zLA_go (fun x rest hi kk => lv_aload_n hx hb (hd (by simp [zLen])) rfl hi kk) (fun rest hi kk => lv_aload_nN hx hb (hd (by simp [zLen])) rfl hi kk) h hl k
  · exact zLA_go (fun x rest hi kk => lv_aload hx hb (hd (by simp [zLen])) hi kk) (fun rest hi kk => lv_aloadN hx hb (hd (by simp [zLen])) hi kk) h hl k
  · exact zSI_go (fun x rest l1 l2 h1 h2 h3 kk => lv_istore_n hx hb (hd (by simp [zLen])) rfl h1 h2 h3 kk) h hl k
  · exact zSI_go (fun x rest l1 l2 h1 h2 h3 kk => lv_istore hx hb (hd (by simp [zLen])) h1 h2 h3 kk) h hl k
  · exact zSL_go (fun x rest l1 l2 h1 h2 h3 kk => lv_lstore_n hx hb (hd (by simp [zLen])) rfl h1 h2 h3 kk) h hl k
  · exact zSL_go (fun x rest l1 l2 h1 h2 h3 kk => lv_lstore hx hb (hd (by simp [zLen])) h1 h2 h3 kk) h hl k
  · exact zSD_go (fun x rest l1 l2 h1 h2 h3 kk => lv_dstore_n hx hb (hd (by simp [zLen])) rfl h1 h2 h3 kk) h hl k
  · exact zSD_go (fun x rest l1 l2 h1 h2 h3 kk => lv_dstore hx hb (hd (by simp [zLen])) h1 h2 h3 kk) h hl k
  · exact zSA_go (fun x rest l1 l2 h1 h2 h3 kk => lv_astore_n hx hb (hd (by simp [zLen])) rfl h1 h2 h3 kk) (fun rest l1 l2 h1 h2 h3 kk => lv_astore_nN hx hb (hd (by simp [zLen])) rfl h1 h2 h3 kk) h hl k
  · exact zSA_go (fun x rest l1 l2 h1 h2 h3 kk => lv_astore hx hb (hd (by simp [zLen])) h1 h2 h3 kk) (fun rest l1 l2 h1 h2 h3 kk => lv_astoreN hx hb (hd (by simp [zLen])) h1 h2 h3 kk) h hl k
  · unfold zinc at h
    split at h
    · rename_i e0
      split at h
      · rename_i hi
        cases h
        obtain ⟨j0, hj0⟩ := zld_ix (τ := τ) e0
        exact lv_iinc hx hb (hd (by simp [zLen])) hl hj0 rfl hi (zs1_eq τ lv _ (.int _)) k
      · cases h
    · cases h
  · exact z2_go (fun x y rest kk => lv_iadd hx hb (hd (by simp [zLen])) kk) (fun _ _ => rfl) h hl k
  · exact z2_go (fun x y rest kk => lv_isub hx hb (hd (by simp [zLen])) kk) (fun _ _ => rfl) h hl k
  · exact z2_go (fun x y rest kk => lv_imul hx hb (hd (by simp [zLen])) kk) (fun _ _ => rfl) h hl k
  · exact z2_go (fun x y rest kk => lv_iand hx hb (hd (by simp [zLen])) kk) (fun _ _ => rfl) h hl k
  · exact z2_go (fun x y rest kk => lv_ior hx hb (hd (by simp [zLen])) kk) (fun _ _ => rfl) h hl k
  · exact z2_go (fun x y rest kk => lv_ixor hx hb (hd (by simp [zLen])) kk) (fun _ _ => rfl) h hl k
  · exact z2_go (fun x y rest kk => lv_ishl hx hb (hd (by simp [zLen])) kk) (fun _ _ => rfl) h hl k
  · exact z2_go (fun x y rest kk => lv_ishr hx hb (hd (by simp [zLen])) kk) (fun _ _ => rfl) h hl k
  · exact z2_go (fun x y rest kk => lv_iushr hx hb (hd (by simp [zLen])) rfl kk) (fun _ _ => rfl) h hl k
  · split at h
    · rename_i y0 r0
      split at h
      · cases h
      · rename_i hy
        unfold z2 at h
        split at h
        · rename_i y1 x1 r1 heq
          cases heq
          cases h
          exact lv_idiv hx hb (hd (by simp [zLen])) hy (k ls hl)
        · cases h
    · cases h
  · split at h
    · rename_i y0 r0
      split at h
      · cases h
      · rename_i hy
        unfold z2 at h
        split at h
        · rename_i y1 x1 r1 heq
          cases heq
          cases h
          exact lv_irem hx hb (hd (by simp [zLen])) hy (k ls hl)
        · cases h
    · cases h
  · exact z1_go (fun x rest kk => lv_ineg hx hb (hd (by simp [zLen])) kk) (fun _ => rfl) h hl k
  · exact z1_go (fun x rest kk => lv_i2l hx hb (hd (by simp [zLen])) rfl kk) (fun _ => rfl) h hl k
  · exact z1_go (fun x rest kk => lv_i2b hx hb (hd (by simp [zLen])) rfl kk) (fun _ => rfl) h hl k
  · exact z1_go (fun x rest kk => lv_i2c hx hb (hd (by simp [zLen])) rfl kk) (fun _ => rfl) h hl k
  · exact z1_go (fun x rest kk => lv_i2d hx hb (hd (by simp [zLen])) kk) (fun _ => rfl) h hl k
  · exact zl2_go (fun x y rest kk => lv_ladd hx hb (hd (by simp [zLen])) kk) (fun _ _ => rfl) h hl k
  · exact zl2_go (fun x y rest kk => lv_lmul hx hb (hd (by simp [zLen])) kk) (fun _ _ => rfl) h hl k
  · exact zl2_go (fun x y rest kk => W.lcmp hx hb (hd (by simp [zLen])) kk) (fun _ _ => rfl) h hl k
  · exact zd1_go (fun x rest kk => lv_d2l hx hb (hd (by simp [zLen])) kk) (fun _ => rfl) h hl k
  · exact zd2_go (fun x y rest kk => lv_dcmp hx hb (hd (by simp [zLen])) kk) (fun _ _ => rfl) h hl k
  · exact zb1_go (fun x rest tgt ht kt kf => lv_if_eq hx hb (hd (by simp [zLen])) ht (fun q => kt (decide_eq_true q)) (fun q => kf (fun z => absurd (of_decide_eq_true z) (by first | exact q | exact not_not_intro q)))) h hl k
  · exact zb1_go (fun x rest tgt ht kt kf => lv_if_ne hx hb (hd (by simp [zLen])) ht (fun q => kt (decide_eq_true q)) (fun q => kf (fun z => absurd (of_decide_eq_true z) (by first | exact q | exact not_not_intro q)))) h hl k
  · exact zb1_go (fun x rest tgt ht kt kf => lv_if_lt hx hb (hd (by simp [zLen])) ht (fun q => kt (decide_eq_true q)) (fun q => kf (fun z => absurd (of_decide_eq_true z) (by first | exact q | exact not_not_intro q)))) h hl k
  · exact zb1_go (fun x rest tgt ht kt kf => lv_if_ge hx hb (hd (by simp [zLen])) ht (fun q => kt (decide_eq_true q)) (fun q => kf (fun z => absurd (of_decide_eq_true z) (by first | exact q | exact not_not_intro q)))) h hl k
  · exact zb1_go (fun x rest tgt ht kt kf => lv_if_gt hx hb (hd (by simp [zLen])) ht (fun q => kt (decide_eq_true q)) (fun q => kf (fun z => absurd (of_decide_eq_true z) (by first | exact q | exact not_not_intro q)))) h hl k
  · exact zb1_go (fun x rest tgt ht kt kf => lv_if_le hx hb (hd (by simp [zLen])) ht (fun q => kt (decide_eq_true q)) (fun q => kf (fun z => absurd (of_decide_eq_true z) (by first | exact q | exact not_not_intro q)))) h hl k
  · exact zb2_go (fun x y rest tgt ht kt kf => lv_icmp_eq hx hb (hd (by simp [zLen])) ht (fun q => kt (decide_eq_true q)) (fun q => kf (fun z => absurd (of_decide_eq_true z) (by first | exact q | exact not_not_intro q)))) h hl k
  · exact zb2_go (fun x y rest tgt ht kt kf => lv_icmp_ne hx hb (hd (by simp [zLen])) ht (fun q => kt (decide_eq_true q)) (fun q => kf (fun z => absurd (of_decide_eq_true z) (by first | exact q | exact not_not_intro q)))) h hl k
  · exact zb2_go (fun x y rest tgt ht kt kf => lv_icmp_lt hx hb (hd (by simp [zLen])) ht (fun q => kt (decide_eq_true q)) (fun q => kf (fun z => absurd (of_decide_eq_true z) (by first | exact q | exact not_not_intro q)))) h hl k
  · exact zb2_go (fun x y rest tgt ht kt kf => lv_icmp_ge hx hb (hd (by simp [zLen])) ht (fun q => kt (decide_eq_true q)) (fun q => kf (fun z => absurd (of_decide_eq_true z) (by first | exact q | exact not_not_intro q)))) h hl k
  · exact zb2_go (fun x y rest tgt ht kt kf => lv_icmp_gt hx hb (hd (by simp [zLen])) ht (fun q => kt (decide_eq_true q)) (fun q => kf (fun z => absurd (of_decide_eq_true z) (by first | exact q | exact not_not_intro q)))) h hl k
  · exact zb2_go (fun x y rest tgt ht kt kf => lv_icmp_le hx hb (hd (by simp [zLen])) ht (fun q => kt (decide_eq_true q)) (fun q => kf (fun z => absurd (of_decide_eq_true z) (by first | exact q | exact not_not_intro q)))) h hl k
  · exact zgo_go (fun rest tgt ht kk => lv_goto hx hb (hd (by simp [zLen])) ht kk) h hl k
  · exact zsw_go (fun x rest tgt hc ht kk => lv_tableOut hx hb hdg hc ht kk) (fun x rest off tgt h1 h2 ho ht kk => lv_tableIn hx hb hdg h1 h2 ho ht kk) h hl k
  · exact zdup_go (fun v rest hc kk => lv_dup hx hb (hd (by simp [zLen])) hc kk) h hl k
  · exact zpop_go (fun v rest hc kk => lv_pop hx hb (hd (by simp [zLen])) hc kk) h hl k
  · exact zdupx1_go (fun v w rest h1 h2 kk => lv_dup_x1 hx hb (hd (by simp [zLen])) h1 h2 kk) h hl k
  · exact zdup2_go (fun v rest hc kk => lv_dup2_2 hx hb (hd (by simp [zLen])) hc kk) (fun v w rest h1 h2 kk => lv_dup2_11 hx hb (hd (by simp [zLen])) h1 h2 kk) h hl k
  · exact zpop2_go (fun v rest hc kk => lv_pop2_2 hx hb (hd (by simp [zLen])) hc kk) (fun v w rest h1 h2 kk => lv_pop2_11 hx hb (hd (by simp [zLen])) h1 h2 kk) h hl k
  · cases h
end zOk
