/-! ===== values: the order of the locals is nothing ===== -/
/-- b holds all locals of a, and no place twice -/
def zPm (b a : List (Nat × Value)) : Prop := (∀ e ∈ a, e ∈ b) ∧ (b.map Prod.fst).Nodup
theorem zld_of_mem : ∀ {a : List (Nat × Value)} {i : Nat} {v : Value}, (a.map Prod.fst).Nodup → (i, v) ∈ a → zld a i = some v
  | [], _, _, _, h => by cases h
  | q :: r, i, v, nd, h => by
    unfold zld
    rw [List.map_cons, List.nodup_cons] at nd
    rcases List.mem_cons.mp h with e | h
    · rw [← e]
      simp
    · have : ¬ q.1 = i := fun z => nd.1 (by rw [z]; exact List.mem_map.mpr ⟨(i, v), h, rfl⟩)
      rw [if_neg this]
      exact zld_of_mem nd.2 h
theorem zld_pm {a b : List (Nat × Value)} (p : zPm b a) {i : Nat} {v : Value} (e : zld a i = some v) : zld b i = some v := zld_of_mem p.2 (p.1 _ (zld_mem e))
theorem zPm.filter {a b : List (Nat × Value)} (p : zPm b a) (f : Nat × Value → Bool) : zPm (b.filter f) (a.filter f) := ⟨fun e he => by
  obtain ⟨h1, h2⟩ := List.mem_filter.mp he
  exact List.mem_filter.mpr ⟨p.1 e h1, h2⟩, (List.filter_sublist.map Prod.fst).nodup p.2⟩
theorem zPm.s1 {a b : List (Nat × Value)} (p : zPm b a) (i : Nat) (v : Value) : zPm (zs1 b i v) (zs1 a i v) := by
  have q := p.filter (fun q => !(q.1 == i) && !(q.1 + 1 == i && q.2.category == 2))
  refine ⟨fun e he => ?_, ?_⟩
  · rcases List.mem_cons.mp he with rfl | he
    · exact List.mem_cons_self
    · exact List.mem_cons_of_mem _ (q.1 e he)
  · show (i :: (b.filter _).map Prod.fst).Nodup
    rw [List.nodup_cons]
    refine ⟨fun h => ?_, q.2⟩
    obtain ⟨x, h1, h2⟩ := List.mem_map.mp h
    have := (List.mem_filter.mp h1).2
    simp [h2] at this
theorem zPm.s2 {a b : List (Nat × Value)} (p : zPm b a) (i : Nat) (v : Value) : zPm (zs2 b i v) (zs2 a i v) := by
  have q := p.filter (fun q => !(q.1 == i) && (!(q.1 == i + 1) && !(q.1 + 1 == i && q.2.category == 2)))
  refine ⟨fun e he => ?_, ?_⟩
  · rcases List.mem_cons.mp he with rfl | he
    · exact List.mem_cons_self
    · exact List.mem_cons_of_mem _ (q.1 e he)
  · show (i :: (b.filter _).map Prod.fst).Nodup
    rw [List.nodup_cons]
    refine ⟨fun h => ?_, q.2⟩
    obtain ⟨x, h1, h2⟩ := List.mem_map.mp h
    have := (List.mem_filter.mp h1).2
    simp [h2] at this
def zG1 (o o' : zO) : Prop := ∀ a l s, o' = some (a, l, s) → ∃ l2, o = some (a, l2, s) ∧ zPm l2 l
theorem zG_cst {lv lv' : List (Nat × Value)} (F : List (Nat × Value) → zO) (h : ∀ l, F l = (F []).map (fun x => (x.1, l, x.2.2))) (p : zPm lv lv') : zG1 (F lv) (F lv') := by
  intro a l s e
  rw [h] at e ⊢
  cases x : F [] with
  | none => rw [x] at e; cases e
  | some y =>
    rw [x] at e
    cases e
    exact ⟨_, rfl, p⟩
section zPc
variable {pc : Nat} {lv lv' : List (Nat × Value)} {st : List Value}
theorem z1_c {f : Int32 → Value} (l : List (Nat × Value)) : z1 pc l st f = (z1 pc [] st f).map (fun x => (x.1, l, x.2.2)) := by unfold z1; split <;> rfl
theorem z2_c {f : Int32 → Int32 → Value} (l : List (Nat × Value)) : z2 pc l st f = (z2 pc [] st f).map (fun x => (x.1, l, x.2.2)) := by unfold z2; split <;> rfl
theorem zl1_c {f : Int64 → Value} (l : List (Nat × Value)) : zl1 pc l st f = (zl1 pc [] st f).map (fun x => (x.1, l, x.2.2)) := by unfold zl1; split <;> rfl
theorem zl2_c {f : Int64 → Int64 → Value} (l : List (Nat × Value)) : zl2 pc l st f = (zl2 pc [] st f).map (fun x => (x.1, l, x.2.2)) := by unfold zl2; split <;> rfl
theorem zd1_c {f : UInt64 → Value} (l : List (Nat × Value)) : zd1 pc l st f = (zd1 pc [] st f).map (fun x => (x.1, l, x.2.2)) := by unfold zd1; split <;> rfl
theorem zd2_c {f : UInt64 → UInt64 → Value} (l : List (Nat × Value)) : zd2 pc l st f = (zd2 pc [] st f).map (fun x => (x.1, l, x.2.2)) := by unfold zd2; split <;> rfl
theorem zb1_c {f : Int32 → Bool} {off : Int} (l : List (Nat × Value)) : zb1 pc l st f off = (zb1 pc [] st f off).map (fun x => (x.1, l, x.2.2)) := by
  unfold zb1
  split
  · split <;> rfl
  · rfl
theorem zb2_c {f : Int32 → Int32 → Bool} {off : Int} (l : List (Nat × Value)) : zb2 pc l st f off = (zb2 pc [] st f off).map (fun x => (x.1, l, x.2.2)) := by
  unfold zb2
  split
  · split <;> rfl
  · rfl
theorem zgo_c {off : Int} (l : List (Nat × Value)) : zgo pc l st off = (zgo pc [] st off).map (fun x => (x.1, l, x.2.2)) := by
  unfold zgo
  split <;> rfl
theorem zsw_c {d lo hi : Int} {offs : Array Int} (l : List (Nat × Value)) : zsw pc l st d lo hi offs = (zsw pc [] st d lo hi offs).map (fun x => (x.1, l, x.2.2)) := by
  unfold zsw
  split
  · split
    · exact zgo_c l
    · split
      · exact zgo_c l
      · rfl
  · rfl
theorem zdup_c (l : List (Nat × Value)) : zdup pc l st = (zdup pc [] st).map (fun x => (x.1, l, x.2.2)) := by
  unfold zdup
  split
  · split <;> rfl
  · rfl
theorem zpop_c (l : List (Nat × Value)) : zpop pc l st = (zpop pc [] st).map (fun x => (x.1, l, x.2.2)) := by
  unfold zpop
  split
  · split <;> rfl
  · rfl
theorem zdupx1_c (l : List (Nat × Value)) : zdupx1 pc l st = (zdupx1 pc [] st).map (fun x => (x.1, l, x.2.2)) := by
  unfold zdupx1
  split
  · split <;> rfl
  · rfl
theorem zdup2_c (l : List (Nat × Value)) : zdup2 pc l st = (zdup2 pc [] st).map (fun x => (x.1, l, x.2.2)) := by
  unfold zdup2
  split
  · split
    · rfl
    · split
      · split <;> rfl
      · rfl
  · rfl
theorem zpop2_c (l : List (Nat × Value)) : zpop2 pc l st = (zpop2 pc [] st).map (fun x => (x.1, l, x.2.2)) := by
  unfold zpop2
  split
  · split
    · rfl
    · split
      · split <;> rfl
      · rfl
  · rfl
theorem zLI_pm {n i : Nat} (p : zPm lv lv') : zG1 (zLI pc lv st n i) (zLI pc lv' st n i) := by
  intro a l s e
  unfold zLI at e ⊢
  split at e
  · rename_i x hx
    cases e
    rw [zld_pm p hx]
    exact ⟨_, rfl, p⟩
  · cases e
theorem zLL_pm {n i : Nat} (p : zPm lv lv') : zG1 (zLL pc lv st n i) (zLL pc lv' st n i) := by
  intro a l s e
  unfold zLL at e ⊢
  split at e
  · rename_i x hx
    cases e
    rw [zld_pm p hx]
    exact ⟨_, rfl, p⟩
  · cases e
theorem zLD_pm {n i : Nat} (p : zPm lv lv') : zG1 (zLD pc lv st n i) (zLD pc lv' st n i) := by
  intro a l s e
  unfold zLD at e ⊢
  split at e
  · rename_i x hx
    cases e
    rw [zld_pm p hx]
    exact ⟨_, rfl, p⟩
  · cases e
theorem zLA_pm {n i : Nat} (p : zPm lv lv') : zG1 (zLA pc lv st n i) (zLA pc lv' st n i) := by
  intro a l s e
  unfold zLA at e ⊢
  split at e
  · rename_i x hx
    cases e
    rw [zld_pm p hx]
    exact ⟨_, rfl, p⟩
  · rename_i hx
    cases e
    rw [zld_pm p hx]
    exact ⟨_, rfl, p⟩
  · cases e
theorem zSI_pm {nL n i : Nat} (p : zPm lv lv') : zG1 (zSI pc lv st nL n i) (zSI pc lv' st nL n i) := by
  intro a l s e
  unfold zSI at e ⊢
  split at e
  · split at e
    · rename_i z
      cases e
      exact ⟨zs1 lv i _, by simp only [if_pos z], p.s1 i _⟩
    · cases e
  · cases e
theorem zSL_pm {nL n i : Nat} (p : zPm lv lv') : zG1 (zSL pc lv st nL n i) (zSL pc lv' st nL n i) := by
  intro a l s e
  unfold zSL at e ⊢
  split at e
  · split at e
    · rename_i z
      cases e
      exact ⟨zs2 lv i _, by simp only [if_pos z], p.s2 i _⟩
    · cases e
  · cases e
theorem zSD_pm {nL n i : Nat} (p : zPm lv lv') : zG1 (zSD pc lv st nL n i) (zSD pc lv' st nL n i) := by
  intro a l s e
  unfold zSD at e ⊢
  split at e
  · split at e
    · rename_i z
      cases e
      exact ⟨zs2 lv i _, by simp only [if_pos z], p.s2 i _⟩
    · cases e
  · cases e
theorem zSA_pm {nL n i : Nat} (p : zPm lv lv') : zG1 (zSA pc lv st nL n i) (zSA pc lv' st nL n i) := by
  intro a l s e
  unfold zSA at e ⊢
  split at e
  · split at e
    · rename_i z
      cases e
      exact ⟨zs1 lv i _, by simp only [if_pos z], p.s1 i _⟩
    · cases e
  · split at e
    · rename_i z
      cases e
      exact ⟨zs1 lv i _, by simp only [if_pos z], p.s1 i _⟩
    · cases e
  · cases e
theorem zinc_pm {nL i : Nat} {c : Int} (p : zPm lv lv') : zG1 (zinc pc lv st nL i c) (zinc pc lv' st nL i c) := by
  intro a l s e
  unfold zinc at e ⊢
  split at e
  · rename_i x hx
    rw [zld_pm p hx]
    split at e
    · rename_i z
      cases e
      exact ⟨zs1 lv i _, by simp only [if_pos z], p.s1 i _⟩
    · cases e
  · cases e
theorem zP_pm {nL : Nat} {i : Instr} (p : zPm lv lv') : zG1 (zP nL i pc lv st) (zP nL i pc lv' st) := by
  cases i
  case ifCond c off => cases c <;> exact zG_cst (fun l => zb1 pc l st _ off) zb1_c p
  case if_icmp c off => cases c <;> exact zG_cst (fun l => zb2 pc l st _ off) zb2_c p
  case idiv =>
    refine zG_cst (fun l => zP nL .idiv pc l st) (fun l => ?_) p
    unfold zP
    dsimp only
    split
    · split
      · rfl
      · exact z2_c l
    · rfl
  case irem =>
    refine zG_cst (fun l => zP nL .irem pc l st) (fun l => ?_) p
    unfold zP
    dsimp only
    split
    · split
      · rfl
      · exact z2_c l
    · rfl
  case dconst n =>
    refine zG_cst (fun l => zP nL (.dconst n) pc l st) (fun l => ?_) p
    unfold zP
    dsimp only
    split <;> rfl
  all_goals first
    | exact zLI_pm p
    | exact zLL_pm p
    | exact zLD_pm p
    | exact zLA_pm p
    | exact zSI_pm p
    | exact zSL_pm p
    | exact zSD_pm p
    | exact zSA_pm p
    | exact zinc_pm p
    | exact zG_cst (fun l => z1 pc l st _) z1_c p
    | exact zG_cst (fun l => z2 pc l st _) z2_c p
    | exact zG_cst (fun l => zl1 pc l st _) zl1_c p
    | exact zG_cst (fun l => zl2 pc l st _) zl2_c p
    | exact zG_cst (fun l => zd1 pc l st _) zd1_c p
    | exact zG_cst (fun l => zd2 pc l st _) zd2_c p
    | exact zG_cst (fun l => zgo pc l st _) zgo_c p
    | exact zG_cst (fun l => zsw pc l st _ _ _ _) zsw_c p
    | exact zG_cst (fun l => zdup pc l st) zdup_c p
    | exact zG_cst (fun l => zpop pc l st) zpop_c p
    | exact zG_cst (fun l => zdupx1 pc l st) zdupx1_c p
    | exact zG_cst (fun l => zdup2 pc l st) zdup2_c p
    | exact zG_cst (fun l => zpop2 pc l st) zpop2_c p
    | exact zG_cst (fun l => zP nL _ pc l st) (fun l => rfl) p
end zPc
theorem zCat_pm {zr : zRow} {zi : Nat → zI} {j pc E : Nat} {lv lv' : List (Nat × Value)} (p : zPm lv lv') {pc' : Nat} {l : List (Nat × Value)} (e : zCat zr zi j pc E lv' = some (some (pc', l))) : ∃ l2, zCat zr zi j pc E lv = some (some (pc', l2)) ∧ zPm l2 l := by
  unfold zCat at e ⊢
  split at e
  · cases e
  · split at e
    · split at e
      · split at e
        · rename_i z
          cases e
          exact ⟨(zs1 lv _ .null).drop 1, by simp only [if_pos z], p.filter _⟩
        · cases e
      · cases e
    · cases e
theorem zCat_pm2 {zr : zRow} {zi : Nat → zI} {j pc E : Nat} {lv lv' : List (Nat × Value)} (e : zCat zr zi j pc E lv' = some none) : zCat zr zi j pc E lv = some none := by
  unfold zCat at e ⊢
  split at e
  · rfl
  · split at e
    · split at e
      · split at e
        · cases e
        · cases e
      · cases e
    · cases e
theorem zL_pm {zr : zRow} {zi : Nat → zI} : ∀ (f j pc : Nat) (lv lv' : List (Nat × Value)) (st : List Value) (h : List zC) (u : Nat) (K : zK), zPm lv lv' → zL zr zi f j pc lv st h u K → zL zr zi f j pc lv' st h u K
  | 0, _, _, _, _, _, _, _, _, _, _ => trivial
  | f + 1, j, pc, lv, lv', st, h, u, K, p, hw => by
    have ih := @zL_pm zr zi f
    unfold zL at hw ⊢
    split at hw
    · rename_i e
      (try simp only [e])
    · rename_i i a b hrow
      try simp only [hrow]
      split at hw
      · rename_i hk
        (try simp only [hk])
        split
        · rename_i pc' l' s' hp
          obtain ⟨l2, e1, e2⟩ := zP_pm (nL := zMl (zi j)) (i := i) (pc := pc) (st := st) p _ _ _ hp
          rw [e1] at hw
          exact ih _ _ _ _ _ _ _ _ e2 hw
        · trivial
      · rename_i hk
        (try simp only [hk])
        split at hw
        · rename_i hp
          (try simp only [hp])
          exact ih _ _ _ _ _ _ _ _ p hw
        · rename_i hp
          (try simp only [hp])
      · rename_i hk
        (try simp only [hk])
        split at hw
        · rename_i hp
          (try simp only [hp])
          exact ih _ _ _ _ _ _ _ _ p hw
        · rename_i hp
          (try simp only [hp])
      · rename_i hk
        (try simp only [hk])
        refine zL_K _ _ _ _ _ _ _ _ _ hw (fun o h' u' q => ?_)
        split at q
        · exact ih _ _ _ _ _ _ _ _ p q
        · split
          · rename_i hz
            obtain ⟨l2, e1, e2⟩ := zCat_pm p hz
            rw [e1] at q
            exact ih _ _ _ _ _ _ _ _ e2 q
          · rename_i hz
            rw [zCat_pm2 hz] at q
            exact q
          · trivial
      · rename_i hk
        (try simp only [hk])
        exact hw
      · rename_i hk
        (try simp only [hk])
        exact hw
      · rename_i hk
        (try simp only [hk])
        split at hw
        · exact ih _ _ _ _ _ _ _ _ p hw
        · trivial
      · rename_i hk
        (try simp only [hk])
        exact ih _ _ _ _ _ _ _ _ p hw
      · rename_i hk
        (try simp only [hk])
        split at hw
        · rename_i hp
          (try simp only [hp])
          exact fun o ho => ih _ _ _ _ _ _ _ _ p (hw o ho)
        · rename_i hp
          (try simp only [hp])
      · trivial
/-- what a cell holds as a number -/
def iv (h : List zC) (p k : Nat) : Int32 := match gF h p k with
  | some (.int x) => x
  | _ => 0
theorem iv_of {h : List zC} {p k : Nat} {x : Int32} (e : gF h p k = some (.int x)) : iv h p k = x := by
  unfold iv
  rw [e]
theorem iv_eq {h h' : List zC} {p k p' k' : Nat} (e : gF h' p' k' = gF h p k) : iv h' p' k' = iv h p k := by
  unfold iv
  rw [e]
theorem rho_lt {p : Nat} (h : p < 239) : p < rho0.length := by
  rw [show rho0.length = 239 by decide +kernel]
  exact h
