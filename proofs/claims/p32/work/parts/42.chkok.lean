/-! ===== the checker is right ===== -/
theorem wRep {W : tWd} (hW : wR W 999 = none) : ∀ R, wR W 999 = some R → False := fun R e => by rw [hW] at e; cases e
section ckB
variable {zr : zRow} {zi : Nat → zI} {W : tWd} {ro : Nat → Nat → Nat} {Cs : List cCon} {Wr : List (Nat × Nat)} {mc ms N0 : Int} {n0 : Nat} {hb ub : Nat} {ρ0 : List Nat} {h0 : List zC}
theorem tNoR_ok {r : Nat} {t : tT} {ρ ρ' : List Nat} {v : Value} (hn : tNoR r t = true) (hr : ∀ i s : Nat, ρ[i]? = some s → s ≠ r → ρ'[i]? = some s) (h : tHas ρ t v) : tHas ρ' t v := by
  unfold tNoR at hn
  unfold tHas at h ⊢
  obtain ⟨hn, hn2⟩ := Bool.and_eq_true_iff.mp hn
  have key : ∀ i : Nat, (t.1 = 3 ∨ t.1 = 4 ∨ t.1 = 6) → ρ[i]? = some t.2.1.toNat → ρ'[i]? = some t.2.1.toNat := fun i hk e => hr i _ e (fun q => by
    rcases hk with hk | hk | hk <;> simp [hk, q] at hn)
  have key2 : ∀ i : Nat, t.1 = 6 → ρ[i]? = some t.2.2.toNat → ρ'[i]? = some t.2.2.toNat := fun i hk e => hr i _ e (fun q => by
    simp [hk, q] at hn2)
  split at h
  · exact h
  · exact h
  · exact h
  · rename_i e
    obtain ⟨i, q1, q2⟩ := h
    exact ⟨i, q1, key i (Or.inl e) q2⟩
  · rename_i e
    rcases h with h | ⟨i, q1, q2⟩
    · exact Or.inl h
    · exact Or.inr ⟨i, q1, key i (Or.inr (Or.inl e)) q2⟩
  · exact h
  · rename_i e
    obtain ⟨i, q1, q2⟩ := h
    exact ⟨i, q1, q2.imp (key i (Or.inr (Or.inr e))) (key2 i e)⟩
  · trivial
theorem wFree_ok {r s k : Nat} {R : tR} (h : wFree W r = true) (hR : wR W s = some R) : tNoR r (tFd R k).1 = true := by
  unfold wFree at h
  obtain ⟨h1, -⟩ := Bool.and_eq_true_iff.mp h
  have h2 := List.all_eq_true.mp h1 R (List.mem_of_getElem? hR)
  obtain ⟨h3, h4⟩ := Bool.and_eq_true_iff.mp h2
  unfold tFd
  rw [List.getD_eq_getElem?_getD]
  cases e : R.2.2.1[k]? with
  | none => exact h4
  | some f => exact List.all_eq_true.mp h3 f (List.mem_of_getElem? e)
theorem sTag_ok {N : Int} {ρ : List Nat} {ν : List Value} {S S' : sS} {lv : List (Nat × Value)} {st : List Value} {h : List zC} {u r : Nat} (hWk : wTop W (wA W) = true) (ht : sTag W S r = some S') (hA : gA hb ub ρ ν S lv st h u) (hH : tHeap W N ρ h) (hP : gPre hb ρ0 ρ) : ∃ ρ', gA hb ub ρ' ν S' lv st h u ∧ tHeap W N ρ' h ∧ gPre hb ρ0 ρ' := by
  unfold sTag at ht
  split at ht
  · rename_i o T hs
    split at ht
    · rename_i R0 R1 hR0 hR1
      split at ht
      · rename_i hc
        obtain ⟨c1, c2, c3, c4, c5, c6, c7, c8, c9, c10, c11, c12⟩ := hc
        cases ht
        have hT := hA.2.2.1
        rw [hs] at hT
        obtain ⟨vo, st1, rfl, eo, -⟩ := hT.inv
        obtain ⟨a, rfl, ha⟩ := hA.ref eo c1
        have hlt := (List.getElem?_eq_some_iff.mp ha).1
        have hge := sNew_ok hA c2 eo
        have oth : ∀ i s : Nat, ρ[i]? = some s → s ≠ (sGet S.1 o).2.1.toNat → (ρ.set a r)[i]? = some s := fun i s e q => by
          rw [List.getElem?_set_ne (fun z => q (by rw [← z, ha] at e; cases e; rfl))]
          exact e
        have hset : (ρ.set a r)[a]? = some r := List.getElem?_set_self hlt
        have inv : ∀ i s : Nat, (ρ.set a r)[i]? = some s → (i = a ∧ s = r) ∨ (i ≠ a ∧ ρ[i]? = some s) := fun i s e => by
          by_cases q : a = i
          · subst q
            rw [hset] at e
            cases e
            exact Or.inl ⟨rfl, rfl⟩
          · rw [List.getElem?_set_ne q] at e
            exact Or.inr ⟨fun z => q z.symm, e⟩
        have hE0 : gEn (ρ.set a r) ν (S.1.map (fun t => if tNoR (sGet S.1 o).2.1.toNat t = true then t else (9, 0, 0))) := by
          refine ⟨by rw [List.length_map]; exact hA.1.1, fun s v hv => ?_⟩
          have hs1 : s < S.1.length := by rw [hA.1.1]; exact (List.getElem?_eq_some_iff.mp hv).1
          have h1 := hA.1.2 s v hv
          unfold sGet at h1 ⊢
          rw [List.getD_eq_getElem?_getD, List.getElem?_eq_getElem hs1] at h1
          rw [List.getD_eq_getElem?_getD, List.getElem?_map, List.getElem?_eq_getElem hs1]
          show tHas _ (if tNoR _ S.1[s] = true then S.1[s] else (9, 0, 0)) v
          split
          · rename_i q
            exact tNoR_ok q oth h1
          · trivial
        obtain ⟨h1, h2, h3, h4, h5, h6, h7, h8⟩ := hH
        refine ⟨ρ.set a r, ⟨hE0.set (fun v hv => ?_), hA.2⟩, ⟨by rw [List.length_set]; exact h1, h2, fun i ci ri Ri hi hri hRi => ?_, fun i ri hri => ?_, fun l hl b cb hb2 hcb => ?_, fun b cb hb2 hcb => ?_, h7, fun i r' c' hri hci hio n hn j hj => ?_⟩, hP.1, fun i s e => ?_⟩
        · rw [eo] at hv
          cases hv
          exact ⟨a, rfl, hset⟩
        · rcases inv i ri hri with ⟨rfl, rfl⟩ | ⟨q1, q2⟩
          · rw [hR1] at hRi
            cases hRi
            obtain ⟨g1, g2, g3⟩ := h3 i ci _ R0 hi ha hR0
            refine ⟨g1.trans c6, ⟨fun n hn => g2.1 n (c7.trans hn), fun q => ?_⟩, fun k v hk => ?_⟩
            · unfold sAllF at c8
              rw [c7, q] at c8
              cases c8
            have g4 := g3 k v hk
            unfold sAllF at c8
            split at c8
            · rename_i n hn
              have hkn : k < n := by
                have := (List.getElem?_eq_some_iff.mp hk).1
                have := g2.1 n hn
                omega
              have hf := List.all_eq_true.mp c8 k (List.mem_range.mpr hkn)
              unfold sFits at hf
              rcases Bool.or_eq_true_iff.mp hf with hf | hf
              · obtain ⟨f1, f2⟩ := Bool.and_eq_true_iff.mp hf
                have f2 : (tFd R1 k).2.2.1 = 0 := by simpa using f2
                refine ⟨tNoR_ok (wFree_ok c5 hR1) oth (tSub_ok f1 g4.1), ?_⟩
                unfold gHas
                rw [if_neg (by omega), if_neg (by omega)]
                trivial
              · split at hf
                · rename_i s hs2
                  obtain ⟨a2, c2', v2, e1, e2, e3, e4⟩ := sFld_ok hA hs2
                  rw [eo] at e1
                  cases e1
                  rw [hi] at e2
                  cases e2
                  rw [hk] at e3
                  cases e3
                  have g5 := sMay_ok hA ⟨h1, h2, h3, h4, h5, h6, h7, h8⟩ hf e4
                  exact ⟨tNoR_ok (wFree_ok c5 hR1) oth g5.1, g5.2⟩
                · cases hf
            · cases c8
          · obtain ⟨g1, g2, g3⟩ := h3 i ci ri Ri hi q2 hRi
            exact ⟨g1, g2, fun k v hk => ⟨tNoR_ok (wFree_ok c5 hRi) oth (g3 k v hk).1, (g3 k v hk).2⟩⟩
        · rcases inv i ri hri with ⟨rfl, rfl⟩ | ⟨q1, q2⟩
          · have q0 := (h4 i _ ha).1
            have hz : zro = 16 := rfl
            exact ⟨fun z => by have := q0 z; omega, fun _ z => by omega, fun z => by have := q0 (by omega); omega⟩
          · exact h4 i ri q2
        · obtain ⟨l1, l2⟩ := wLk_no c4 l hl
          obtain ⟨l3, l4⟩ := wLk_no c3 l hl
          rcases inv b _ hb2 with ⟨-, q⟩ | ⟨q1, q2⟩
          · exact absurd q l1
          · obtain ⟨p, n, e1, e4, e5, e2⟩ := h5 l hl b cb q2 hcb
            refine ⟨p, n, e1, e4, e5, ?_⟩
            rcases e2 with ⟨e2, e3⟩ | ⟨e2, cp, e3, e6, e7⟩
            · refine Or.inl ⟨oth p _ e2 (fun z => ?_), e3⟩
              have hge8 := (h4 _ _ ha)
              have hz : zro = 16 := rfl
              have hw : wE = 4 := rfl
              have p4 := (h4 p _ e2).2.1 (by omega) (by omega) (by omega)
              rw [← z] at ha
              have a4 := (h4 a _ ha).2.1 (by omega) (by omega) (by omega)
              have := (h4 a _ ha).1 (by omega)
              omega
            right
            refine ⟨oth p _ e2 l4, cp, e3, e6, fun i hi => ?_⟩
            obtain ⟨x, x1, x2⟩ := e7 i hi
            refine ⟨x, x1, oth x _ x2 ?_⟩
            unfold wFree at c5
            have := List.all_eq_true.mp (Bool.and_eq_true_iff.mp c5).2 l hl
            simpa using this
        · rcases inv b _ hb2 with ⟨-, q⟩ | ⟨q1, q2⟩
          · rw [q, wLk_top c4] at hWk
            cases hWk
          · obtain ⟨x1, x2⟩ := h6 b cb q2 hcb
            refine ⟨x1, fun b2 hb2 => ?_⟩
            rcases inv b2 _ hb2 with ⟨-, q3⟩ | ⟨q3, q4⟩
            · rw [q3, wLk_top c4] at hWk
              cases hWk
            · exact x2 b2 q4
        · rcases inv i r' hri with ⟨rfl, rfl⟩ | ⟨q1, q2⟩
          · obtain ⟨p, cp, s, g1, g2, g3, g4, g5⟩ := h8 i _ c' ha hci (c11 hio) n hn j hj
            exact ⟨p, cp, s, g1, oth p _ g2 (fun z => c12 z.symm), g3, g4, g5⟩
          · obtain ⟨p, cp, s, g1, g2, g3, g4, g5⟩ := h8 i r' c' q2 hci hio n hn j hj
            exact ⟨p, cp, s, g1, oth p _ g2 (fun z => c12 z.symm), g3, g4, g5⟩
        · have e2 := hP.2 i s e
          have hi : i < hb := by
            have := (List.getElem?_eq_some_iff.mp e).1
            have := hP.1
            omega
          rw [List.getElem?_set_ne (by omega)]
          exact e2
      · cases ht
    · cases ht
  · cases ht
/-- the state behind a contract's end -/
theorem sBack0_ok {c : cCon} {m : List Nat} {x : cEx} {N : Int} {ρ ρ' : List Nat} {ν ν' : List Value} {S : sS} {lv : List (Nat × Value)} {st st' : List Value} {h h' : List zC} {u u' : Nat}
    (hA : gA hb ub ρ ν S lv st h u) (hH : tHeap W N ρ h) (hP : gPre hb ρ0 ρ) (hm : ∀ s x : Nat, m[s]? = some x → ∃ v : Value, ν[x]? = some v ∧ (mv ν m)[s]? = some v) (hl : m.length = c.2.2.1.1.length)
    (hx : nExt (mv ν m) ν') (hP' : gPre h.length ρ ρ') (hF : gFr c.2.2.2.1 ρ h h') (hA' : gA h.length u ρ' ν' x.2 [] st' h' u') :
    ∃ ν2, nExt ν ν2 ∧ gA hb ub ρ' ν2 (sBack0 S [] [] c m x.2) [] st' h' u' := by
  have hle : hb ≤ h.length := by
    rw [← hP.1, ← hH.1]
    rcases Nat.lt_or_ge ρ.length ρ0.length with e | e
    · have e1 : ρ0[ρ.length]? = some ρ0[ρ.length] := List.getElem?_eq_getElem e
      have e2 := hP.2 _ _ e1
      simp at e2
    · exact e
  have hmx : ∀ (s : Nat) (v : Value), ν'[s]? = some v → (ν ++ ν'.drop c.2.2.1.1.length)[mX c.2.2.1.1.length S.1.length m s]? = some v := by
    intro s v hs
    unfold mX
    by_cases e : s < c.2.2.1.1.length
    · rw [if_pos e]
      have e1 : m[s]? = some (m.getD s 0) := by
        rw [List.getD_eq_getElem?_getD, List.getElem?_eq_getElem (by omega)]
        rfl
      obtain ⟨w, w1, w2⟩ := hm s _ e1
      rw [hx _ _ w2] at hs
      cases hs
      exact nExt_app _ _ _ _ w1
    · rw [if_neg e, hA.1.1, List.getElem?_append_right (by omega), List.getElem?_drop, show c.2.2.1.1.length + (ν.length + (s - c.2.2.1.1.length) - ν.length) = s by omega]
      exact hs
  refine ⟨ν ++ ν'.drop c.2.2.1.1.length, nExt_app _ _, ⟨⟨?_, fun s v hs => ?_⟩, fun e he => (by cases he), ?_, fun f hf => ?_, ?_, ?_⟩⟩
  · show (S.1 ++ x.2.1.drop c.2.2.1.1.length).length = _
    rw [List.length_append, List.length_append, List.length_drop, List.length_drop, hA.1.1, hA'.1.1]
  · show tHas ρ' (sGet (S.1 ++ x.2.1.drop c.2.2.1.1.length) s) v
    unfold sGet
    rw [List.getD_eq_getElem?_getD]
    rcases Nat.lt_or_ge s ν.length with e | e
    · rw [List.getElem?_append_left e] at hs
      rw [List.getElem?_append_left (by rw [hA.1.1]; exact e), ← List.getD_eq_getElem?_getD]
      exact (hA.1.2 s v hs).grow hP'.2
    · rw [List.getElem?_append_right e, List.getElem?_drop] at hs
      rw [List.getElem?_append_right (by rw [hA.1.1]; exact e), hA.1.1, List.getElem?_drop, ← List.getD_eq_getElem?_getD]
      exact hA'.1.2 _ v hs
  · show gSt _ (x.2.2.2.1.map (mX c.2.2.1.1.length S.1.length m) ++ []) st'
    rw [List.append_nil]
    have hT := hA'.2.2.1
    have key : ∀ (T : List Nat) (st : List Value), gSt ν' T st → gSt (ν ++ ν'.drop c.2.2.1.1.length) (T.map (mX c.2.2.1.1.length S.1.length m)) st := by
      intro T
      induction T with
      | nil => exact fun st q => q
      | cons s T ih =>
        intro st q
        obtain ⟨v, st1, rfl, q1, q2⟩ := q.inv
        exact gSt.cons (hmx _ _ q1) (ih st1 q2)
    exact key _ _ hT
  · rcases List.mem_append.mp hf with hf | hf
    · obtain ⟨g, hg, rfl⟩ := List.mem_map.mp hf
      exact fMp_ok hmx hle (hA'.2.2.2.1 g hg)
    · exact (fKeepC_ok hA hF f hf).mono (nExt_app _ _)
  · have c1 := (hA.2.2.2.2.1).mono (nExt_app ν (ν'.drop c.2.2.1.1.length)) (Int.le_refl _)
    have c2 := cLe.mp (sel := fun t => t.1) hmx hA'.2.2.2.2.1
    exact (cLe.app c1 c2).mono (nExt.refl _) (by show (h'.length : Int) - hb + _ ≤ _ + (S.2.2.2.2.1 + x.2.2.2.2.2.1); omega)
  · have c1 := (hA.2.2.2.2.2).mono (nExt_app ν (ν'.drop c.2.2.1.1.length)) (Int.le_refl _)
    have c2 := cLe.mp (sel := fun t => t.2) hmx hA'.2.2.2.2.2
    exact (cLe.app c1 c2).mono (nExt.refl _) (by show (u' : Int) - ub + _ ≤ _ + (S.2.2.2.2.2.1 + x.2.2.2.2.2.2.1); omega)
theorem sBack_ok {c : cCon} {m : List Nat} {x : cEx} {N : Int} {ρ ρ' : List Nat} {ν ν' : List Value} {S : sS} {lv : List (Nat × Value)} {st st' : List Value} {h h' : List zC} {u u' : Nat}
    (hA : gA hb ub ρ ν S lv st h u) (hH : tHeap W N ρ h) (hP : gPre hb ρ0 ρ) (hm : ∀ s x : Nat, m[s]? = some x → ∃ v : Value, ν[x]? = some v ∧ (mv ν m)[s]? = some v) (hl : m.length = c.2.2.1.1.length)
    (hx : nExt (mv ν m) ν') (hP' : gPre h.length ρ ρ') (hF : gFr c.2.2.2.1 ρ h h') (hA' : gA h.length u ρ' ν' x.2 [] st' h' u') :
    ∃ ν2, nExt ν ν2 ∧ gA hb ub ρ' ν2 (sBack S [] [] c m x.2) [] st' h' u' := by
  obtain ⟨ν2, t1, t2⟩ := sBack0_ok (ρ0 := ρ0) (S := S) (x := x) hA hH hP hm hl hx hP' hF hA'
  exact ⟨ν2, t1, sPrA_ok t2.1 (fun f hf => t2.2.2.2.1 f (List.mem_append_left _ hf)), t2.2⟩
theorem cFind_ok {a d : Nat} {S : sS} : ∀ {Cs : List cCon} {c : cCon}, cFind a d S Cs = some c → c ∈ Cs ∧ c.1 = a ∧ c.2.1 ≤ d ∧ mOk (mBuild 0 S c.2.2.1) S c.2.2.1 = true ∧ c.2.2.1.2.2.2.2 = (0, 0, [])
  | [], _, h => by cases h
  | x :: r, c, h => by
    unfold cFind at h
    split at h
    · rename_i q
      cases h
      exact ⟨List.mem_cons_self, q.1, q.2.1, q.2.2.1, of_decide_eq_true q.2.2.2⟩
    · obtain ⟨h1, h2⟩ := cFind_ok h
      exact ⟨List.mem_cons_of_mem _ h1, h2⟩
theorem hFind_ok {pc : Nat} : ∀ {Hs : List mHead} {x : mHead}, hFind Hs pc = some x → x ∈ Hs ∧ x.1 = pc
  | [], _, h => by cases h
  | y :: r, x, h => by
    unfold hFind at h
    split at h
    · rename_i q
      cases h
      exact ⟨List.mem_cons_self, q⟩
    · obtain ⟨h1, h2⟩ := hFind_ok h
      exact ⟨List.mem_cons_of_mem _ h1, h2⟩
theorem mTys_len {E : List tT} : ∀ {m : List Nat} {Et : List tT}, mTys E m Et = true → m.length = Et.length
  | [], [], _ => rfl
  | _ :: m, _ :: Et, h => by
    unfold mTys at h
    have := mTys_len (Bool.and_eq_true_iff.mp (Bool.and_eq_true_iff.mp h).2).2
    simp [this]
  | [], _ :: _, h => by cases h
  | _ :: _, [], h => by cases h
theorem mOk_len {m : List Nat} {S St : sS} (h : mOk m S St = true) : m.length = St.1.length := mTys_len (Bool.and_eq_true_iff.mp h).1
section vv
variable {ρ : List Nat} {ν : List Value} {S : sS} {lv : List (Nat × Value)} {st : List Value} {h : List zC} {u : Nat} {m : List Nat}
theorem vWf_ok (hA : gA hb ub ρ ν S lv st h u) (H : ∀ s x : Nat, m[s]? = some x → ∃ v : Value, ν[x]? = some v ∧ (mv ν m)[s]? = some v) : ∀ {V : List mI}, vWf S m V = true → ∃ w, vEv (mv ν m) V w
  | [], _ => ⟨[], trivial⟩
  | p :: V, hv => by
    unfold vWf at hv
    rw [List.all_cons] at hv
    obtain ⟨h1, h2⟩ := Bool.and_eq_true_iff.mp hv
    obtain ⟨w, w1⟩ := vWf_ok hA H h2
    have hp : ∃ n, vIt (mv ν m) p n := by
      unfold vIt
      by_cases e : p.1 = 0
      · exact ⟨p.2.1.toNat, by rw [if_pos e]⟩
      · rcases Bool.or_eq_true_iff.mp h1 with h1 | h1
        · exact absurd (by simpa using h1) e
        · split at h1
          · rename_i x ex
            obtain ⟨h3, h4⟩ := Bool.and_eq_true_iff.mp h1
            obtain ⟨v, v1, v2⟩ := H _ _ ex
            obtain ⟨y, rfl, y1, y2⟩ := hA.int v1 (by simpa using h3)
            split at h4
            · rename_i e1
              have h4 := of_decide_eq_true h4
              exact ⟨_, by rw [if_neg e, if_pos e1]; exact ⟨y, v2, by omega, rfl⟩⟩
            · rename_i e1
              have h4 := of_decide_eq_true h4
              exact ⟨_, by rw [if_neg e, if_neg e1]; exact ⟨y, v2, by omega, rfl⟩⟩
          · cases h1
    obtain ⟨n, hn⟩ := hp
    exact ⟨n :: w, ⟨hn, w1⟩⟩
theorem vEv_len {ν : List Value} : ∀ {V : List mI} {w : List Nat}, vEv ν V w → w.length = V.length
  | [], [], _ => rfl
  | _ :: _, _ :: _, h => by have := vEv_len h.2; simp [this]
  | [], _ :: _, h => h.elim
  | _ :: _, [], h => h.elim
theorem vLs_ok (hA : gA hb ub ρ ν S lv st h u) (H : ∀ s x : Nat, m[s]? = some x → ∃ v : Value, ν[x]? = some v ∧ (mv ν m)[s]? = some v) : ∀ {V U : List mI} {wv w' : List Nat}, vLs S m V U = true → vEv ν V wv → vEv (mv ν m) U w' → vLt w' wv
  | p :: V, q :: U, n :: wv, n' :: w', hl, hV, hU => by
    unfold vLs at hl
    obtain ⟨hlen, hl⟩ := Bool.and_eq_true_iff.mp hl
    have hlen : V.length = U.length := by simpa using hlen
    have l1 := vEv_len hV.2
    have l2 := vEv_len hU.2
    refine ⟨by omega, ?_⟩
    obtain ⟨hn, hV2⟩ := hV
    obtain ⟨hn', hU2⟩ := hU
    unfold vIt at hn hn'
    split at hl
    · rename_i e
      obtain ⟨e2, hl⟩ := Bool.and_eq_true_iff.mp hl
      have e2 : q.1 = 0 := by simpa using e2
      rw [if_pos e] at hn
      rw [if_pos e2] at hn'
      split at hl
      · left; omega
      · obtain ⟨e3, hl⟩ := Bool.and_eq_true_iff.mp hl
        have e3 := of_decide_eq_true e3
        right
        exact ⟨by omega, vLs_ok hA H hl hV2 hU2⟩
    · rename_i e
      obtain ⟨e2, hl⟩ := Bool.and_eq_true_iff.mp hl
      have e2 : p.1 = q.1 := by simpa using e2
      obtain ⟨e3, hl⟩ := Bool.and_eq_true_iff.mp hl
      have e3 := of_decide_eq_true e3
      rw [if_neg e] at hn
      rw [if_neg (by omega)] at hn'
      split at hl
      · rename_i x ex
        obtain ⟨v, v1, v2⟩ := H _ _ ex
        split at hl
        · rename_i e4
          rw [if_pos e4] at hn
          rw [if_pos (by omega)] at hn'
          obtain ⟨y, y1, y2, y3⟩ := hn
          obtain ⟨z, z1, z2, z3⟩ := hn'
          rw [v2] at z1
          cases z1
          split at hl
          · rename_i e5
            have := dOk_ok hA.1 hA.2.2.2.1 e5 y1 v1
            left; omega
          · obtain ⟨e5, hl⟩ := Bool.and_eq_true_iff.mp hl
            have := dOk_ok hA.1 hA.2.2.2.1 e5 y1 v1
            rcases Nat.lt_or_ge n' n with g | g
            · exact Or.inl g
            · exact Or.inr ⟨by omega, vLs_ok hA H hl hV2 hU2⟩
        · rename_i e4
          rw [if_neg e4] at hn
          rw [if_neg (by omega)] at hn'
          obtain ⟨y, y1, y2, y3⟩ := hn
          obtain ⟨z, z1, z2, z3⟩ := hn'
          rw [v2] at z1
          cases z1
          split at hl
          · rename_i e5
            have := dOk_ok hA.1 hA.2.2.2.1 e5 v1 y1
            left; omega
          · obtain ⟨e5, hl⟩ := Bool.and_eq_true_iff.mp hl
            have := dOk_ok hA.1 hA.2.2.2.1 e5 v1 y1
            rcases Nat.lt_or_ge n' n with g | g
            · exact Or.inl g
            · exact Or.inr ⟨by omega, vLs_ok hA H hl hV2 hU2⟩
      · cases hl
  | [], _, _, _, hl, _, _ => by unfold vLs at hl; cases hl
  | _ :: _, [], _, _, hl, _, _ => by unfold vLs at hl; cases hl
  | _ :: _, _ :: _, [], _, _, hV, _ => hV.elim
  | _ :: _, _ :: _, _ :: _, [], _, _, hU => hU.elim
end vv
/-- where the method may go on when it ends: K says what is known then -/
def gEnd (W : tWd) (Wr : List (Nat × Nat)) (N0 : Int) (hb ub : Nat) (ρ0 : List Nat) (h0 : List zC) (νb : List Value) (K : Nat → sS → Bool) (KK : zK) : Prop := ∀ (k : Nat) (S' : sS), K k S' = true → ∀ (N' : Int) (ρ' : List Nat) (ν' : List Value) (st' : List Value) (h' : List zC) (u' : Nat) (o : zRes), N0 ≤ N' → nExt νb ν' → gA hb ub ρ' ν' S' [] st' h' u' → tHeap W N' ρ' h' → gFr Wr ρ0 h0 h' → gPre hb ρ0 ρ' → exO k st' o → KK o h' u'
def gHeads (zr : zRow) (zi : Nat → zI) (W : tWd) (Wr : List (Nat × Nat)) (N0 : Int) (hb ub : Nat) (ρ0 : List Nat) (h0 : List zC) (νb : List Value) (dd j : Nat) (KK : zK) (Hs : List mHead) (w : Option (List Nat)) : Prop := ∀ x ∈ Hs, ∀ (N' : Int) (ρ' : List Nat) (ν' : List Value) (lv' : List (Nat × Value)) (st' : List Value) (h' : List zC) (u' : Nat) (w' : List Nat), N0 ≤ N' → nExt νb ν' → gA hb ub ρ' ν' x.2.1 lv' st' h' u' → tHeap W N' ρ' h' → gFr Wr ρ0 h0 h' → gPre hb ρ0 ρ' → vEv ν' x.2.2 w' → (∀ wv, w = some wv → vLt w' wv) → zE zr zi dd j x.1 lv' st' h' u' KK
def gVec (ν : List Value) (V : Option (List mI)) (w : Option (List Nat)) : Prop := match V with
  | none => w = none
  | some U => ∃ wv, w = some wv ∧ vEv ν U wv
theorem gVec.ext {ν ν' : List Value} {V : Option (List mI)} {w : Option (List Nat)} (hp : nExt ν ν') (h : gVec ν V w) : gVec ν' V w := by
  unfold gVec at h ⊢
  split
  · exact h
  · obtain ⟨wv, h1, h2⟩ := h
    exact ⟨wv, h1, h2.ext hp⟩
theorem hGo_ok {N : Int} {ρ : List Nat} {ν νb : List Value} {S : sS} {lv : List (Nat × Value)} {st : List Value} {h : List zC} {u dd j : Nat} {KK : zK} {Hs : List mHead} {V : Option (List mI)} {w : Option (List Nat)} {x : mHead}
    (hx : x ∈ Hs) (hg : hGo n0 S V x = true) (hA : gA hb ub ρ ν S lv st h u) (hH : tHeap W N ρ h) (hF : gFr Wr ρ0 h0 h) (hP : gPre hb ρ0 ρ) (hN : N0 ≤ N) (hb2 : nExt νb ν) (hn0 : νb.length ≤ n0) (hV : gVec ν V w)
    (hHd : gHeads zr zi W Wr N0 hb ub ρ0 h0 νb dd j KK Hs w) : zE zr zi dd j x.1 lv st h u KK := by
  unfold hGo at hg
  rcases Bool.or_eq_true_iff.mp hg with hg | hg
  · obtain ⟨h1, h2⟩ := Bool.and_eq_true_iff.mp hg
    obtain ⟨h2, h3⟩ := Bool.and_eq_true_iff.mp h2
    have h1 : x.2.2 = [] := List.isEmpty_iff.mp h1
    have h2 : V = none := Option.isNone_iff_eq_none.mp h2
    have h3 : S = x.2.1 := sSeq_ok h3
    have hw : w = none := by
      rw [h2] at hV
      exact hV
    refine hHd x hx N ρ ν lv st h u [] hN hb2 (by rw [← h3]; exact hA) hH hF hP (by rw [h1]; exact trivial) (fun wv hwv => ?_)
    rw [hw] at hwv
    cases hwv
  obtain ⟨h1, h2⟩ := Bool.and_eq_true_iff.mp hg
  obtain ⟨h2, h3⟩ := Bool.and_eq_true_iff.mp h2
  obtain ⟨hA', H⟩ := mOk_ok hA h2
  have hE : nExt νb (mv ν (mBuild n0 S x.2.1)) := fun s v hs => by
    have hlt : s < n0 := by
      have := (List.getElem?_eq_some_iff.mp hs).1
      omega
    have hm := mSym_ok (List.all_eq_true.mp h1 s (List.mem_range.mpr hlt))
    obtain ⟨v2, e1, e2⟩ := H _ _ hm
    rw [hb2 _ _ hs] at e1
    cases e1
    exact e2
  unfold vDec at h3
  obtain ⟨h4, h5⟩ := Bool.and_eq_true_iff.mp h3
  obtain ⟨w', hw'⟩ := vWf_ok hA H h4
  refine hHd x hx N ρ _ lv st h u w' hN hE hA' hH hF hP hw' (fun wv hwv => ?_)
  subst hwv
  unfold gVec at hV
  split at h5
  · obtain ⟨wv2, e1, e2⟩ := hV
    cases e1
    exact vLs_ok hA H h5 e2 hw'
  · cases hV
end ckB
