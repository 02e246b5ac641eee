/-! ===== a run for f + 1 steps ===== -/
theorem zLen_call {i : Instr} {a b : Nat} (h : zKd i a b = 3) : zLen i ≠ 0 := by
  unfold zKd at h
  split at h <;> first | (simp [zLen]; done) | (exact absurd h (by decide)) | skip
theorem zLen_const {i : Instr} {a b : Nat} (h : zKd i a b = 7) : zLen i ≠ 0 := by
  unfold zKd at h
  split at h <;> first | (simp [zLen]; done) | (exact absurd h (by decide)) | skip
theorem lv_drop1 {ls : Array Slot} {nL : Nat} {l : List (Nat × Value)} {q : Nat × Value} (h : lv_has ls nL (q :: l)) : lv_has ls nL l := ⟨h.1, h.2.1, fun x hx => h.2.2 x (List.mem_cons_of_mem _ hx)⟩
set_option maxHeartbeats 2000000 in
theorem z_step {l : Launch} {zr : zRow} {zi : Nat → zI} (hV : zVal l zr zi) (f : Nat) (hsim : zSimAt l zr zi f) : zSimAt l zr zi (f + 1) := by
  intro d j pc lv st h u K hw p e R s m args below meth c H locs cells slots Q ls D base τ u0 hF hI hS hc1 hc2 hl kr kx kb
  obtain ⟨hx, hb, hml, hown, hts, hnm, htb, hK, hE, hτ, hbs, hR1, hR2, hRf, hRl, hu0, hSt⟩ := id hF
  unfold zW at hw
  split at hw
  · exact hw.elim
  · rename_i i a b hrow
    obtain ⟨⟨n, hdg, hn⟩, hv⟩ := hV.1 j pc i a b hrow
    split at hw
    · split at hw
      · rename_i pc' lv' st' hp
        exact zP_ok hx hb hdg hn hl hp (fun ls' hl' => hsim d j pc' lv' st' h u K hw p e R s m args below meth c H locs cells slots Q ls' D base τ u0 hF hI hS hc1 hc2 hl' kr kx kb)
      · exact hw.elim
    · rename_i hk
      rw [hk] at hv
      split at hw
      · rename_i pc' st' h' hg
        exact zG_ok hx hb hown hts hK hτ hE.1 hnm hdg hn (fun w hw1 => zWd_ok hts hE (hv.1 w hw1)) hv.2 hI hS hg (fun H1 locs1 hI1 hS1 hz1 => hsim d j pc' lv st' h' u K hw p e R s m args below meth c H1 locs1 cells slots Q ls D base τ u0 hF hI1 hS1 (by rw [hz1]; exact hc1) hc2 hl kr kx kb)
      · exact hw.elim
    · rename_i hk
      rw [hk] at hv
      split at hw
      · rename_i pc' st' h' u' hg
        exact zMk_ok hx hb hown hts hK hτ hdg hn (fun w hw1 => zWd_ok hts hE (hv w hw1)) hbs hc1 hc2 hR1 hR2 hI hS hg (fun H1 cells1 slots1 hI1 hS1 q1 q2 => hsim d j pc' lv st' h' u' K hw p e R s m args below meth c H1 locs cells1 slots1 Q ls D base τ u0 hF hI1 hS1 q1 q2 hl kr kx kb)
      · exact hw.elim
    · rename_i hk
      rw [hk] at hv
      have hdg2 : decode (zBy (zi j)) pc = .ok (i, zLen i) := by
        rcases hn with q | q
        · exact absurd q (zLen_call (zKe_of hk (by decide)).1)
        · rw [← q]; exact hdg
      obtain ⟨h1, h2, h3, h4, h5, hw⟩ := hw
      split at hw
      · exact hw.elim
      · rename_i d'
        have hctr := z_met hV f hsim (D := D) hτ hw h3
        have hfd : zFr (d' + 1) ≤ R.frames := hRf
        have hld : zLo (d' + 1) ≤ R.locals := hRl
        have hI2 : zro ≤ h.length := hI.2.1
        have hI3 : H.size + zro = base + h.length := hI.2.2.1
        have hI5 : h.length ≤ zCM := hI.2.2.2.2.1
        have hI6 : u ≤ zSN := hI.2.2.2.2.2.1
        have hg1 : zFr d' + 1 ≤ R.frames := by
          have z : zFr (d' + 1) = zFr d' + 1 := rfl
          rw [z] at hfd
          exact hfd
        have hg2 : 8 + (zMl (zi a) + 11) + zLo d' ≤ R.locals := by
          have z : zLo (d' + 1) = 80 * (d' + 1) + 400 := rfl
          have z2 : zLo d' = 80 * d' + 400 := rfl
          omega
        have hg3 : cells + (zCM - h.length) ≤ R.cells := by omega
        have hg4 : slots + (zSN - u) ≤ R.slots := by omega
        have hrun := hv p e R s m args below meth c H locs cells slots pc base ls ((st.take (zNp (zi a))).reverse.map (zt τ)) ((st.drop (zNp (zi a))).map (zt τ)) (zRm d' h u) _ _ _ _ hx hb hml hown hts hE hdg2 hl.1 (by simp; omega) (by
            rw [List.map_map]
            have e9 : ((fun v => Value.category v) ∘ zt τ) = (fun v => v.category) := funext fun v => zt_cat τ v
            rw [e9]; exact h2) hctr zPc_blind (fun U hU hW => ⟨rfl, by rw [hU]; exact hI.moved hW.alike, va_K.moved hW.alike hK, by rw [hU]; exact (hE.kept (fun q q1 q2 => hS.2.1 q q1 q2)).moved hW, by rw [hU]; exact (hSt.kept (fun q q1 q2 => hS.2.1 q q1 q2)).moved hW⟩)
          hg1 hg2 hg3 hg4 (by
            rcases h5 with h5 | h5
            · exact Or.inl h5
            · split at h5
              · rename_i q As2 heq
                split at h5
                · rename_i c1 hc1
                  obtain ⟨⟨rr, cell, hr, q1, q2, ⟨-, q3, -⟩, q4⟩, -⟩ := (hI.1 q c1 hc1).obj h5.2
                  have hcls := (hK.1 _ _ hr).2
                  refine Or.inr ⟨τ q, As2.map (zt τ), cell, rr, ?_, q1, q3, ?_, by rw [q2]; exact hcls.1, by rw [q2]; exact hcls⟩
                  · rw [heq]; rfl
                  · rw [show b / 10 - 1 = c1.1 by omega]; exact hr
                · exact h5.elim
              · exact h5.elim)
        have est : (((st.take (zNp (zi a))).reverse.map (zt τ)).reverse ++ (st.drop (zNp (zi a))).map (zt τ)) = st.map (zt τ) := by
          rw [List.map_reverse, List.reverse_reverse, ← List.map_append, List.take_append_drop]
        rw [est] at hrun
        refine z_after hrun hS hbs hu0 ?_ ?_
        · intro v h' u' H1 locs1 cells1 slots1 hK1 hI1 hS1 q1 q2
          have hg := hsim (d' + 1) j (pc + zLen i) lv (v.toList ++ st.drop (zNp (zi a))) h' u' K hK1 p e R s m args below meth c H1 locs1 cells1 slots1 Q ls D base τ u0 hF hI1 hS1 q1 q2 hl kr kx kb
          have e8 : (v.toList ++ st.drop (zNp (zi a))).map (zt τ) = (v.map (zt τ)).toList ++ (st.drop (zNp (zi a))).map (zt τ) := by cases v <;> simp
          rw [e8] at hg
          exact hg
        · intro k h' u' H1 locs1 cells1 slots1 q ce hK1 hI1 hS1 q1 q2 hce hcv hcl
          dsimp only at hK1
          unfold zCat at hK1
          cases hhit : zHit (zi j) pc k with
          | none =>
            rw [hhit] at hK1
            exact kx pc k h' u' H1 locs1 cells1 slots1 ls _ q ce hhit hK1 hI1 hS1 q1 q2 hce hcv hcl
          | some r =>
            rw [hhit] at hK1
            dsimp only at hK1
            split at hK1
            · rename_i pc' lv' hcat
              split at hcat
              · rename_i i9 a9 b9 hrow9
                split at hcat
                · rename_i kk nn hast
                  split at hcat
                  · rename_i hkk
                    cases hcat
                    obtain ⟨hrt, pre, suf, hsplit, hpre⟩ := List.find?_eq_some_iff_append.mp hhit
                    obtain ⟨⟨n9, hdg9, hn9⟩, -⟩ := hV.1 j _ _ _ _ hrow9
                    have hvm : zVm zi j := hV.2.1 j (fun z => by
                      have := hw
                      exact absurd z (hV.2.2.1 j pc (by rw [hrow]; exact fun z => nomatch z)))
                    have hmem : r ∈ zTb (zi j) := by
                      have := List.mem_of_find?_eq_some hhit
                      exact this
                    obtain ⟨v1, v2, v3⟩ := hvm.2 r hmem
                    have hr3 : (decide (r.1 ≤ pc) && decide (pc < r.2.1)) = true ∧ zEx r.2.2.2.2 = zEx k := by
                      have z := hrt
                      rw [Bool.and_eq_true] at z
                      exact ⟨z.1, of_decide_eq_true z.2⟩
                    refine vx_catch (own := (zYn (zi j)).cls) (name := zEx r.2.2.2.2) (E := zEx k) hown (pre.map (fun r => (⟨r.1, r.2.1, r.2.2.1, r.2.2.2.1⟩ : ExceptionTableEntry))) ⟨r.1, r.2.1, r.2.2.1, r.2.2.2.1⟩ (suf.map (fun r => (⟨r.1, r.2.1, r.2.2.1, r.2.2.2.1⟩ : ExceptionTableEntry))) ?_ ?_ ?_ v1 (zWd_ok hts hE v2) (by rw [← hr3.2]; exact zWd_ok hts hE v3) hce hcv hcl ?_
                    · rw [htb]
                      unfold tableOf zHh
                      have hsp2 : zTb (zi j) = pre ++ r :: suf := hsplit
                      rw [hsp2, List.map_map, List.map_append, List.map_cons]
                      rfl
                    · intro z hz
                      obtain ⟨r2, hr2, rfl⟩ := List.mem_map.mp hz
                      have hno := hpre r2 hr2
                      have hm2 : r2 ∈ zTb (zi j) := by
                        have hsp2 : zTb (zi j) = pre ++ r :: suf := hsplit
                        rw [hsp2]
                        exact List.mem_append_left _ hr2
                      obtain ⟨w1, w2, -⟩ := hvm.2 r2 hm2
                      by_cases hcov : covers (⟨r2.1, r2.2.1, r2.2.2.1, r2.2.2.2.1⟩ : ExceptionTableEntry) pc = true
                      · refine Or.inr ⟨w1, zEx r2.2.2.2.2, zWd_ok hts hE w2, hE.2.2.2.2.2.1 k r2.2.2.2.2 (fun z => ?_)⟩
                        have hc9 : (decide (r2.1 ≤ pc) && decide (pc < r2.2.1)) = true := by
                          simpa [covers] using hcov
                        rw [hc9, z] at hno
                        simp at hno
                      · exact Or.inl (by simpa using hcov)
                    · simpa [covers] using hr3.1
                    · rcases zAst_inv hast with ⟨rfl, rfl⟩ | ⟨q9, rfl, rfl, rfl⟩
                      · have hn92 : n9 = 2 := by
                          rcases hn9 with z | z
                          · exact absurd z (by simp [zLen])
                          · exact z
                        subst hn92
                        refine lv_astore hx hb hdg9 hl hkk rfl (fun ls' hl' => ?_)
                        have hl2 := lv_drop1 hl'
                        have e7 : (zlm τ lv).filter (fun q => !(q.1 == kk) && !(q.1 + 1 == kk && q.2.category == 2)) = zlm τ ((zs1 lv kk .null).drop 1) := by
                          have := zlm_filter τ (fun a b => !(a == kk) && !(a + 1 == kk && b == 2)) lv
                          rw [this]
                          rfl
                        rw [e7] at hl2
                        exact hsim (d' + 1) j _ _ [] h' u' K hK1 p e R s m args below meth c H1 locs1 cells1 slots1 Q ls' D base τ u0 hF hI1 hS1 q1 q2 hl2 kr kx kb
                      · have hn92 : n9 = 1 := by
                          rcases hn9 with z | z
                          · exact absurd z (by simp [zLen])
                          · exact z
                        subst hn92
                        refine lv_astore_n hx hb hdg9 rfl hl hkk rfl (fun ls' hl' => ?_)
                        have hl2 := lv_drop1 hl'
                        have e7 : (zlm τ lv).filter (fun q => !(q.1 == q9.val) && !(q.1 + 1 == q9.val && q.2.category == 2)) = zlm τ ((zs1 lv q9.val .null).drop 1) := by
                          have := zlm_filter τ (fun a b => !(a == q9.val) && !(a + 1 == q9.val && b == 2)) lv
                          rw [this]
                          rfl
                        rw [e7] at hl2
                        exact hsim (d' + 1) j _ _ [] h' u' K hK1 p e R s m args below meth c H1 locs1 cells1 slots1 Q ls' D base τ u0 hF hI1 hS1 q1 q2 hl2 kr kx kb
                  · cases hcat
                · cases hcat
              · cases hcat
            · rename_i hcat
              split at hcat
              · split at hcat
                · split at hcat <;> cases hcat
                · cases hcat
              · cases hcat
            · exact hK1.elim
    · split at hw
      · rename_i v hrt
        exact kr pc i a b st v h u H locs cells slots ls hrow hrt hw hI hS hc1 hc2
      · exact hw.elim
    · rename_i hk
      exact kb pc i a b st h u H locs cells slots ls hrow hk hw.1 hw.2.1 hw.2.2.1 hw.2.2.2 hI hS hc1 hc2 hl.1
    · rename_i hk
      rw [hk] at hv
      obtain ⟨x, rfl, hlink⟩ := hv
      split at hw
      · rename_i q r
        have hn3 : n = 3 := by
          rcases hn with z | z
          · exact absurd z (by simp [zLen])
          · exact z
        subst hn3
        have hld : zLo d ≤ R.locals := hRl
        have hfd : zFr d ≤ R.frames := hRf
        refine W.objInit hx hb hown (zWd_ok hts hE hlink) (zWd_ok hts hE hV.2.2.2.1) (zWd_ok hts hE hV.2.2.2.2) rfl (hl.1.trans hml.symm) rfl hdg (by unfold zFr at hfd; omega) (by
          have e9 : ((r.map (zt τ)).map fun v => v.category).sum ≤ 8 := by
            rw [List.map_map]
            have e9 : ((fun v => Value.category v) ∘ zt τ) = (fun v => v.category) := funext fun v => zt_cat τ v
            rw [e9]; exact hw.1
          have := lv_room (m := m) (pc := pc) (ls := ls) (rest := (Value.ref q :: r).map (zt τ)) e9
          unfold zLo at hld
          exact Nat.le_trans (Nat.add_le_add_right this 12) (by omega)) ?_
        exact hsim d j (pc + 3) lv r h u K hw.2 p e R s m args below meth c H locs cells slots Q ls D base τ u0 hF hI hS hc1 hc2 hl kr kx kb
      · exact hw.elim
    · rename_i hk
      rw [hk] at hv
      have hdg2 : decode (zBy (zi j)) pc = .ok (i, zLen i) := by
        rcases hn with q | q
        · exact absurd q (zLen_const (zKe_of hk (by decide)).1)
        · rw [← q]; exact hdg
      exact hv p e R s m args below meth c H locs cells slots pc base u D τ h Q ls (st.map (zt τ)) hx hb hown hts hE hI hS hτ hSt hdg2 (hsim d j (pc + zLen i) lv (zCo i a b :: st) h u K hw p e R s m args below meth c H locs cells slots Q ls D base τ u0 hF hI hS hc1 hc2 hl kr kx kb)
    · rename_i hk
      rw [hk] at hv
      split at hw
      · rename_i os hg
        have hld : zLo d ≤ R.locals := hRl
        have hfd : zFr d ≤ R.frames := hRf
        exact zX_ok hx hb (hml.trans hl.1.symm) hown hts hK hE.1 hτ hSt hdg hn (fun w hw1 => zWd_ok hts hE (hv w hw1)) (by unfold zFr at hfd; omega) (by unfold zLo at hld; omega) hbs hc1 hc2 hR1 hR2 hI hS hg (fun o ho H1 locs1 cells1 slots1 hI1 hS1 q1 q2 => hsim d j o.1 lv o.2.1 o.2.2.1 o.2.2.2 K (hw o ho) p e R s m args below meth c H1 locs1 cells1 slots1 Q ls D base τ u0 hF hI1 hS1 q1 q2 hl kr kx kb)
      · exact hw.elim
    · exact hw.elim
theorem z_sim {l : Launch} {zr : zRow} {zi : Nat → zI} (hV : zVal l zr zi) : ∀ f, zSimAt l zr zi f
  | 0 => fun d j pc lv st h u K hw => hw.elim
  | f + 1 => z_step hV f (z_sim hV f)
