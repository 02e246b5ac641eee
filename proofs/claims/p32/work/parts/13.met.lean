/-! ===== from a run for f steps to the contract of a method ===== -/
theorem lv_args_map (τ : Nat → Nat) : ∀ (As : List Value) (k : Nat), lv_args k (As.map (zt τ)) = zlm τ (lv_args k As)
  | [], _ => rfl
  | v :: r, k => by
    show (k, zt τ v) :: lv_args (if (zt τ v).category = 2 then k + 2 else k + 1) (r.map (zt τ)) = _
    rw [zt_cat, lv_args_map τ r]
    rfl
theorem lg_sl_map (τ : Nat → Nat) : ∀ As : List Value, (lg_sl (As.map (zt τ))).length = (lg_sl As).length
  | [] => rfl
  | v :: r => by
    have ih := lg_sl_map τ r
    unfold lg_sl at ih ⊢
    rw [List.map_cons, List.flatMap_cons, List.flatMap_cons, List.length_append, List.length_append, ih, zt_cat]
    by_cases h : v.category = 2
    · rw [if_pos h, if_pos h]; rfl
    · rw [if_neg h, if_neg h]; rfl
theorem zsum_ext {b : Nat} {H T : Heap} (hb : b ≤ H.size) (hz : H.size ≤ T.size) (h : ∀ q : Nat, q < H.size → T[q]? = H[q]?) : zsum b T = zsum b H + ((T.toList.drop H.size).map (fun c => c.slots.size)).sum := by
  have hm : T.toList.take H.size = H.toList := by
    apply List.ext_getElem?
    intro i
    rw [List.getElem?_take, Array.getElem?_toList, Array.getElem?_toList]
    by_cases e : i < H.size
    · rw [if_pos e, h i e]
    · rw [if_neg e, Array.getElem?_eq_none (by omega)]
  have hs : T.toList.drop b = H.toList.drop b ++ T.toList.drop H.size := by
    have e1 : T.toList = H.toList ++ T.toList.drop H.size := by rw [← hm]; exact (List.take_append_drop _ _).symm
    calc T.toList.drop b = (H.toList ++ T.toList.drop H.size).drop b := by rw [← e1]
      _ = _ := List.drop_append_of_le_length (by rw [Array.length_toList]; exact hb)
  unfold zsum
  rw [hs, List.map_append, List.sum_append]
section zMt
variable {p : Program} {l : Launch} {e : Env} {R : Room} {s : State} {m : MethodId} {args : Array Value} {below : List Frame} {meth : Method} {c : Code} {H : Heap} {locs : List Loc} {cells slots : Nat} {Q : State → Prop}
variable {D : va_G} {base : Nat} {τ : Nat → Nat}
theorem z_ret {cc : ByteArray} {ret : Option FieldType} {Qc : Array Value → State → Outcome → State → Prop} {free : Addr → Prop} {i : Instr} {st : List Value} {v : Option Value} {pc n : Nat} {ls : Array Slot} (hx : p.tables.exec = Jvm.exec) (hb : c.code = cc) (hr : meth.sig.returnType = ret) (hlocks : meth.locks = false) (hdg : decode cc pc = .ok (i, n)) (hn : zLen i = 0 ∨ n = zLen i)
    (h : zRt ret i st = some v) (hq : ∀ t : State, t.heap = H → s.WarmedH t.vm → Qc args s (.returned (v.map (zt τ))) t) (hf : ∀ q ∈ locs, free q.base) : W p l e R s m args below meth c H locs cells slots (MQ below Qc args s cells slots free) (F0 m pc ls (st.map (zt τ))) := by
  have hd : zLen i ≠ 0 → decode cc pc = .ok (i, zLen i) := fun q => by
    rcases hn with hn | hn
    · exact absurd hn q
    · rw [← hn]; exact hdg
  unfold zRt at h
  split at h
  · split at h
    · split at h
      · rename_i hnr
        cases h
        exact W.zret hx hb hr hnr hq hf (hd (by simp [zLen])) hlocks
      · cases h
    · cases h
  · split at h
    · cases h
      exact W.lret hx hb hr hq hf (hd (by simp [zLen])) hlocks
    · cases h
  · split at h
    · cases h
      exact W.dret hx hb hr hq hf (hd (by simp [zLen])) hlocks
    · cases h
  · split at h
    · cases h
      exact W.aret hx hb hr (Or.inl ⟨_, rfl⟩) (Or.inr ⟨_, rfl⟩) hq hf (hd (by simp [zLen])) hlocks
    · cases h
      exact W.aret hx hb hr (Or.inl ⟨_, rfl⟩) (Or.inl rfl) hq hf (hd (by simp [zLen])) hlocks
    · cases h
      exact W.aret hx hb hr (Or.inr ⟨_, rfl⟩) (Or.inr ⟨_, rfl⟩) hq hf (hd (by simp [zLen])) hlocks
    · cases h
      exact W.aret hx hb hr (Or.inr ⟨_, rfl⟩) (Or.inl rfl) hq hf (hd (by simp [zLen])) hlocks
    · cases h
  · split at h
    · cases h
      exact W.vret hx hb hr hq hf (hd (by simp [zLen])) hlocks
    · cases h
  · cases h
theorem z_mq {Qc : Array Value → State → Outcome → State → Prop} {XC XC' : String → State → State → Prop} {free : Addr → Prop} {k n mc ms : Nat} {t : State} (h : vx_MQ below Qc XC args s k n free t) (hk : k ≤ mc) (hn : n ≤ ms)
    (hx : ∀ (E : String) (t : State) (L : List Loc), XC E s t → s.WarmedH t.vm → s.sameButNew ({ t with vm := s.vm } : State) L k n → (∀ z ∈ L, free z.base) → XC' E s t) : vx_MQ below Qc XC' args s mc ms free t := by
  obtain ⟨o, h1, h2, h3⟩ := h
  refine ⟨o, h1, h2, ?_⟩
  rcases h3 with ⟨h3, L, ⟨q1, q2, q3⟩, h5⟩ | ⟨q, h3, E, ce, L, g1, g2, g3, g4, g5, g6, g7⟩
  · exact Or.inl ⟨h3, L, ⟨q1, q2, q3.mono hk hn⟩, h5⟩
  · exact Or.inr ⟨q, h3, E, ce, L, hx E t L g1 g5 g6 g7, g2, g3, g4, g5, g6.mono hk hn, g7⟩
end zMt
theorem vx_ofWF {l : Launch} {y : MethodName} {ws ws' : List Cond} {rm : Room} {Pc : Array Value → State → Prop} {Qc : Array Value → State → Outcome → State → Prop} {XC : String → State → State → Prop} {mc ms : Nat} {free : Addr → Prop} {cc : ByteArray} {maxL : Nat} {ret : Option FieldType}
    (hy : plainFor y = true) (hw : ws = Cond.code y cc maxL ret :: ws')
    (body : ∀ p e s m args below meth c s₁, BodyLoose p l y (headSpec ws rm) cc maxL ret e s m args below meth c s₁ → c.maxLocals = maxL → (∀ x ∈ c.exceptionTable.toList, False) → Pc args s →
      W p l e (headSpec ws rm).room s m args below meth c s.heap [] 0 0 (vx_MQ below Qc XC args s mc ms free) (entryFrame m args maxL)) : vx_Met l y ws rm Pc Qc XC mc ms free := by
  refine MetFree.of_bodySF (code := cc) (maxLocals := maxL) (ret := ret) hy ?_ ?_
  · intro args s m h hn
    obtain ⟨meth, c, h1, h2, h3, h4, h5, h6, -, -⟩ := Cond.code_spec hn (atoms_spec (ws := ws) h _ (by rw [hw]; exact List.mem_cons_self))
    exact ⟨meth, c, h1, h2, h3, h4, h5, h6⟩
  · intro p e s m args below meth c s₁ B hml hP _
    have hh0 : s₁.heap = s.heap := by rw [B.state]; rfl
    have ht : ∀ x ∈ c.exceptionTable.toList, False := by
      obtain ⟨meth9, c9, h1, h2, -, -, -, -, h7, -⟩ := Cond.code_spec B.named (atoms_spec (ws := ws) B.pre _ (by rw [hw]; exact List.mem_cons_self))
      cases Option.some.inj (h1.symm.trans B.method)
      cases Option.some.inj (h2.symm.trans (Stand.of_body B).code)
      intro x hx
      rw [Array.isEmpty_iff.mp h7] at hx
      cases hx
    obtain ⟨t, a1, o, b1, b2, b3⟩ := body p e s m args below meth c s₁ B hml ht hP s₁ hh0 (Stand.of_body B)
    exact ⟨t, o, a1, b1, b2, b3⟩
theorem vx_ofWHF {l : Launch} {y : MethodName} {ws ws' : List Cond} {rm : Room} {Pc : Array Value → State → Prop} {Qc : Array Value → State → Outcome → State → Prop} {XC : String → State → State → Prop} {mc ms : Nat} {free : Addr → Prop} {cc : ByteArray} {maxL : Nat} {ret : Option FieldType} {hh : List (Nat × Nat × Nat × Nat)}
    (hy : plainFor y = true) (hw : ws = Cond.codeWith y cc maxL ret hh :: ws')
    (body : ∀ p e s m args below meth c s₁, BodyLoose p l y (headSpec ws rm) cc maxL ret e s m args below meth c s₁ → c.maxLocals = maxL → Pc args s →
      W p l e (headSpec ws rm).room s m args below meth c s.heap [] 0 0 (vx_MQ below Qc XC args s mc ms free) (entryFrame m args maxL)) : vx_Met l y ws rm Pc Qc XC mc ms free := by
  refine MetFree.of_bodySF (code := cc) (maxLocals := maxL) (ret := ret) hy ?_ ?_
  · intro args s m h hn
    obtain ⟨m9, meth, c, hn9, h1, h2, h3, h4, -, h5, h6, -⟩ := Cond.codeWith_spec (atoms_spec (ws := ws) h _ (by rw [hw]; exact List.mem_cons_self))
    cases hn.symm.trans hn9
    exact ⟨meth, c, h1, h2, h3, h4, h5, h6⟩
  · intro p e s m args below meth c s₁ B hml hP _
    have hh0 : s₁.heap = s.heap := by rw [B.state]; rfl
    obtain ⟨t, a1, o, b1, b2, b3⟩ := body p e s m args below meth c s₁ B hml hP s₁ hh0 (Stand.of_body B)
    exact ⟨t, o, a1, b1, b2, b3⟩
set_option maxHeartbeats 1000000 in
theorem z_met {l : Launch} {zr : zRow} {zi : Nat → zI} (hV : zVal l zr zi) (f : Nat) (hsim : zSimAt l zr zi f) {D : va_G} {base : Nat} {τ : Nat → Nat} (hτ : zTau base τ) {d j : Nat} {As : List Value} {h : List zC} {u : Nat} {K : zK}
    (hw : zW zr zi f d j 0 (lv_args 0 As) [] h u K) (hlg : (lg_sl As).length ≤ zMl (zi j)) : zCtr l zi D base τ d j As h u K := by
  have hvm : zVm zi j := by
    refine hV.2.1 j (fun q => ?_)
    cases f with
    | zero => exact hw
    | succ f =>
      unfold zW at hw
      rw [q] at hw
      exact hw
  have body : ∀ p e s m args below meth c s₁, BodyLoose p l (zYn (zi j)) (headSpec (zCw (zi j) :: zT) (zRm d h u)) (zBy (zi j)) (zMl (zi j)) (zRe (zi j)) e s m args below meth c s₁ → c.maxLocals = zMl (zi j) → c.exceptionTable.toList = tableOf (zHh (zi j)) → zPc D base τ h u As args s →
      W p l e (headSpec (zCw (zi j) :: zT) (zRm d h u)).room s m args below meth c s.heap [] 0 0 (vx_MQ below (zQc D base τ K) (zXc D base τ K) args s (zRm d h u).cells (zRm d h u).slots (zAb base)) (entryFrame m args (zMl (zi j))) := by
    intro p e s m args below meth c s₁ B hml htb hPc
    obtain ⟨rfl, hI, hK, hE, hSt⟩ := hPc
    have hx := B.exec
    have hb := B.bytes
    have hr := B.returns
    have hts0 := atoms_spec (ws := zCw (zi j) :: zT) B.pre
    have hts : ∀ w ∈ zT, w.before (As.map (zt τ)).toArray s = true := fun w hw => hts0 w (List.mem_cons_of_mem _ hw)
    have hown : s.vm.findClass (zYn (zi j)).cls = some m.cls := findClass_of_methodNamed B.named
    have hlocks := B.notSynchronized
    have hnm : meth.name = (zYn (zi j)).name := (name_of_methodNamed B.named B.method).1
    have hI3 : s.heap.size + zro = base + h.length := hI.2.2.1
    have hI2 : zro ≤ h.length := hI.2.1
    have hI5 : h.length ≤ zCM := hI.2.2.2.2.1
    have hI6 : u ≤ zSN := hI.2.2.2.2.2.1
    have hbs : base ≤ s.heap.size := by omega
    have hl := lv_entry (As.map (zt τ)) (n := zMl (zi j)) (by rw [lg_sl_map]; exact hlg)
    rw [lg_entry_eq]
    generalize (lg_sl (As.map (zt τ)) ++ List.replicate (zMl (zi j) - (lg_sl (As.map (zt τ))).length) Slot.unset).toArray = ls at hl ⊢
    rw [lv_args_map] at hl
    have hF : zFx zi p (zRm d h u) s m (As.map (zt τ)).toArray meth c D base τ u j d := ⟨hx, hb, hml, hown, hts, hnm, htb, hK, hE, hτ, hbs, by show base + zCM ≤ (zCM - h.length) + s.heap.size + zro; omega, by show zSN ≤ (zSN - u) + u; omega, Nat.le_refl _, Nat.le_refl _, hI.2.2.2.1, hSt⟩
    refine hsim d j 0 (lv_args 0 As) [] h u K hw p e (zRm d h u) s m _ below meth c s.heap [] 0 0 _ ls D base τ u hF hI va_S.rf (by omega) (by omega) hl ?_ ?_ ?_
    · intro pc i a b st v h' u' H' locs' cells' slots' ls' hrow hrt hKv hI' hS' hc1 hc2
      obtain ⟨⟨n, hdg, hn⟩, -⟩ := hV.1 j pc i a b hrow
      have e3 : H'.size + zro = base + h'.length := hI'.2.2.1
      have e5 : h'.length ≤ zCM := hI'.2.2.2.2.1
      have e6 : u' ≤ zSN := hI'.2.2.2.2.2.1
      refine W.widen (k := (zRm d h u).cells) (n := (zRm d h u).slots) (by show cells' ≤ zCM - h.length; omega) (by show slots' ≤ zSN - u; omega) ?_
      refine vx_ret ?_
      exact z_ret hx hb hr hlocks hdg hn hrt (fun t ht hW => ⟨v, h', u', rfl, hKv, by rw [ht]; exact hI'.moved hW.alike, hS'.F ht⟩) hS'.2.2
    · intro pc E h' u' H' locs' cells' slots' ls' rest q ce hhit hKv hI' hS' hc1 hc2 hce hcv hcl
      have e3 : H'.size + zro = base + h'.length := hI'.2.2.1
      have e5 : h'.length ≤ zCM := hI'.2.2.2.2.1
      have e6 : u' ≤ zSN := hI'.2.2.2.2.2.1
      refine vx_outP hown hlocks ?_ hce hcv hcl (fun t ht hal => ⟨E, h', u', rfl, hKv, by rw [ht]; exact hI'.moved hal, hS'.F ht⟩) hS'.2.2 (by show cells' ≤ zCM - h.length; omega) (by show slots' ≤ zSN - u; omega)
      intro z hz
      rw [htb] at hz
      unfold tableOf zHh at hz
      rw [List.map_map] at hz
      obtain ⟨r, hr1, rfl⟩ := List.mem_map.mp hz
      have hno := List.find?_eq_none.mp hhit r hr1
      by_cases hcov : covers ((fun q : Nat × Nat × Nat × Nat => (⟨q.1, q.2.1, q.2.2.1, q.2.2.2⟩ : ExceptionTableEntry)) (r.1, r.2.1, r.2.2.1, r.2.2.2.1)) pc = true
      · obtain ⟨v1, v2, -⟩ := hvm.2 r hr1
        refine Or.inr ⟨v1, zEx r.2.2.2.2, zWd_ok hts hE v2, hE.2.2.2.2.2.1 E r.2.2.2.2 (fun q => hno ?_)⟩
        have hc9 : (decide (r.1 ≤ pc) && decide (pc < r.2.1)) = true := by
          simpa [covers] using hcov
        rw [hc9, q]
        simp
      · exact Or.inl (by simpa using hcov)
    · intro pc i a b st h' u' H' locs' cells' slots' ls' hrow hkd hst hL hU hKv hI' hS' hc1 hc2 hls
      obtain ⟨-, hv⟩ := hV.1 j pc i a b hrow
      rw [hkd] at hv
      obtain ⟨hv, htb0⟩ := hv
      subst hst
      have e3 : H'.size + zro = base + h'.length := hI'.2.2.1
      have e2 : zro ≤ h'.length := hI'.2.1
      have hbH : base ≤ H'.size := by omega
      have hz16 : zro = 16 := rfl
      intro T hT X
      obtain ⟨t, a1, b1⟩ := hv p e (zRm d h u) s m (As.map (zt τ)).toArray below meth c H' locs' cells' slots' base (cells' + 1) (slots' + 6) ls' [] (zQc D base τ K) (fun E st t => E = zEx (a - 1000) ∧ s.vm.Alike t.vm ∧ H'.size ≤ t.heap.size ∧ ∀ q : Nat, q < H'.size → t.heap[q]? = H'[q]?) hx hb hown hts hE hS' htb (hls.trans hml.symm) rfl
        (by show 16 ≤ zFr d; unfold zFr; omega) (by show 400 ≤ zLo d; unfold zLo; omega) (by show cells' + 1 ≤ zCM - h.length; omega) (by show slots' + 6 ≤ zSN - u; omega) hlocks (fun t q1 q2 q3 => ⟨rfl, q1, q2, q3⟩) (Nat.le_refl _) (Nat.le_refl _) T hT X
      refine ⟨t, a1, z_mq b1 (by show cells' + 1 ≤ zCM - h.length; omega) (by show slots' + 6 ≤ zSN - u; omega) ?_⟩
      intro E t L ⟨q0, q1, q2, q3⟩ hW hsm hfr
      have hsz : t.heap.size ≤ s.heap.size + (cells' + 1) := hsm.2.2.1
      have hsl : ((t.heap.toList.drop s.heap.size).map (fun c => c.slots.size)).sum ≤ slots' + 6 := hsm.2.2.2.2.1
      have hsp : zsum base t.heap = zsum base s.heap + ((t.heap.toList.drop s.heap.size).map (fun c => c.slots.size)).sum := zsum_split (b := base) (T := ({ t with vm := s.vm } : State)) hbs hsm
      have hsx := zsum_ext hbH q2 q3
      rw [hI.2.2.2.1] at hsp
      rw [hI'.2.2.2.1] at hsx
      refine ⟨a - 1000, h' ++ List.replicate (t.heap.size - H'.size) (98, []), u' + (zsum base t.heap - u'), q0.symm, hKv _ _ (by omega) (by omega), ?_, ?_⟩
      · have e7 := hI'.2.2.2.2.2.2
        refine ⟨fun k ck hk => ?_, by simp; omega, by simp; omega, by omega, by simp; omega, by omega, fun k ck hk hnf => ?_⟩
        rotate_left
        · have hj2 : k < h'.length := by
            have q : ¬ (h'.length ≤ k) := fun q => hnf ⟨by omega, by omega⟩
            omega
          rw [List.getElem?_append_left hj2] at hk
          exact e7 k ck hk hnf
        rcases Nat.lt_or_ge k h'.length with e | e
        · rw [List.getElem?_append_left e] at hk
          by_cases hf : zfr k
          · refine ((hI'.1 k ck hk).kept (q3 _ ?_)).moved q1
            rcases Nat.lt_or_ge k zro with e4 | e4
            · have := hτ.2.1 k e4 hf; omega
            · have := hτ.1 k e4; omega
          · exact zAt.free (e7 k ck hk hf)
        · rw [List.getElem?_append_right e] at hk
          have h9 := List.mem_of_getElem? hk
          rw [List.mem_replicate] at h9
          rw [h9.2]
          exact trivial
      · exact ⟨Nat.le_trans hS'.1 q2, fun q h1 h2 => by rw [q3 q (Nat.lt_of_lt_of_le h1 hS'.1)]; exact hS'.2.1 q h1 h2⟩
  unfold zCtr
  by_cases hemp : (zTb (zi j)).isEmpty = true
  · have e0 : zTb (zi j) = [] := List.isEmpty_iff.mp hemp
    refine vx_ofWF (cc := zBy (zi j)) (maxL := zMl (zi j)) (ret := zRe (zi j)) (ws' := zT) hvm.1 (by unfold zCw; rw [if_pos hemp]) (fun p e s m args below meth c s₁ B hml htab hPc => body p e s m args below meth c s₁ B hml ?_ hPc)
    unfold zHh
    rw [e0]
    exact List.eq_nil_iff_forall_not_mem.mpr htab
  · refine vx_ofWHF (cc := zBy (zi j)) (maxL := zMl (zi j)) (ret := zRe (zi j)) (hh := zHh (zi j)) (ws' := zT) hvm.1 (by unfold zCw; rw [if_neg hemp]) (fun p e s m args below meth c s₁ B hml hPc => body p e s m args below meth c s₁ B hml ?_ hPc)
    refine vx_table (x := zYn (zi j)) (bytes := zBy (zi j)) (maxL' := zMl (zi j)) (ret' := zRe (zi j)) B ?_
    have h9 := atoms_spec (ws := zCw (zi j) :: zT) B.pre _ List.mem_cons_self
    unfold zCw at h9
    rw [if_neg hemp] at h9
    exact h9
