/-! ===== more places of calls: private methods of a superclass, overriding methods ===== -/
theorem zSel_up {y : MethodName} {s : State} {args : Array Value} (hy : y.cls = "java/lang/AbstractStringBuilder") (h1 : (Cond.selects "java/lang/StringBuilder" ⟨"java/lang/AbstractStringBuilder", "isLatin1", "()Z"⟩ ⟨"java/lang/AbstractStringBuilder", "isLatin1", "()Z"⟩).before args s = true)
    (hpriv : (Cond.privateMethod y).before args s = true) (hinst : (Cond.instanceMethod y).before args s = true) : (Cond.selects "java/lang/StringBuilder" y y).before args s = true := by
  obtain ⟨c, r, m0, hc, -, hm0, -, mk0, hmk0, hni⟩ := Cond.selects_spec (args := args) (first := s) (o := none) (s := s) (idx := []) h1
  obtain ⟨mk, methM, hnamed, hmethM, -, -⟩ := Cond.instanceMethod_spec hinst
  have hno : y.cls ≠ "java/lang/invoke/MethodHandle" ∧ y.cls ≠ "java/lang/invoke/VarHandle" := by rw [hy]; exact ⟨by decide, by decide⟩
  have hfound : s.methodFound? y.cls y.name y.desc = some mk := State.methodFound?_of_named hnamed hno
  have e1 : s.vm.findClass "java/lang/AbstractStringBuilder" = some m0.cls := findClass_of_methodNamed hm0
  have e2 : s.vm.findClass y.cls = some mk.cls := findClass_of_methodNamed hnamed
  rw [hy, e1] at e2
  have hcls : m0.cls = mk.cls := Option.some.inj e2
  have hsel : selectMethod {} s.vm c mk = .method mk := selectMethod_private hmethM (Cond.privateMethod_at hpriv mk methM hnamed hmethM)
  rw [hcls] at hmk0
  simp only [Cond.before, Cond.holds, Cond.value, hc, hfound, hnamed, hsel, hmk0]
  simp
  exact hni
theorem zSite_VP {l : Launch} {zi : Nat → zI} {j x a b n : Nat} (hb1 : b / 10 ≠ 0) (hb2 : zNm (b / 10 - 1) = "java/lang/StringBuilder") (hy : (zYn (zi a)).cls = "java/lang/AbstractStringBuilder") (h0 : (zTb (zi a)).isEmpty = true) (h1 : zCw (zi a) ∈ zT) (h2 : Cond.initialized (zYn (zi a)).cls ∈ zT) (h3 : Cond.instanceMethod (zYn (zi a)) ∈ zT)
    (h7 : Cond.selects "java/lang/StringBuilder" ⟨"java/lang/AbstractStringBuilder", "isLatin1", "()Z"⟩ ⟨"java/lang/AbstractStringBuilder", "isLatin1", "()Z"⟩ ∈ zT) (h8 : zWd (.privateMethod (zYn (zi a)))) (h4 : Cond.methodLink (zYn (zi j)).cls x (zYn (zi a)) ∈ zT) (h6 : zPar (zi a) n) (hn : n + 1 = zNp (zi a)) : zSite l zi j (.invokevirtual x) a b := by
  intro p e R s m args below meth c H locs cells slots pc base ls As rest rm Pc Qc XC free hx hb hml hown hts hE hdg hls hlen hsum hM hbl hP hfr hlo hce hsl hrc
  rcases hrc with hrc | ⟨q, As2, cellB, r, rfl, hq, hst, hr, hcl, -⟩
  · exact absurd hrc hb1
  · rw [zNm_of hr] at hb2
    have hno : zNoH (zYn (zi a)).cls := by rw [hy]; exact ⟨by decide, by decide⟩
    exact vx_runV (C := r.1) (b := q) (As := As2) (rest := rest) (index := x) (Ts := zT) (n := n) (g := F0 m pc ls ((Value.ref q :: As2).reverse ++ rest)) ⟨hx, hb, hml, hown, hts⟩ hM ⟨callB_of n hts (zGood_in h1) (by rw [zCw_code h0]) rfl rfl (hts _ h2) (hts _ h4) ⟨hno.1, hno.2, h6⟩ ⟨hfr, hlo⟩, hts _ h3, by rw [hb2]; exact zSel_up hy (hts _ h7) (zWd_ok hts hE h8) (hts _ h3)⟩ ⟨hbl, ⟨cellB, hq, hst, hcl⟩, hP⟩ rfl (by simp at hlen; omega) hls (by rw [List.reverse_cons, List.append_assoc]; rfl) (lv_room hsum) hdg ⟨hce, hsl⟩
theorem zSite_VO {l : Launch} {zi : Nat → zI} {j x a b n : Nat} {b0 : ByteArray} {m0 : Nat} {r0 : Option FieldType} (hb1 : b / 10 ≠ 0) (hb2 : zNm (b / 10 - 1) = "java/lang/StringBuilder") (h0 : (zTb (zi a)).isEmpty = true) (h1 : zCw (zi a) ∈ zT) (h2 : Cond.initialized (zYn (zi a)).cls ∈ zT) (h3 : Cond.instanceMethod (zYn (zi a)) ∈ zT)
    (h9 : Cond.code ⟨"java/lang/AbstractStringBuilder", "length", "()I"⟩ b0 m0 r0 ∈ zT) (h10 : Cond.instanceMethod ⟨"java/lang/AbstractStringBuilder", "length", "()I"⟩ ∈ zT) (h7 : Cond.selects "java/lang/StringBuilder" ⟨"java/lang/AbstractStringBuilder", "length", "()I"⟩ (zYn (zi a)) ∈ zT) (h8 : Cond.sameMethod "java/lang/AbstractStringBuilder" "java/lang/AbstractStringBuilder" "length" "()I" ∈ zT)
    (h4 : Cond.methodLink (zYn (zi j)).cls x ⟨"java/lang/AbstractStringBuilder", "length", "()I"⟩ ∈ zT) (h6 : n = 0) (hn : n + 1 = zNp (zi a)) : zSite l zi j (.invokevirtual x) a b := by
  intro p e R s m args below meth c H locs cells slots pc base ls As rest rm Pc Qc XC free hx hb hml hown hts hE hdg hls hlen hsum hM hbl hP hfr hlo hce hsl hrc
  rcases hrc with hrc | ⟨q, As2, cellB, r, rfl, hq, hst, hr, hcl, -⟩
  · exact absurd hrc hb1
  · rw [zNm_of hr] at hb2
    have hG : GoodIn zT (va_wsO (zYn (zi j)).cls x r.1 "java/lang/AbstractStringBuilder" ⟨"java/lang/AbstractStringBuilder", "length", "()I"⟩ (zYn (zi a)) (zCw (zi a) :: zT)) := by
      intro w hw
      unfold va_wsO at hw
      rw [hb2] at hw
      have hz : w ∈ zT := by
        rcases List.mem_append.mp hw with hw | hw
        · simp only [List.mem_cons, List.not_mem_nil, or_false] at hw
          rcases hw with rfl | rfl | rfl | rfl | rfl | rfl
          · exact h4
          · exact h8
          · exact h10
          · exact h7
          · exact h3
          · exact h2
        · exact (zGood_in h1 w hw).1
      exact ⟨hz, good_of_word (List.all_eq_true.mp zT_good w hz)⟩
    subst h6
    exact vx_runU (C := r.1) (owner := "java/lang/AbstractStringBuilder") (x := ⟨"java/lang/AbstractStringBuilder", "length", "()I"⟩) (y := zYn (zi a)) (bytes := zBy (zi a)) (maxL := zMl (zi a)) (ret := zRe (zi a)) (b := q) (As := As2) (rest := rest) (index := x) (Ts := zT) (n := 0) (g := F0 m pc ls ((Value.ref q :: As2).reverse ++ rest)) ⟨hx, hb, hml, hown, hts⟩ hM
      (va_cwO 0 hts hG (by rw [zCw_code h0]) rfl rfl h9 ⟨by decide, by decide, by decide +kernel⟩ ⟨hfr, hlo⟩) ⟨hbl, ⟨cellB, hq, hst, hcl⟩, hP⟩ rfl (by simp at hlen; omega) hls (by rw [List.reverse_cons, List.append_assoc]; rfl) (lv_room hsum) hdg ⟨hce, hsl⟩
