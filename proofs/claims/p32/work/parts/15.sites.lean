/-! ===== the places of calls, kind by kind ===== -/
theorem zGood_in {w : Cond} (h : w ∈ zT) : GoodIn zT (w :: zT) := fun x hx => by
  have h1 : x ∈ zT := by
    rcases List.mem_cons.mp hx with e | e
    · rw [e]; exact h
    · exact e
  exact ⟨h1, good_of_word (List.all_eq_true.mp zT_good x h1)⟩
theorem zCw_code {x : zI} (h : (zTb x).isEmpty = true) : zCw x = .code (zYn x) (zBy x) (zMl x) (zRe x) := by
  unfold zCw
  rw [if_pos h]
theorem zCw_with {x : zI} (h : (zTb x).isEmpty = false) : zCw x = .codeWith (zYn x) (zBy x) (zMl x) (zRe x) (zHh x) := by
  unfold zCw
  rw [if_neg (by rw [h]; decide)]
abbrev zNoH (C : String) : Prop := C ≠ "java/lang/invoke/MethodHandle" ∧ C ≠ "java/lang/invoke/VarHandle"
abbrev zPar (x : zI) (n : Nat) : Prop := (parseMethodDescriptor (zYn x).desc).map (fun d => d.parameters.length) = some n
theorem zSite_S {l : Launch} {zi : Nat → zI} {j x a b : Nat} (h0 : (zTb (zi a)).isEmpty = true) (h1 : zCw (zi a) ∈ zT) (h2 : Cond.initialized (zYn (zi a)).cls ∈ zT) (h3 : Cond.static (zYn (zi a)) ∈ zT) (h4 : Cond.methodLink (zYn (zi j)).cls x (zYn (zi a)) ∈ zT) (h5 : zNoH (zYn (zi a)).cls) (h6 : zPar (zi a) (zNp (zi a))) : zSite l zi j (.invokestatic x) a b := by
  intro p e R s m args below meth c H locs cells slots pc base ls As rest rm Pc Qc XC free hx hb hml hown hts hE hdg hls hlen hsum hM hbl hP hfr hlo hce hsl hrc
  exact vx_runS (As := As) (rest := rest) (index := x) (Ts := zT) (n := zNp (zi a)) ⟨hx, hb, hml, hown, hts⟩ hM ⟨callB_of (zNp (zi a)) hts (zGood_in h1) (by rw [zCw_code h0]) rfl rfl (hts _ h2) (hts _ h4) ⟨h5.1, h5.2, h6⟩ ⟨hfr, hlo⟩, hts _ h3⟩ ⟨hbl, hP⟩ rfl hlen hls rfl (lv_room hsum) hdg ⟨hce, hsl⟩
theorem zSite_SN {l : Launch} {zi : Nat → zI} {j x a b : Nat} {host : String} (h0 : (zTb (zi a)).isEmpty = true) (h1 : zCw (zi a) ∈ zT) (h2 : Cond.initialized (zYn (zi a)).cls ∈ zT) (h3 : Cond.static (zYn (zi a)) ∈ zT) (h4 : Cond.methodLinkNest (zYn (zi j)).cls x (zYn (zi a)) host ∈ lw_tbl) (h5 : zNoH (zYn (zi a)).cls) (h6 : zPar (zi a) (zNp (zi a))) : zSite l zi j (.invokestatic x) a b := by
  intro p e R s m args below meth c H locs cells slots pc base ls As rest rm Pc Qc XC free hx hb hml hown hts hE hdg hls hlen hsum hM hbl hP hfr hlo hce hsl hrc
  exact vx_runSN (host := host) (As := As) (rest := rest) (index := x) (Ts := zT) (n := zNp (zi a)) ⟨hx, hb, hml, hown, hts⟩ hM ⟨va_cnB (zNp (zi a)) hts (zGood_in h1) (by rw [zCw_code h0]) rfl rfl (hE.2.1 _ h4 rfl) (hts _ h2) ⟨h5.1, h5.2, h6⟩ ⟨hfr, hlo⟩, hts _ h3, trivial⟩ ⟨hbl, hP⟩ rfl hlen hls rfl (lv_room hsum) hdg ⟨hce, hsl⟩
theorem zSite_SX {l : Launch} {zi : Nat → zI} {j x a b : Nat} (h0 : (zTb (zi a)).isEmpty = false) (h1 : zCw (zi a) ∈ zT) (h2 : Cond.initialized (zYn (zi a)).cls ∈ zT) (h3 : Cond.static (zYn (zi a)) ∈ zT) (h4 : Cond.methodLink (zYn (zi j)).cls x (zYn (zi a)) ∈ zT) (h5 : zNoH (zYn (zi a)).cls) (h6 : zPar (zi a) (zNp (zi a))) : zSite l zi j (.invokestatic x) a b := by
  intro p e R s m args below meth c H locs cells slots pc base ls As rest rm Pc Qc XC free hx hb hml hown hts hE hdg hls hlen hsum hM hbl hP hfr hlo hce hsl hrc
  refine vx_runSX (hh := zHh (zi a)) (bytes := zBy (zi a)) (maxL := zMl (zi a)) (ret := zRe (zi a)) (As := As) (rest := rest) (index := x) (Ts := zT) (n := zNp (zi a)) ⟨hx, hb, hml, hown, hts⟩ hM ⟨⟨rfl, rfl, hfr, hlo, pay_in hts (zGood_in h1), by rw [zCw_with h0]; exact List.mem_cons_self⟩, by rw [← zCw_with h0]; exact hts _ h1, hts _ h2, h5, fun sig h => ?_, hts _ h4, hts _ h3⟩ ⟨hbl, hP⟩ rfl hlen hls rfl (lv_room hsum) hdg ⟨hce, hsl⟩
  have h7 : (parseMethodDescriptor (zYn (zi a)).desc).map (fun d => d.parameters.length) = some (zNp (zi a)) := h6
  rw [h] at h7
  exact (Option.some.inj h7).symm
theorem zSite_V {l : Launch} {zi : Nat → zI} {j x a b n : Nat} (hb1 : b / 10 ≠ 0) (h0 : (zTb (zi a)).isEmpty = true) (h1 : zCw (zi a) ∈ zT) (h2 : Cond.initialized (zYn (zi a)).cls ∈ zT) (h3 : Cond.instanceMethod (zYn (zi a)) ∈ zT) (h7 : Cond.selects (zNm (b / 10 - 1)) (zYn (zi a)) (zYn (zi a)) ∈ zT) (h4 : Cond.methodLink (zYn (zi j)).cls x (zYn (zi a)) ∈ zT) (h5 : zNoH (zYn (zi a)).cls) (h6 : zPar (zi a) n) (hn : n + 1 = zNp (zi a)) : zSite l zi j (.invokevirtual x) a b := by
  intro p e R s m args below meth c H locs cells slots pc base ls As rest rm Pc Qc XC free hx hb hml hown hts hE hdg hls hlen hsum hM hbl hP hfr hlo hce hsl hrc
  rcases hrc with hrc | ⟨q, As2, cellB, r, rfl, hq, hst, hr, hcl, -⟩
  · exact absurd hrc hb1
  · rw [zNm_of hr] at h7
    exact vx_runV (C := r.1) (b := q) (As := As2) (rest := rest) (index := x) (Ts := zT) (n := n) (g := F0 m pc ls ((Value.ref q :: As2).reverse ++ rest)) ⟨hx, hb, hml, hown, hts⟩ hM ⟨callB_of n hts (zGood_in h1) (by rw [zCw_code h0]) rfl rfl (hts _ h2) (hts _ h4) ⟨h5.1, h5.2, h6⟩ ⟨hfr, hlo⟩, hts _ h3, hts _ h7⟩ ⟨hbl, ⟨cellB, hq, hst, hcl⟩, hP⟩ rfl (by simp at hlen; omega) hls (by rw [List.reverse_cons, List.append_assoc]; rfl) (lv_room hsum) hdg ⟨hce, hsl⟩
theorem zSite_I {l : Launch} {zi : Nat → zI} {j x a b n : Nat} (hb1 : b / 10 ≠ 0) (h0 : (zTb (zi a)).isEmpty = true) (h1 : zCw (zi a) ∈ zT) (h2 : Cond.initialized (zYn (zi a)).cls ∈ zT) (h3 : Cond.instanceMethod (zYn (zi a)) ∈ zT) (h4 : Cond.methodLink (zYn (zi j)).cls x (zYn (zi a)) ∈ zT) (h8 : (zYn (zi a)).name = "<init>") (h9 : zRe (zi a) = none) (h5 : zNoH (zYn (zi a)).cls) (h6 : zPar (zi a) n) (hn : n + 1 = zNp (zi a)) : zSite l zi j (.invokespecial x) a b := by
  intro p e R s m args below meth c H locs cells slots pc base ls As rest rm Pc Qc XC free hx hb hml hown hts hE hdg hls hlen hsum hM hbl hP hfr hlo hce hsl hrc
  rcases hrc with hrc | ⟨q, As2, cellB, r, rfl, hq, hst, hr, hcl, -⟩
  · exact absurd hrc hb1
  · exact vx_runI (b := q) (As := As2) (rest := rest) (index := x) (Ts := zT) (n := n) (g := F0 m pc ls ((Value.ref q :: As2).reverse ++ rest)) ⟨hx, hb, hml, hown, hts⟩ hM (cwI n hts (zGood_in h1) (by rw [zCw_code h0, h9]) rfl rfl (hts _ h2) (hts _ h4) (hts _ h3) h8 ⟨h5.1, h5.2, h6⟩ ⟨hfr, hlo⟩) ⟨hbl, hP⟩ rfl (by simp at hlen; omega) hls (by rw [List.reverse_cons, List.append_assoc]; rfl) (lv_room hsum) hdg ⟨hce, hsl⟩
theorem zSite_IN {l : Launch} {zi : Nat → zI} {j x a b n : Nat} {host : String} (hb1 : b / 10 ≠ 0) (h0 : (zTb (zi a)).isEmpty = true) (h1 : zCw (zi a) ∈ zT) (h2 : Cond.initialized (zYn (zi a)).cls ∈ zT) (h3 : Cond.instanceMethod (zYn (zi a)) ∈ zT) (h4 : Cond.methodLinkNest (zYn (zi j)).cls x (zYn (zi a)) host ∈ lw_tbl) (h8 : (zYn (zi a)).name = "<init>") (h9 : zRe (zi a) = none) (h5 : zNoH (zYn (zi a)).cls) (h6 : zPar (zi a) n) (hn : n + 1 = zNp (zi a)) : zSite l zi j (.invokespecial x) a b := by
  intro p e R s m args below meth c H locs cells slots pc base ls As rest rm Pc Qc XC free hx hb hml hown hts hE hdg hls hlen hsum hM hbl hP hfr hlo hce hsl hrc
  rcases hrc with hrc | ⟨q, As2, cellB, r, rfl, hq, hst, hr, hcl, -⟩
  · exact absurd hrc hb1
  · exact vx_runIN (host := host) (b := q) (As := As2) (rest := rest) (index := x) (Ts := zT) (n := n) (g := F0 m pc ls ((Value.ref q :: As2).reverse ++ rest)) ⟨hx, hb, hml, hown, hts⟩ hM ⟨va_cnB n hts (zGood_in h1) (by rw [zCw_code h0, h9]) rfl rfl (hE.2.1 _ h4 rfl) (hts _ h2) ⟨h5.1, h5.2, h6⟩ ⟨hfr, hlo⟩, h8, hts _ h3⟩ ⟨hbl, hP⟩ rfl (by simp at hlen; omega) hls (by rw [List.reverse_cons, List.append_assoc]; rfl) (lv_room hsum) hdg ⟨hce, hsl⟩
theorem zSite_F {l : Launch} {zi : Nat → zI} {j x cnt a b n : Nat} {nm ds : String} (hb1 : b / 10 ≠ 0) (hb2 : zNm (b / 10 - 1) = "java/util/ArrayList") (hnm : (nm, ds) ∈ zIm) (hy : zYn (zi a) = zAr nm ds) (h0 : (zTb (zi a)).isEmpty = true) (h1 : zCw (zi a) ∈ zT) (h2 : Cond.initialized "java/util/ArrayList" ∈ zT) (h3 : Cond.instanceMethod (zAr nm ds) ∈ zT) (h7 : Cond.selects "java/util/ArrayList" (zLi nm ds) (zAr nm ds) ∈ zT) (h4 : Cond.methodLink (zYn (zi j)).cls x (zLi nm ds) ∈ zT) (h6 : zPar (zi a) n) (hn : n + 1 = zNp (zi a)) : zSite l zi j (.invokeinterface x cnt) a b := by
  intro p e R s m args below meth c H locs cells slots pc base ls As rest rm Pc Qc XC free hx hb hml hown hts hE hdg hls hlen hsum hM hbl hP hfr hlo hce hsl hrc
  rcases hrc with hrc | ⟨q, As2, cellB, r, rfl, hq, hst, hr, hcl, hca⟩
  · exact absurd hrc hb1
  · rw [zNm_of hr] at hb2
    rw [hb2] at hcl hca
    have hF := hE.2.2.2.2.2.2 _ hnm
    have hG : GoodIn zT (va_wsF (zYn (zi j)).cls x "java/util/ArrayList" (zLi nm ds) (zAr nm ds) (zCw (zi a) :: zT)) := by
      intro w hw
      unfold va_wsF at hw
      have hz : w ∈ zT := by
        rcases List.mem_append.mp hw with hw | hw
        · simp only [List.mem_cons, List.not_mem_nil, or_false] at hw
          rcases hw with rfl | rfl | rfl | rfl
          · exact h4
          · exact h7
          · exact h3
          · exact h2
        · exact (zGood_in h1 w hw).1
      exact ⟨hz, good_of_word (List.all_eq_true.mp zT_good w hz)⟩
    rw [hy] at hM
    have hpar : (parseMethodDescriptor (zLi nm ds).desc).map (fun d => d.parameters.length) = some n := by
      have z : zPar (zi a) n := h6
      unfold zPar at z
      rw [hy] at z
      exact z
    exact vx_runF (C := "java/util/ArrayList") (cC := cellB.cls) (x := zLi nm ds) (y := zAr nm ds) (bytes := zBy (zi a)) (maxL := zMl (zi a)) (ret := zRe (zi a)) (b := q) (As := As2) (rest := rest) (index := x) (count := cnt) (Ts := zT) (n := n) (g := F0 m pc ls ((Value.ref q :: As2).reverse ++ rest)) hca ⟨hx, hb, hml, hown, hts⟩ hM
      (va_cwF n hts hG (by rw [zCw_code h0, hy]) rfl rfl hF ⟨by simp [zLi], by simp [zLi], hpar⟩ ⟨hfr, hlo⟩) ⟨hbl, ⟨cellB, hq, hst, hcl⟩, hP⟩ rfl (by simp at hlen; omega) hls (by rw [List.reverse_cons, List.append_assoc]; rfl) (lv_room hsum) hdg ⟨hce, hsl⟩
theorem zSite_SU {l : Launch} {zi : Nat → zI} {j x a b n : Nat} (hb1 : b / 10 ≠ 0) (h0 : (zTb (zi a)).isEmpty = true) (h1 : zCw (zi a) ∈ zT) (h2 : Cond.initialized (zYn (zi a)).cls ∈ zT) (h3 : Cond.instanceMethod (zYn (zi a)) ∈ zT) (h4 : Cond.methodLink (zYn (zi j)).cls x (zYn (zi a)) ∈ zT) (h7 : Cond.sameMethod (zYn (zi a)).cls (zYn (zi a)).cls (zYn (zi a)).name (zYn (zi a)).desc ∈ zT) (h8 : Cond.superclass (zYn (zi j)).cls (zYn (zi a)).cls ∈ zT) (h9 : (zYn (zi a)).name ≠ "<init>") (h6 : zPar (zi a) n) (hn : n + 1 = zNp (zi a)) : zSite l zi j (.invokespecial x) a b := by
  intro p e R s m args below meth c H locs cells slots pc base ls As rest rm Pc Qc XC free hx hb hml hown hts hE hdg hls hlen hsum hM hbl hP hfr hlo hce hsl hrc
  rcases hrc with hrc | ⟨q, As2, cellB, r, rfl, hq, hst, hr, hcl, hca⟩
  · exact absurd hrc hb1
  · have hG : GoodIn zT (va_wsSU (zYn (zi j)).cls x (zYn (zi a)) (zCw (zi a) :: zT)) := by
      intro w hw
      unfold va_wsSU at hw
      have hz : w ∈ zT := by
        rcases List.mem_append.mp hw with hw | hw
        · simp only [List.mem_cons, List.not_mem_nil, or_false] at hw
          rcases hw with rfl | rfl | rfl | rfl | rfl
          · exact h4
          · exact h7
          · exact h8
          · exact h3
          · exact h2
        · exact (zGood_in h1 w hw).1
      exact ⟨hz, good_of_word (List.all_eq_true.mp zT_good w hz)⟩
    exact vx_runSU (C := r.1) (cC := cellB.cls) (y := zYn (zi a)) (bytes := zBy (zi a)) (maxL := zMl (zi a)) (ret := zRe (zi a)) (b := q) (As := As2) (rest := rest) (index := x) (Ts := zT) (n := n) (g := F0 m pc ls ((Value.ref q :: As2).reverse ++ rest)) hca ⟨hx, hb, hml, hown, hts⟩ hM
      (va_cwSU n hts hG (by rw [zCw_code h0]) rfl rfl ⟨h9, h6⟩ ⟨hfr, hlo⟩) ⟨hbl, ⟨cellB, hq, hst, hcl⟩, hP⟩ rfl (by simp at hlen; omega) hls (by rw [List.reverse_cons, List.append_assoc]; rfl) (lv_room hsum) hdg ⟨hce, hsl⟩
