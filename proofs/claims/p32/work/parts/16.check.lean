/-! ===== the tables' rows: what is checked of each by counting ===== -/
theorem zWd_T {w : Cond} (h : zWd w) (hx : zxw w = false) : w ∈ zT := by
  rcases h with h | ⟨-, h2⟩
  · exact h
  · rw [hx] at h2; cases h2
theorem zWd_L {w : Cond} (h : zWd w) : w ∈ lw_tbl := h.elim zT_tbl (fun q => q.1)
theorem zCw_x (x : zI) : zxw (zCw x) = false := by
  unfold zCw
  split <;> rfl
theorem zDcd_ok {bytes : ByteArray} {pc : Nat} {i : Instr} (h : zDcd bytes pc i = true) : ∃ n, decode bytes pc = .ok (i, n) ∧ (zLen i = 0 ∨ n = zLen i) := by
  unfold zDcd at h
  split at h
  · rename_i i2 n heq
    obtain ⟨h1, h2⟩ := Bool.and_eq_true_iff.mp h
    refine ⟨n, by rw [heq, of_decide_eq_true h1], ?_⟩
    simpa using h2
  · cases h
theorem zNoHb_ok {C : String} (h : zNoHb C = true) : zNoH C := by
  unfold zNoHb at h
  obtain ⟨h1, h2⟩ := Bool.and_eq_true_iff.mp h
  exact ⟨of_decide_eq_true h1, of_decide_eq_true h2⟩
theorem zSite_of {l : Launch} {zi : Nat → zI} {j a b : Nat} {i : Instr} (hk : zKd i a b = 3) (hs : zShp zi j i a b = true) (hw : ∀ w ∈ zNc zi j i a b, zWd w) : zSite l zi j i a b := by
  unfold zShp at hs
  rw [hk] at hs
  obtain ⟨h1, h2⟩ := Bool.and_eq_true_iff.mp hs
  have hno := zNoHb_ok h1
  split at h2
  · rename_i x
    simp only [zNc, List.forall_mem_cons] at hw
    obtain ⟨w1, w2, w3, w4, -⟩ := hw
    obtain ⟨h3, h4⟩ := Bool.and_eq_true_iff.mp h2
    have hpar : zPar (zi a) (zNp (zi a)) := of_decide_eq_true h3
    have t1 := zWd_T w1 (zCw_x _)
    have t2 := zWd_T w2 rfl
    have t3 := zWd_T w3 rfl
    by_cases hb : b % 10 = 1
    · rw [if_pos hb] at w4
      have h0 : (zTb (zi a)).isEmpty = true := by
        rw [hb] at h4
        simpa using h4
      exact zSite_SN h0 t1 t2 t3 (zWd_L w4) hno hpar
    · rw [if_neg hb] at w4
      have t4 := zWd_T w4 rfl
      by_cases h0 : (zTb (zi a)).isEmpty = true
      · exact zSite_S h0 t1 t2 t3 t4 hno hpar
      · exact zSite_SX (by simpa using h0) t1 t2 t3 t4 hno hpar
  · rename_i x
    simp only [zNc, List.forall_mem_cons] at hw
    obtain ⟨w1, w2, w3, w4, w5, -⟩ := hw
    simp only [Bool.and_eq_true, decide_eq_true_eq] at h2
    obtain ⟨⟨⟨h3, h4⟩, h5⟩, h6⟩ := h2
    exact zSite_V h3 h4 (zWd_T w1 (zCw_x _)) (zWd_T w2 rfl) (zWd_T w3 rfl) (zWd_T w4 rfl) (zWd_T w5 rfl) hno (of_decide_eq_true h5) (by omega)
  · rename_i x
    simp only [zNc, List.forall_mem_cons] at hw
    obtain ⟨w1, w2, w3, w4, -⟩ := hw
    simp only [Bool.and_eq_true, decide_eq_true_eq] at h2
    obtain ⟨⟨⟨⟨⟨h3, h4⟩, h5⟩, h6⟩, h7⟩, h8⟩ := h2
    have hre : zRe (zi a) = none := Option.isNone_iff_eq_none.mp h8
    by_cases hb : b % 10 = 1
    · rw [if_pos hb] at w4
      exact zSite_IN h3 h4 (zWd_T w1 (zCw_x _)) (zWd_T w2 rfl) (zWd_T w3 rfl) (zWd_L w4) h7 hre hno (of_decide_eq_true h5) (by omega)
    · rw [if_neg hb] at w4
      exact zSite_I h3 h4 (zWd_T w1 (zCw_x _)) (zWd_T w2 rfl) (zWd_T w3 rfl) (zWd_T w4 rfl) h7 hre hno (of_decide_eq_true h5) (by omega)
  · rename_i x cnt
    simp only [zNc, List.forall_mem_cons] at hw
    obtain ⟨w1, w2, w3, w4, w5, -⟩ := hw
    simp only [Bool.and_eq_true, decide_eq_true_eq] at h2
    obtain ⟨⟨⟨⟨⟨h3, h4⟩, h5⟩, h6⟩, h7⟩, h8⟩ := h2
    have hy : zYn (zi a) = zAr (zYn (zi a)).name (zYn (zi a)).desc := by
      unfold zAr
      rw [← h7]
    refine zSite_F (nm := (zYn (zi a)).name) (ds := (zYn (zi a)).desc) (n := zNp (zi a) - 1) (by omega) (by rw [h3]; rfl) h8 hy h4 (zWd_T w1 (zCw_x _)) (zWd_T w2 rfl) ?_ ?_ (zWd_T w5 rfl) (of_decide_eq_true h5) (by omega)
    · rw [← hy]; exact zWd_T w3 rfl
    · rw [← hy]; exact zWd_T w4 rfl
  · cases h2
theorem zCst_of {l : Launch} {zi : Nat → zI} {j a b : Nat} {i : Instr} (hk : zKd i a b = 7) (hs : zShp zi j i a b = true) (hw : ∀ w ∈ zNo7 (zYn (zi j)).cls i a b, zWd w) : zCst l zi j i a b := by
  intro p e R s m args below meth c H locs cells slots pc base u D τ h Q ls rest hx hb hown hts hE hI hS hτ hSt hdg kk
  unfold zShp at hs
  rw [hk] at hs
  have hs2 : zShp7 i b = true := hs
  unfold zShp7 at hs2
  split at hs2
  · have hb0 : b = 0 := by simpa using hs2
    subst hb0
    exact lv_ldc hx hb hown (zWd_ok hts hE (hw _ List.mem_cons_self)) hdg kk
  · have hb0 : b = 0 := by simpa using hs2
    subst hb0
    exact lv_ldcw hx hb hown (zWd_ok hts hE (hw _ List.mem_cons_self)) hdg kk
  · have hb0 : b = 1 ∨ b = 2 := by simpa using hs2
    rcases hb0 with hb0 | hb0
    · subst hb0
      exact lv_ldc2 hx hb hown (zWd_ok hts hE (hw _ List.mem_cons_self)) hdg kk
    · subst hb0
      exact lv_ldc2d hx hb hown (zWd_ok hts hE (hw _ List.mem_cons_self)) hdg kk
  · cases hs2
theorem zKd_le (i : Instr) (a b : Nat) : zKd i a b ≤ 7 := by
  unfold zKd
  split <;> first | decide | (split <;> decide)
theorem zVr_of {l : Launch} {zi : Nat → zI} {j pc a b : Nat} {i : Instr} (hb5 : b < 5000) (hd : zDcd (zBy (zi j)) pc i = true) (hs : zShp zi j i a b = true) (hw : ∀ w ∈ zNd zi j i a b, zWd w) : zVr l zi j pc i a b := by
  refine ⟨zDcd_ok hd, ?_⟩
  rw [zKe_lt hb5]
  split
  · trivial
  · rename_i hk
    unfold zNd at hw
    unfold zShp at hs
    rw [hk] at hw hs
    refine ⟨hw, ?_⟩
    unfold zSg
    split
    · dsimp only at hs
      intro q
      rw [q] at hs
      simp only [Bool.not_true, Bool.false_or, Bool.and_eq_true, decide_eq_true_eq] at hs
      exact ⟨hs.1.1, hs.1.2, hs.2⟩
    · trivial
  · rename_i hk
    unfold zNd at hw
    rw [hk] at hw
    exact hw
  · rename_i hk
    refine zSite_of hk hs ?_
    unfold zNd at hw
    rw [hk] at hw
    exact hw
  · trivial
  · rename_i hk
    unfold zShp at hs
    rw [hk] at hs
    cases hs
  · rename_i hk
    unfold zNd at hw
    unfold zShp at hs
    rw [hk] at hw hs
    have hs2 : zShp6 i = true := hs
    unfold zShp6 at hs2
    split at hs2
    · exact ⟨_, rfl, hw _ List.mem_cons_self⟩
    · cases hs2
  · rename_i hk
    refine zCst_of hk hs ?_
    unfold zNd at hw
    rw [hk] at hw
    exact hw
  · rename_i hk
    have := zKd_le i a b
    omega
  · trivial
/-! constants of the start: statics, a text, a class -/
section zCsts
variable {l : Launch} {zi : Nat → zI} {j x : Nat}
theorem zCst_gz (hl : zWd (.fieldLink (zYn (zi j)).cls x "java/lang/String" "COMPACT_STRINGS" "Z")) : zCst l zi j (.getstatic x) 1 0 := by
  intro p e R s m args below meth c H locs cells slots pc base u D τ h Q ls rest hx hb hown hts hE hI hS hτ hSt hdg kk
  exact va_gets hx hb hSt.1 hS hown (zWd_ok hts hE hl) (fun _ q => q) hdg kk
theorem zCst_g4 (hl : zWd (.fieldLink (zYn (zi j)).cls x "java/util/ArrayList" "DEFAULTCAPACITY_EMPTY_ELEMENTDATA" "[Ljava/lang/Object;")) : zCst l zi j (.getstatic x) 4 3 := by
  intro p e R s m args below meth c H locs cells slots pc base u D τ h Q ls rest hx hb hown hts hE hI hS hτ hSt hdg kk
  exact va_gets hx hb hSt.2.2.1 hS hown (zWd_ok hts hE hl) (fun _ q => q) hdg kk
theorem zCst_g5 (hl : zWd (.fieldLink (zYn (zi j)).cls x "java/lang/Integer" "DigitTens" "[B")) : zCst l zi j (.getstatic x) 5 3 := by
  intro p e R s m args below meth c H locs cells slots pc base u D τ h Q ls rest hx hb hown hts hE hI hS hτ hSt hdg kk
  exact va_gets hx hb hSt.2.2.2.1 hS hown (zWd_ok hts hE hl) (fun _ q => q) hdg kk
theorem zCst_g6 (hl : zWd (.fieldLink (zYn (zi j)).cls x "java/lang/Integer" "DigitOnes" "[B")) : zCst l zi j (.getstatic x) 6 3 := by
  intro p e R s m args below meth c H locs cells slots pc base u D τ h Q ls rest hx hb hown hts hE hI hS hτ hSt hdg kk
  exact va_gets hx hb hSt.2.2.2.2.1 hS hown (zWd_ok hts hE hl) (fun _ q => q) hdg kk
theorem zCst_cl (hl : zWd (.classLink (zYn (zi j)).cls x "[Ljava/lang/Object;")) : zCst l zi j (.ldc x) 7 3 := by
  intro p e R s m args below meth c H locs cells slots pc base u D τ h Q ls rest hx hb hown hts hE hI hS hτ hSt hdg kk
  exact va_ldcM hx hb hown (zWd_ok hts hE hl) hSt.2.2.2.2.2.1 hdg kk
theorem zCst_st (hj : (zYn (zi j)).cls = "OnecodeChanceryModel") : zCst l zi j (.ldc 34) 1 3 := by
  intro p e R s m args below meth c H locs cells slots pc base u D τ h Q ls rest hx hb hown hts hE hI hS hτ hSt hdg kk
  rw [hj] at hown
  exact va_ldcS hx hb hown hSt.2.2.2.2.2.2 hdg kk
end zCsts
