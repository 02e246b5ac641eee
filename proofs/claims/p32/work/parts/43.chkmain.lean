/-! ===== the checker is right: whole ===== -/
section ckC
variable {zr : zRow} {zi : Nat → zI} {W : tWd} {ro tg : Nat → Nat → Nat} {Cs : List cCon} {Wr : List (Nat × Nat)} {mc ms N0 : Int} {n0 : Nat} {hb ub : Nat} {ρ0 : List Nat} {h0 : List zC}
theorem exO_void {st : List Value} {o : zRes} (h : exO 0 st o) : o = .inl none ∧ st = [] := by
  unfold exO at h
  split at h
  · exact ⟨rfl, h.2⟩
  · exact absurd h.1 (by decide)
  · omega
theorem exO_one {st : List Value} {o : zRes} (h : exO 1 st o) : ∃ v, o = .inl (some v) ∧ st = [v] := by
  unfold exO at h
  split at h
  · exact absurd h.1 (by decide)
  · exact ⟨_, rfl, h.2⟩
  · omega
theorem exO_thr {k : Nat} {st : List Value} {o : zRes} (h0 : ¬ k = 0) (h1 : ¬ k = 1) (h : exO k st o) : o = .inr (k - 2) ∧ st = [] := by
  unfold exO at h
  split at h
  · exact absurd h.1 h0
  · exact absurd h.1 h1
  · obtain ⟨rfl, q⟩ := h
    exact ⟨by congr 1; omega, q⟩
theorem s1_drop {E : List tT} {ρ : List Nat} {ν : List Value} {lv : List (Nat × Value)} {L : List (Nat × Nat)} (q : Nat) (hE : gEn ρ ν E) (hL : gLo ν lv L) : gLo ν ((zs1 lv q .null).drop 1) (sDel1 E L q) := by
  have h2 := gLo_s1 (i := q) (s := 0) (v := .null) (E := E) (L := L) hE hL
  intro e he
  have hne : ¬ e.1 = q := fun z => by
    unfold sDel1 at he
    have := (List.mem_filter.mp he).2
    simp [z] at this
  obtain ⟨w, q1, q2⟩ := hL e (List.mem_filter.mp he).1
  refine ⟨w, ?_, q2⟩
  unfold sDel1 at he
  obtain ⟨f1, f2⟩ := Bool.and_eq_true_iff.mp (List.mem_filter.mp he).2
  show zld (lv.filter (fun x => !(x.1 == q) && !(x.1 + 1 == q && x.2.category == 2))) e.1 = some w
  refine zld_filter (f := fun a b => !(a == q) && !(a + 1 == q && b == 2)) ?_ q1
  have g1 : (!(e.1 == q)) = true := by simpa using hne
  rw [g1, Bool.true_and]
  rcases Bool.or_eq_true_iff.mp f2 with f2 | f2
  · have f2 : ¬ e.1 + 1 = q := by simpa using f2
    simp [f2]
  · have := tHas_narr (hE.2 _ _ q2) f2
    simp [this]
/-- behind a call -/
theorem aft_ok {dd j pc n : Nat} {νb ν ν' : List Value} {K : Nat → sS → Bool} {KK : zK} {go : Nat → sS → Bool} {S S' : sS} {lv : List (Nat × Value)} {T : List Nat} {rest st' : List Value} {N' : Int} {ρ' : List Nat} {h' : List zC} {u' k : Nat} {o : zRes}
    (ha : chkAft zr zi go j pc n S.2.1 T K k S' = true) (hL : gLo ν lv S.2.1) (hT : gSt ν T rest) (hb2 : nExt νb ν) (hx : nExt ν ν') (hA' : gA hb ub ρ' ν' S' [] st' h' u') (hH' : tHeap W N' ρ' h') (hF' : gFr Wr ρ0 h0 h') (hP' : gPre hb ρ0 ρ') (hN' : N0 ≤ N') (ho : exO k st' o)
    (hgo : ∀ (pc2 : Nat) (S2 : sS) (lv2 : List (Nat × Value)) (st2 : List Value), go pc2 S2 = true → gA hb ub ρ' ν' S2 lv2 st2 h' u' → zE zr zi dd j pc2 lv2 st2 h' u' KK)
    (hK : gEnd W Wr N0 hb ub ρ0 h0 νb K KK) : zAf zr zi dd j pc n lv rest KK o h' u' := by
  unfold chkAft at ha
  unfold zAf
  split at ha
  · rename_i e
    subst e
    obtain ⟨rfl, rfl⟩ := exO_void ho
    exact hgo _ _ _ _ ha ⟨hA'.1, hL.ext hx, hT.ext hx, hA'.2.2.2⟩
  · rename_i e
    split at ha
    · rename_i e1
      subst e1
      obtain ⟨v, rfl, rfl⟩ := exO_one ho
      split at ha
      · rename_i s hs
        have hT' := hA'.2.2.1
        rw [hs] at hT'
        obtain ⟨v2, st2, e2, h1, h2⟩ := hT'.inv
        cases e2
        exact hgo _ _ _ _ ha ⟨hA'.1, hL.ext hx, gSt.cons h1 (hT.ext hx), hA'.2.2.2⟩
      · cases ha
    · rename_i e1
      obtain ⟨rfl, rfl⟩ := exO_thr e e1 ho
      dsimp only
      unfold zCat
      split at ha
      · rename_i hz
        rw [hz]
        dsimp only
        refine hK k _ ha N' ρ' ν' [] h' u' _ hN' (hb2.trans hx) ⟨hA'.1, fun e he => (by cases he), rfl, hA'.2.2.2⟩ hH' hF' hP' ?_
        exact ⟨by omega, rfl⟩
      · rename_i r hz
        rw [hz]
        dsimp only
        split at ha
        · rename_i i9 a b hq
          split at ha
          · rename_i q m9 hast
            split at ha
            · rename_i hlt
              rw [hq]
              dsimp only
              rw [hast]
              dsimp only
              rw [if_pos hlt]
              dsimp only
              exact hgo _ _ _ _ ha ⟨hA'.1, s1_drop q hA'.1 (hL.ext hx), rfl, hA'.2.2.2⟩
            · cases ha
          · cases ha
        · cases ha
theorem jRep {N : Int} {ρ : List Nat} {h : List zC} {x : Nat} (hWk : wTop W (wA W) = true) (hJ : wR W 999 = none) (hJ2 : wLk W 999 = false) (hx : x ≤ 1) (hH : tHeap W N ρ h) : ∃ ρ', tHeap W N ρ' (h ++ List.replicate x (98, [])) ∧ (∀ i r : Nat, ρ[i]? = some r → ρ'[i]? = some r) ∧ (∀ (a : Nat) (c : zC), h[a]? = some c → (h ++ List.replicate x (98, []))[a]? = some c) ∧ (h ++ List.replicate x ((98, []) : zC)).length ≤ h.length + 1 := by
  rcases (show x = 0 ∨ x = 1 by omega) with rfl | rfl
  · exact ⟨ρ, by simpa using hH, fun _ _ e => e, fun a c e => by simpa using e, by simp⟩
  · exact ⟨ρ ++ [999], hH.push hWk (wLk_top hJ2) (by decide) (fun R e => by rw [hJ] at e; cases e) (by decide) (fun z => by cases z), rApp ρ 999, hApp h (98, []), by simp⟩
theorem gPre.trans {hb : Nat} {ρ0 ρ ρ' : List Nat} (h1 : gPre hb ρ0 ρ) (h2 : ∀ i r : Nat, ρ[i]? = some r → ρ'[i]? = some r) : gPre hb ρ0 ρ' := ⟨h1.1, fun i r e => h2 i r (h1.2 i r e)⟩
set_option maxHeartbeats 4000000 in
theorem chk_ok (hWk : wTop W (wA W) = true) (hJ : wR W 999 = none) (hJ2 : wLk W 999 = false) (hmc : (hb : Int) + mc ≤ zCM) (hms : (ub : Int) + ms ≤ zSN) (hh : h0.length = hb) (hCs : ∀ c ∈ Cs, cHolds zr zi W c) :
    ∀ (f : Nat) (skip : Bool) (Hs : List mHead) (V : Option (List mI)) (d j pc : Nat) (S : sS) (K : Nat → sS → Bool), chk zr zi W ro tg Cs Wr mc ms n0 f skip Hs V d j pc S K = true →
    ∀ (dd : Nat), d ≤ dd → ∀ (νb ν : List Value) (KK : zK) (N : Int) (ρ : List Nat) (lv : List (Nat × Value)) (st : List Value) (h : List zC) (u : Nat) (w : Option (List Nat)), nExt νb ν → (Hs = [] ∨ νb.length ≤ n0) →
    gA hb ub ρ ν S lv st h u → tHeap W N ρ h → gFr Wr ρ0 h0 h → gPre hb ρ0 ρ → N0 ≤ N → gVec ν V w → gHeads zr zi W Wr N0 hb ub ρ0 h0 νb dd j KK Hs w → gEnd W Wr N0 hb ub ρ0 h0 νb K KK → zE zr zi dd j pc lv st h u KK := by
  intro f
  induction f with
  | zero => intro skip Hs V d j pc S K hc; unfold chk at hc; cases hc
  | succ f ih =>
    intro skip Hs V d j pc S0 K hc dd hdd νb ν KK N ρ0' lv st h u w hb2 hn0 hA0 hH0 hF hP0 hN hV hHd hK
    unfold chk at hc
    split at hc
    · obtain ⟨x, h1, hc⟩ := List.any_eq_true.mp hc
      obtain ⟨h2, hc⟩ := Bool.and_eq_true_iff.mp hc
      have h2 : x.1 = pc := by simpa using h2
      rw [← h2]
      refine hGo_ok h1 hc hA0 hH0 hF hP0 hN hb2 ?_ hV hHd
      rcases hn0 with e | e
      · subst e; cases h1
      · exact e
    · split at hc
      · cases hc
      · rename_i S htg
        obtain ⟨ρ, hA, hH, hP⟩ : ∃ ρ', gA hb ub ρ' ν S lv st h u ∧ tHeap W N ρ' h ∧ gPre hb ρ0 ρ' := by
          unfold sTg at htg
          split at htg
          · cases htg
            exact ⟨_, hA0, hH0, hP0⟩
          · exact sTag_ok hWk htg hA0 hH0 hP0
        split at hc
        · cases hc
        · rename_i i a b hrow
          split at hc
          · rename_i hk
            split at hc
            · rename_i succ hs
              obtain ⟨pc', lv', st', e1, ν', S', e2, e3, e4⟩ := sP_ok hs hA
              exact zE_0 hrow hk e1 (ih _ _ _ _ _ _ _ _ (List.all_eq_true.mp hc _ e2) dd hdd νb ν' KK N ρ _ _ _ _ w (hb2.trans e3) hn0 e4 hH hF hP hN (hV.ext e3) hHd hK)
            · cases hc
          · rename_i hk
            split at hc
            · rename_i succ hs
              obtain ⟨pc', st', h', e1, -, M, ν', S', eM, e2, e3, e4, e5, e6⟩ := sG_ok (ρ0 := ρ0) hWk hs hA hH hF hP hh
              exact zE_1 hrow hk e1 (ih _ _ _ _ _ _ _ _ (List.all_eq_true.mp hc _ e2) dd hdd νb ν' KK M ρ _ _ _ _ w (hb2.trans e3) hn0 e4 e5 e6 hP (Int.le_trans hN eM) (hV.ext e3) hHd hK)
            · cases hc
          · rename_i hk
            split at hc
            · rename_i succ hs
              obtain ⟨pc', st', h', u', e1, ρ', ν', S', e2, e3, e4, e5, e6, e7⟩ := sM_ok (ρ0 := ρ0) hWk hmc hms hs hA hH hF hP
              exact zE_2 hrow hk e1 (ih _ _ _ _ _ _ _ _ (List.all_eq_true.mp hc _ e2) dd hdd νb ν' KK N ρ' _ _ _ _ w (hb2.trans e3) hn0 e4 e5 e6 e7 hN (hV.ext e3) hHd hK)
            · cases hc
          · rename_i hk
            split at hc
            · rename_i hcond
              obtain ⟨c1, c2, c3, c4, c5, c6⟩ := hcond
              have hT := hA.2.2.1
              have hTt := hT.take (zNp (zi a))
              have hTd := hT.drop (zNp (zi a))
              have k1 : zNp (zi a) ≤ st.length := by rw [← hT.len]; exact c1
              have k2 : ((st.drop (zNp (zi a))).map (fun v => v.category)).sum ≤ 8 := Nat.le_trans (sCats_ok hA.1 hTd) c2
              have k3 : (lg_sl (st.take (zNp (zi a))).reverse).length ≤ zMl (zi a) := by
                rw [lgs_len, List.map_reverse, sum_rev]
                exact Nat.le_trans (sCats_ok hA.1 hTt) c3
              have k5 : zRc b (st.take (zNp (zi a))).reverse h := sRc_ok hA hH hTt.rev c6
              have hkn : sKnown S.1 (S.2.2.1.take (zNp (zi a))).reverse = true := by
                unfold sKnown at c5 ⊢
                rw [List.all_reverse]
                exact c5
              have hLa := (sArgs_ok (S := S) hA.1 0 hTt.rev hkn).1
              split at hc
              · cases hc
              · rename_i d'
                obtain ⟨dd', rfl⟩ : ∃ n, dd = n + 1 := ⟨dd - 1, by omega⟩
                have hgo : ∀ (ν' : List Value) (ρ' : List Nat) (N' : Int) (h' : List zC) (u' : Nat), nExt ν ν' → N0 ≤ N' → tHeap W N' ρ' h' → gFr Wr ρ0 h0 h' → gPre hb ρ0 ρ' → ∀ (pc2 : Nat) (S2 : sS) (lv2 : List (Nat × Value)) (st2 : List Value), chk zr zi W ro tg Cs Wr mc ms n0 f false Hs V (d' + 1) j pc2 S2 K = true → gA hb ub ρ' ν' S2 lv2 st2 h' u' → zE zr zi (dd' + 1) j pc2 lv2 st2 h' u' KK :=
                  fun ν' ρ' N' h' u' q1 q2 q3 q4 q5 pc2 S2 lv2 st2 q6 q7 => ih _ _ _ _ _ _ _ _ q6 (dd' + 1) hdd νb ν' KK N' ρ' _ _ _ _ w (hb2.trans q1) hn0 q7 q3 q4 q5 q2 (hV.ext q1) hHd hK
                split at hc
                · rename_i c hcf
                  obtain ⟨m1, m2, m3, m4, m5⟩ := cFind_ok hcf
                  obtain ⟨r1, hc⟩ := Bool.and_eq_true_iff.mp hc
                  obtain ⟨r2, r3⟩ := Bool.and_eq_true_iff.mp hc
                  have r3 := List.all_eq_true.mp r3
                  obtain ⟨r4, r5⟩ := sRoom_ok hA r2
                  have hS : gA h.length u ρ ν (sCall S (S.2.2.1.take (zNp (zi a))).reverse) (lv_args 0 (st.take (zNp (zi a))).reverse) [] h u := by
                    refine ⟨hA.1, hLa, rfl, fun q hq => ?_, ?_, ?_⟩
                    · obtain ⟨q1, q2⟩ := List.mem_filter.mp hq
                      exact (hA.2.2.2.1 q q1).base (by simpa using q2)
                    · show (h.length : Int) - h.length ≤ 0
                      omega
                    · show (u : Int) - u ≤ 0
                      omega
                  obtain ⟨g1, g2⟩ := mOk_ok hS m4
                  have hC := hCs c m1 dd' (by omega) N ρ _ _ h u (zAf zr zi (dd' + 1) j pc (zLen i) lv (st.drop (zNp (zi a))) KK) g1 hH (by omega) (by omega) (fun x hx N' ρ' ν' st' h' u' o n1 n2 n3 n4 n5 n6 n7 => by
                    obtain ⟨ν2, t1, t2⟩ := sBack_ok (ρ0 := ρ0) (S := S) (x := x) hA hH hP g2 (mOk_len m4) n2 n3 n5 n6
                    have p1 := hP.trans n3.2
                    have p2 := hF.trans hP hh n5 r1
                    exact aft_ok (r3 x hx) hA.2.1 hTd hb2 t1 t2 n4 p2 p1 (Int.le_trans hN n1) n7 (fun pc2 S2 lv2 st2 q6 q7 => hgo ν2 ρ' N' h' u' t1 (Int.le_trans hN n1) n4 p2 p1 pc2 S2 lv2 st2 q6 q7) hK)
                  rw [m2] at hC
                  exact zE_3 hrow hk k1 k2 k3 c4 k5 hC
                · refine zE_3 hrow hk k1 k2 k3 c4 k5 ?_
                  refine ih _ _ _ _ _ _ _ _ hc dd' (by omega) ν ν _ N ρ _ _ _ _ none (nExt.refl ν) (Or.inl rfl) ⟨hA.1, hLa, rfl, hA.2.2.2⟩ hH hF hP hN rfl (fun x hx => by cases hx) ?_
                  intro k S' hkS N' ρ' ν' st' h' u' o n1 n2 n6 n4 n5 n3 n7
                  exact aft_ok hkS hA.2.1 hTd hb2 n2 n6 n4 n5 n3 n1 n7 (fun pc2 S2 lv2 st2 q6 q7 => hgo ν' ρ' N' h' u' n2 n1 n4 n5 n3 pc2 S2 lv2 st2 q6 q7) hK
            · cases hc
          · rename_i hk
            split at hc
            · rename_i k hr
              obtain ⟨v, e1, e2⟩ := sRt_ok hA hr
              exact zE_4 hrow hk e1 (hK k _ hc N ρ ν st h u _ hN hb2 ⟨hA.1, fun e he => (by cases he), hA.2.2.1, hA.2.2.2⟩ hH hF hP e2)
            · cases hc
          · rename_i hk
            obtain ⟨q1, hc⟩ := Bool.and_eq_true_iff.mp hc
            obtain ⟨q2, q3⟩ := Bool.and_eq_true_iff.mp hc
            obtain ⟨r4, r5⟩ := sRoom_ok hA q2
            have hst : st = [] := by
              have := hA.2.2.1.len
              rw [List.isEmpty_iff.mp q1] at this
              exact List.length_eq_zero_iff.mp this.symm
            refine zE_5 hrow hk hst (by omega) (by omega) (fun x y hx hy => ?_)
            obtain ⟨ρ', j1, j2, j3, j4⟩ := jRep hWk hJ hJ2 hx hH
            refine hK _ _ q3 N ρ' ν [] _ _ _ hN hb2 ⟨⟨hA.1.1, fun s v e => (hA.1.2 s v e).grow j2⟩, fun e he => (by cases he), rfl, fun q hq => (hA.2.2.2.1 q hq).grow j3, hA.2.2.2.2.more (by omega) (by omega)⟩ j1 (fun p c e => ?_) (hP.trans j2) ⟨rfl, rfl⟩
            obtain ⟨c', f1, f2⟩ := hF p c e
            exact ⟨c', j3 _ _ f1, f2⟩
          · rename_i hk
            split at hc
            · rename_i o r hs
              obtain ⟨q1, hc⟩ := Bool.and_eq_true_iff.mp hc
              obtain ⟨q2, q3⟩ := Bool.and_eq_true_iff.mp hc
              have hT := hA.2.2.1
              rw [hs] at hT
              obtain ⟨v, st1, rfl, ho, hT1⟩ := hT.inv
              obtain ⟨q, rfl, -⟩ := hA.ref ho (by simpa using q1)
              exact zE_6 hrow hk rfl (Nat.le_trans (sCats_ok hA.1 hT1) (of_decide_eq_true q2)) (ih _ _ _ _ _ _ _ _ q3 dd hdd νb ν KK N ρ _ _ _ _ w hb2 hn0 ⟨hA.1, hA.2.1, hT1, hA.2.2.2⟩ hH hF hP hN hV hHd hK)
            · cases hc
          · rename_i hk
            have fin : ∀ (t : tT) (v : Value), tHas ρ t v → zCo i a b = v → chk zr zi W ro tg Cs Wr mc ms n0 f false Hs V d j (pc + zLen i) (S.1 ++ [t], S.2.1, S.1.length :: S.2.2.1, S.2.2.2) K = true → zE zr zi dd j pc lv st h u KK := fun t v hv e hc => by
              have hA2 := hA.push hv (G := []) nil_ok (hA.2.1.ext (nExt_app _ _)) (gSt.cons (hA.new v) (hA.2.2.1.ext (nExt_app _ _)))
              refine zE_7 hrow hk ?_
              rw [e]
              exact ih _ _ _ _ _ _ _ _ hc dd hdd νb (ν ++ [v]) KK N ρ _ _ _ _ w (hb2.trans (nExt_app _ _)) hn0 hA2 hH hF hP hN (hV.ext (nExt_app _ _)) hHd hK
            split at hc
            · exact fin (0, (Int32.ofNat a).toInt, (Int32.ofNat a).toInt) (.int (Int32.ofNat a)) ⟨_, rfl, Int.le_refl _, Int.le_refl _⟩ rfl hc
            · exact fin (1, 0, 0) (.long (Int64.ofNat a)) ⟨_, rfl⟩ rfl hc
            · have hA2 := hA.push (t := (2, 0, 0)) (v := .double (UInt64.ofNat a)) ⟨_, rfl⟩ (G := (11, S.1.length, 0, 0, (a : Int)) :: (if zNan (UInt64.ofNat a) = true then [(9, S.1.length, 0, 0, 0)] else [])) (fun f hf => by
                rcases List.mem_cons.mp hf with rfl | hf
                · exact hA.new _
                · split at hf
                  · rename_i q
                    simp only [List.mem_cons, List.not_mem_nil, or_false] at hf
                    subst hf
                    exact ⟨_, hA.new _, q⟩
                  · cases hf) (hA.2.1.ext (nExt_app _ _)) (gSt.cons (hA.new _) (hA.2.2.1.ext (nExt_app _ _)))
              refine zE_7 hrow hk ?_
              exact ih _ _ _ _ _ _ _ _ hc dd hdd νb (ν ++ [.double (UInt64.ofNat a)]) KK N ρ _ _ _ _ w (hb2.trans (nExt_app _ _)) hn0 hA2 hH hF hP hN (hV.ext (nExt_app _ _)) hHd hK
            · obtain ⟨q1, hc⟩ := Bool.and_eq_true_iff.mp hc
              have q1 := of_decide_eq_true q1
              have hlen : a < ρ.length := by
                have := hH.1
                have := hH.2.1
                have hz : zro = 16 := rfl
                omega
              have hr : ρ[a]? = some ρ[a] := List.getElem?_eq_getElem hlen
              have he := (hH.2.2.2.1 a _ hr).2.2 q1
              exact fin (3, (a : Int), 0) (.ref a) ⟨a, rfl, by rw [hr, he]; rfl⟩ rfl hc
            · cases hc
          · rename_i hk
            split at hc
            · rename_i succ hs
              obtain ⟨os, e1, e2⟩ := sX_ok (ρ0 := ρ0) hWk hmc hms hs hA hH hF hP hh
              refine zE_8 hrow hk e1 (fun o ho => ?_)
              obtain ⟨ρ', ν', S', M, e3, e4, e5, e6, e7, e8, e9⟩ := e2 o ho
              exact ih _ _ _ _ _ _ _ _ (List.all_eq_true.mp hc _ e4) dd hdd νb ν' KK M ρ' _ _ _ _ w (hb2.trans e5) hn0 e6 e7 e8 e9 (Int.le_trans hN e3) (hV.ext e5) hHd hK
            · cases hc
          · cases hc
end ckC
