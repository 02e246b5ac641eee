/-! ===== a contract out of two: a number up to m, or above ===== -/
def cNar (s : Nat) (t : tT) (c : cCon) : cCon := (c.1, c.2.1, (c.2.2.1.1.set s t, c.2.2.1.2), c.2.2.2.1, c.2.2.2.2.1, c.2.2.2.2.2.1, c.2.2.2.2.2.2.map (fun x => (x.1, (x.2.1.set s t, x.2.2))))
theorem gEn.unset {ρ : List Nat} {ν : List Value} {E : List tT} {s : Nat} {t : tT} (h : gEn ρ ν (E.set s t)) (ht : tSub t (sGet E s) = true) : gEn ρ ν E := by
  refine ⟨by have := h.1; simpa using this, fun q w hw => ?_⟩
  have h2 := h.2 q w hw
  by_cases e : s = q
  · subst e
    have hl : s < E.length := by
      have h3 := h.1
      simp only [List.length_set] at h3
      have := (List.getElem?_eq_some_iff.mp hw).1
      omega
    have e2 : sGet (E.set s t) s = t := by
      unfold sGet
      rw [List.getD_eq_getElem?_getD, List.getElem?_set_self hl]
      rfl
    rw [e2] at h2
    exact tSub_ok ht h2
  · have e2 : sGet (E.set s t) q = sGet E q := by
      unfold sGet
      rw [List.getD_eq_getElem?_getD, List.getD_eq_getElem?_getD, List.getElem?_set_ne e]
    rw [e2] at h2
    exact h2
theorem cCase {zr : zRow} {zi : Nat → zI} {W : tWd} {c : cCon} {s : Nat} {lo m hi : Int} (hs : s < c.2.2.1.1.length) (hE : sGet c.2.2.1.1 s = (0, lo, hi)) (hx : c.2.2.2.2.2.2.all (fun x => tSub (0, lo, m) (sGet x.2.1 s) && tSub (0, m + 1, hi) (sGet x.2.1 s)) = true)
    (h1 : cHolds zr zi W (cNar s (0, lo, m) c)) (h2 : cHolds zr zi W (cNar s (0, m + 1, hi) c)) : cHolds zr zi W c := by
  intro dd hd N ρ ν lv h u K hA hH hm hn hend
  have hl : s < ν.length := by rw [← hA.1.1]; exact hs
  have hv : ν[s]? = some ν[s] := List.getElem?_eq_getElem hl
  obtain ⟨x, ex, x1, x2⟩ := tHas_int (hA.1.2 s _ hv) (by rw [hE])
  rw [hE] at x1 x2
  dsimp only at x1 x2
  rw [ex] at hv
  have hx := List.all_eq_true.mp hx
  have go : ∀ t : tT, tHas ρ t (.int x) → (∀ y ∈ c.2.2.2.2.2.2, tSub t (sGet y.2.1 s) = true) → cHolds zr zi W (cNar s t c) → zE zr zi dd c.1 0 lv [] h u K := fun t ht hy hc =>
    hc dd hd N ρ ν lv h u K ⟨hA.1.set (fun v q => by rw [hv] at q; cases q; exact ht), hA.2⟩ hH hm hn (fun y hy2 N' ρ' ν' st' h' u' o n1 n2 n3 n4 n5 n6 n7 => by
      obtain ⟨z, hz, rfl⟩ := List.mem_map.mp hy2
      exact hend z hz N' ρ' ν' st' h' u' o n1 n2 n3 n4 n5 ⟨gEn.unset n6.1 (hy z hz), n6.2⟩ n7)
  rcases Int.lt_or_le m x.toInt with z | z
  · have h3 : ∀ y ∈ c.2.2.2.2.2.2, tSub (0, m + 1, hi) (sGet y.2.1 s) = true := fun y hy => (Bool.and_eq_true_iff.mp (hx y hy)).2
    have z : m + 1 ≤ x.toInt := by omega
    generalize m + 1 = k at h2 h3 z
    exact go (0, k, hi) (show ∃ y : Int32, Value.int x = .int y ∧ k ≤ y.toInt ∧ y.toInt ≤ hi from ⟨x, rfl, z, x2⟩) h3 h2
  · exact go (0, lo, m) (show ∃ y : Int32, Value.int x = .int y ∧ lo ≤ y.toInt ∧ y.toInt ≤ m from ⟨x, rfl, x1, z⟩) (fun y hy => (Bool.and_eq_true_iff.mp (hx y hy)).1) h1
