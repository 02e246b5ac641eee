/-! ===== the relation of all, on ===== -/
/-! ===== the code of the class: what is always true of it ===== -/
/-- state, from and end -/
def stI (st fr en : Int32) : Prop := (st = 0 ∧ fr = -1 ∧ en = -1) ∨ (st = 1 ∧ 30 ≤ fr.toInt ∧ en = -1) ∨ (st = 2 ∧ 30 ≤ fr.toInt ∧ 30 ≤ en.toInt) ∨ (st = 3 ∧ fr = -1 ∧ en = -1)
def eXs (h : List zC) (k : Nat) : Prop := ∃ st fr en : Int32, gF h (73 + 4 * k) 2 = some (.int st) ∧ gF h (73 + 4 * k) 3 = some (.int fr) ∧ gF h (73 + 4 * k) 4 = some (.int en) ∧ stI st fr en
def eXc (h : List zC) (k : Nat) : Prop := ∃ (C LS LN : Nat) (F : Nat → Int32), gF h (73 + 4 * k) 1 = some (.ref C) ∧ CZ C LS LN h F ∧ lmI F ∧ ouI (Int32.ofNat k) (F 6) ∧ exI (Int32.ofNat k) (F 7)
def qEX (h : List zC) : Prop := ∃ cnt : Int32, gF h 71 2 = some (.int cnt) ∧ 0 ≤ cnt.toInt ∧ cnt.toInt ≤ 24 ∧ srtF h cnt ∧ ∀ k, k < cnt.toNatClampNeg → eXs h k ∧ eXc h k
theorem eXc.cl {h : List zC} {k : Nat} (r : eXc h k) : ∃ C : Nat, gF h (73 + 4 * k) 1 = some (.ref C) ∧ 239 ≤ C ∧ C < h.length := by
  obtain ⟨C, LS, LN, F, r1, r2, -⟩ := r
  exact ⟨C, r1, r2.2.2.2.2.2.1, gF_lt r2.2.1⟩
theorem eXs.same {h h' : List zC} {k : Nat} (r : eXs h k) (e : ∀ j, j < 5 → gF h' (73 + 4 * k) j = gF h (73 + 4 * k) j) : eXs h' k := by
  obtain ⟨st, fr, en, r1, r2, r3, r4⟩ := r
  exact ⟨st, fr, en, (e 2 (by omega)).trans r1, (e 3 (by omega)).trans r2, (e 4 (by omega)).trans r3, r4⟩
theorem eXc.same {h h' : List zC} {k : Nat} (r : eXc h k) (e1 : gF h' (73 + 4 * k) 1 = gF h (73 + 4 * k) 1) (e2 : ∀ x j, 239 ≤ x → x < h.length → gF h' x j = gF h x j) : eXc h' k := by
  obtain ⟨C, LS, LN, F, r1, ⟨c1, c2, c3, c4, c5, c6, c7, c8, c9⟩, r3⟩ := r
  exact ⟨C, LS, LN, F, e1.trans r1, ⟨fun j hj => (e2 C j c6 (gF_lt c2)).trans (c1 j hj), (e2 C 9 c6 (gF_lt c2)).trans c2, (e2 C 10 c6 (gF_lt c2)).trans c3, fun j hj => (e2 LS j c7 (gF_lt (c4 j hj))).trans (c4 j hj), fun j hj => (e2 LN j c8 (gF_lt (c5 j hj))).trans (c5 j hj), c6, c7, c8, c9⟩, r3⟩
theorem srtF.same {h h' : List zC} {c : Int32} (s : srtF h c) (e5 : ∀ a, a < c.toNatClampNeg → gF h' (73 + 4 * a) 5 = gF h (73 + 4 * a) 5) (e3 : gF h' 71 3 = gF h 71 3) (e4 : gF h' 71 4 = gF h 71 4) (ec : ∀ k, k < c.toNatClampNeg → ∀ j, iv h' (rf h' (73 + 4 * k) 1) j = iv h (rf h (73 + 4 * k) 1) j) : srtF h' c := by
  obtain ⟨q1, q2, q3⟩ := s
  refine ⟨fun a ha => ?_, ?_, ?_⟩
  · rw [e5 a ha, q1 a ha, bS_same (n := c.toNatClampNeg) (fun k hk => ?_) _ (Nat.le_refl _)]
    show decide (toK h k = Int32.ofNat a) = decide (toK h' k = Int32.ofNat a)
    unfold toK
    rw [ec k hk]
  · rw [e3, q2, bS_same (n := c.toNatClampNeg) (fun k hk => ?_) _ (Nat.le_refl _)]
    show decide (toK h k < 0 ∨ c ≤ toK h k) = decide (toK h' k < 0 ∨ c ≤ toK h' k)
    unfold toK
    rw [ec k hk]
  · rw [e4, q3, bS_same (n := c.toNatClampNeg) (fun k hk => ?_) _ (Nat.le_refl _)]
    show decide (clO h k = -1) = decide (clO h' k = -1)
    rw [show clO h' k = clO h k from ec k hk 6]
/-- a state of one article is written, at most -/
theorem qEX.mark {h h' : List zC} {n : Nat} (q : qEX h) (hs : eXs h n → eXs h' n) (e : ∀ x j, x < h.length → (x = 71 ∨ (73 ≤ x ∧ x < 169 ∧ ¬ (x = 73 + 4 * n ∧ 2 ≤ j ∧ j < 5)) ∨ 239 ≤ x) → gF h' x j = gF h x j) : qEX h' := by
  obtain ⟨cnt, r1, r2, r3, r4, r5⟩ := q
  have h72 : ∀ k, k < cnt.toNatClampNeg → 73 + 4 * k < h.length ∧ 73 + 4 * k < 169 := fun k hk => by
    obtain ⟨C, c1, -⟩ := (r5 k hk).2.cl
    have : cnt.toNatClampNeg = cnt.toInt.toNat := rfl
    exact ⟨gF_lt c1, by omega⟩
  have l71 := gF_lt r1
  have ep : ∀ k, k < cnt.toNatClampNeg → gF h' (73 + 4 * k) 1 = gF h (73 + 4 * k) 1 := fun k hk => by
    obtain ⟨a, b⟩ := h72 k hk
    exact e _ _ a (Or.inr (Or.inl ⟨by omega, by omega, by omega⟩))
  refine ⟨cnt, (e 71 2 l71 (Or.inl rfl)).trans r1, r2, r3, r4.same (fun a ha => ?_) (e 71 3 l71 (Or.inl rfl)) (e 71 4 l71 (Or.inl rfl)) (fun k hk j => ?_), fun k hk => ⟨?_, ?_⟩⟩
  · obtain ⟨x, y⟩ := h72 a ha
    exact e _ _ x (Or.inr (Or.inl ⟨by omega, by omega, by omega⟩))
  · obtain ⟨C, c1, c2, c3⟩ := (r5 k hk).2.cl
    have a1 : rf h (73 + 4 * k) 1 = C := rf_of c1
    have a2 : rf h' (73 + 4 * k) 1 = C := (rf_eq (ep k hk)).trans a1
    rw [a1, a2]
    exact iv_eq (e C j c3 (Or.inr (Or.inr c2)))
  · by_cases z : k = n
    · subst z
      exact hs (r5 k hk).1
    · obtain ⟨a, b⟩ := h72 k hk
      exact (r5 k hk).1.same (fun j hj => e _ _ a (Or.inr (Or.inl ⟨by omega, by omega, by omega⟩)))
  · exact (r5 k hk).2.same (ep k hk) (fun x j x1 x2 => e x j x2 (Or.inr (Or.inr x1)))
theorem qEX.same {h h' : List zC} (q : qEX h) (e : ∀ x j, x < h.length → (x = 71 ∨ (73 ≤ x ∧ x < 169) ∨ 239 ≤ x) → gF h' x j = gF h x j) : qEX h' := by
  obtain ⟨cnt, r1, r2, r3, r4, r5⟩ := id q
  refine q.mark (n := 0) (fun s => s.same (fun j hj => ?_)) (fun x j hx z => e x j hx (by omega))
  obtain ⟨st, fr, en, s1, -⟩ := s
  exact e _ _ (gF_lt s1) (by omega)
def wEx (Wr : List (Nat × Nat)) : Bool := !(wIn Wr 20 2) && (!(wIn Wr 20 3) && (!(wIn Wr 20 4) && ((List.range 6).all (fun k => !(wIn Wr 22 k)) && Wr.all (fun w => !([23, 24, 37].contains w.1)))))
theorem qEX.fr {Wr : List (Nat × Nat)} {N : Int} {ρ : List Nat} {h h' : List zC} (q : qEX h) (hl : 239 ≤ h.length) (ro : Ro ρ) (hH : tHeap wT N ρ h) (hF : gFr Wr ρ h h') (hw : wEx Wr = true) : qEX h' := by
  obtain ⟨w1, w⟩ := Bool.and_eq_true_iff.mp hw
  obtain ⟨w2, w⟩ := Bool.and_eq_true_iff.mp w
  obtain ⟨w3, w⟩ := Bool.and_eq_true_iff.mp w
  obtain ⟨w4, w5⟩ := Bool.and_eq_true_iff.mp w
  have no : ∀ {rr k : Nat}, rr ∈ [23, 24, 37] → wIn Wr rr k = false := fun hr => no_in w5 hr
  have w22 : ∀ k, k < 6 → wIn Wr 22 k = false := fun k hk => by
    have := List.all_eq_true.mp w4 k (List.mem_range.mpr hk)
    simpa using this
  obtain ⟨cnt, r1, r2, r3, r4, r5⟩ := q
  have n24 : ∀ k, k < cnt.toNatClampNeg → k < 24 := fun k hk => by
    have : cnt.toNatClampNeg = cnt.toInt.toNat := rfl
    omega
  have fa : ∀ k, k < 24 → ∀ j, j < 6 → gF h' (73 + 4 * k) j = gF h (73 + 4 * k) j := fun k hk j hj => gFr_F hF (ro _ _ (r22 k hk)) (w22 j hj) (by omega)
  have f71 : ∀ j, j = 2 ∨ j = 3 ∨ j = 4 → gF h' 71 j = gF h 71 j := fun j hj => by
    refine gFr_F hF (ro 71 20 (by decide +kernel)) ?_ (by omega)
    rcases hj with rfl | rfl | rfl
    · simpa using w1
    · simpa using w2
    · simpa using w3
  have cl : ∀ k, k < cnt.toNatClampNeg → ∀ C LS LN F, gF h (73 + 4 * k) 1 = some (.ref C) → CZ C LS LN h F → (∀ j, gF h' C j = gF h C j) ∧ (∀ j, gF h' LS j = gF h LS j) ∧ ∀ j, gF h' LN j = gF h LN j := fun k hk C LS LN F c1 cz => by
    obtain ⟨-, -, -, -, -, -, hf⟩ := kind_at hH (ro _ _ (r22 k (n24 k hk))) (R := _) rfl
    obtain ⟨i, i1, i2⟩ := hf 1 _ c1
    cases i1
    have i2 : ρ[C]? = some 23 := i2
    obtain ⟨-, -, -, -, -, -, hg⟩ := kind_at hH i2 (R := _) rfl
    obtain ⟨j, j1, j2⟩ := hg 9 _ cz.2.1
    cases j1
    have j2 : ρ[LS]? = some 24 := j2
    obtain ⟨j, j1, j3⟩ := hg 10 _ cz.2.2.1
    cases j1
    have j3 : ρ[LN]? = some 37 := j3
    exact ⟨fun j => gFr_F hF i2 (no (by decide)) (gF_lt cz.2.1), fun j => gFr_F hF j2 (no (by decide)) (gF_lt (cz.2.2.2.1 0 (by omega))), fun j => gFr_F hF j3 (no (by decide)) (gF_lt (cz.2.2.2.2.1 0 (by omega)))⟩
  refine ⟨cnt, (f71 2 (Or.inl rfl)).trans r1, r2, r3, r4.same (fun a ha => fa a (n24 a ha) 5 (by omega)) (f71 3 (Or.inr (Or.inl rfl))) (f71 4 (Or.inr (Or.inr rfl))) (fun k hk j => ?_), fun k hk => ⟨(r5 k hk).1.same (fun j hj => fa k (n24 k hk) j (by omega)), ?_⟩⟩
  · obtain ⟨C, LS, LN, F, c1, cz, -⟩ := (r5 k hk).2
    have a1 : rf h (73 + 4 * k) 1 = C := rf_of c1
    have a2 : rf h' (73 + 4 * k) 1 = C := (rf_eq (fa k (n24 k hk) 1 (by omega))).trans a1
    rw [a1, a2]
    exact iv_eq ((cl k hk C LS LN F c1 cz).1 j)
  · obtain ⟨C, LS, LN, F, c1, cz, r⟩ := (r5 k hk).2
    obtain ⟨a, b, c⟩ := cl k hk C LS LN F c1 cz
    exact ⟨C, LS, LN, F, (fa k (n24 k hk) 1 (by omega)).trans c1, cz.cells a b c, r⟩
section fre
variable {W4 : List (Nat × Nat)} {N1 N2 N3 : Int} {W2 : List (Nat × Nat)} {ρ1 ρ2 ρ3 : List Nat} {h1 h2 h3 h4 : List zC}
theorem qEX.fr2 (hr : qEX h2) (S2 : Stc h2) (ro2 : Ro ρ2) (H2 : tHeap wT N2 ρ2 h2) (F3 : gFr [] ρ2 h2 h3) (S3 : Stc h3) (ro3 : Ro ρ3) (H3 : tHeap wT N3 ρ3 h3) (F4 : gFr W4 ρ3 h3 h4) (w4 : wEx W4 = true) : qEX h4 := (hr.fr S2.1 ro2 H2 F3 (by decide)).fr S3.1 ro3 H3 F4 w4
theorem qEX.fr3 (hr : qEX h1) (S1 : Stc h1) (ro1 : Ro ρ1) (H1 : tHeap wT N1 ρ1 h1) (F2 : gFr W2 ρ1 h1 h2) (w2 : wEx W2 = true) (S2 : Stc h2) (ro2 : Ro ρ2) (H2 : tHeap wT N2 ρ2 h2) (F3 : gFr [] ρ2 h2 h3) (S3 : Stc h3) (ro3 : Ro ρ3) (H3 : tHeap wT N3 ρ3 h3) (F4 : gFr W4 ρ3 h3 h4) (w4 : wEx W4 = true) : qEX h4 := (hr.fr S1.1 ro1 H1 F2 w2).fr2 S2 ro2 H2 F3 S3 ro3 H3 F4 w4
end fre
/-- a text was taken -/
theorem qEX.take {T : Nat → Int32} {L n : Nat} {nb cnt c2 d : Int32} {h1 c : List zC} (q : qEX h1) (hl : 239 ≤ h1.length) (c0 : gF h1 71 2 = some (.int cnt)) (x0 : 0 ≤ nb.toInt) (l24 : nb.toInt < 24) (en : n = nb.toNatClampNeg) (e2 : mxI cnt (nb + 1) = c2) (hc2 : 0 ≤ c2.toInt ∧ c2.toInt ≤ 24) (hk : ∀ k, k < c2.toNatClampNeg → k = n ∨ k < cnt.toNatClampNeg) (hn : gF h1 (73 + 4 * n) 2 = some (.int 0) ∧ gF h1 (73 + 4 * n) 3 = some (.int (-1)) ∧ gF h1 (73 + 4 * n) 4 = some (.int (-1))) (td : TDF T L nb cnt h1 c (.inl (some (.int d)))) : qEX c := by
  subst en
  subst e2
  obtain ⟨⟨d1, d2, d3, d4, d', zd, d5⟩, df⟩ := td
  cases zd
  rcases df d rfl with ⟨z, same⟩ | ⟨z, so⟩
  · exact q.same (fun x j hx y => same x j hx (by omega))
  · rcases d5 with ⟨y, -⟩ | ⟨-, p, F, f, cz, g1, g2⟩
    · rw [y] at z
      exact absurd z (by decide)
    · obtain ⟨i1, i2, i3⟩ := read_inv ⟨x0, by omega⟩ f
      obtain ⟨cnt', r1, r2, r3, r4, r5⟩ := q
      rw [c0] at r1
      cases r1
      have nk : nb.toNatClampNeg = nb.toInt.toNat := rfl
      have ec : nb = Int32.ofNat nb.toNatClampNeg := ofn_nat x0
      refine ⟨_, g2, hc2.1, hc2.2, so, fun k hk2 => ?_⟩
      by_cases w : k = nb.toNatClampNeg
      · subst w
        have lz := gF_lt hn.1
        refine ⟨⟨0, -1, -1, ?_, ?_, ?_, Or.inl ⟨rfl, rfl, rfl⟩⟩, _, _, _, F, g1, cz, i1, by rw [← ec]; exact i2, by rw [← ec]; exact i3⟩
        · rw [d3 _ _ lz (by omega) (by omega) (by omega) (by omega)]
          exact hn.1
        · rw [d3 _ _ lz (by omega) (by omega) (by omega) (by omega)]
          exact hn.2.1
        · rw [d3 _ _ lz (by omega) (by omega) (by omega) (by omega)]
          exact hn.2.2
      · have k1 := (hk k hk2).resolve_left w
        have ck : cnt.toNatClampNeg = cnt.toInt.toNat := rfl
        obtain ⟨s, r⟩ := r5 k k1
        obtain ⟨C, c1, -⟩ := r.cl
        have lk := gF_lt c1
        exact ⟨s.same (fun j hj => d3 _ _ lk (by omega) (by omega) (by omega) (by omega)), r.same (d3 _ _ lk (by omega) (by omega) (by omega) (by omega)) (fun x j x1 x2 => d3 x j x2 (by omega) (by omega) (by omega) (by omega))⟩
theorem qEX.out {h h2 : List zC} {v : Value} (q : qEX h) (g : hPut h h2 238 0 v) : qEX h2 := q.same (fun x j hx y => by rw [g.2.1, if_neg (by omega)])
theorem qEX.ext {h h2 : List zC} (q : qEX h) (g : hExt h h2) : qEX h2 := q.same (fun x j hx y => g.fld hx j)
theorem exX_write {T : Nat → Int32} {L u2 : Nat} {cnt k : Int32} {h1 h2 : List zC} (q : qEX h1) (ra : qAR h1) (hl : 239 ≤ h1.length) (c0 : gF h1 71 2 = some (.int cnt)) (h0c : 0 ≤ cnt.toInt) (V1 : Q_Lwrite T L cnt h1 (.inl (some (.int k))) h2 u2) : qEX h2 := by
  obtain ⟨k', z1, V1⟩ := V1
  cases z1
  rcases V1 with ⟨-, l24, d, c, td, po⟩ | ⟨-, -, ex⟩
  · obtain ⟨w1n, w2n, w3n⟩ := mx_w h0c l24
    obtain ⟨cnt', el', r1, -, -, -, -, -, -, -, r9, -⟩ := ra
    rw [c0] at r1
    cases r1
    have ck : cnt.toNatClampNeg = cnt.toInt.toNat := rfl
    exact (q.take hl c0 h0c l24 rfl w1n ⟨by omega, by omega⟩ (fun k hk => by omega) (r9 _ (Nat.le_refl _) (by omega)) td).out po
  · exact q.ext ex
theorem exX_amend {T : Nat → Int32} {L u2 : Nat} {cnt nb k : Int32} {h1 h2 : List zC} (q : qEX h1) (hl : 239 ≤ h1.length) (c0 : gF h1 71 2 = some (.int cnt)) (h24 : cnt.toInt ≤ 24) (h0c : 0 ≤ cnt.toInt) (V1 : Q_Lamend T L cnt nb h1 (.inl (some (.int k))) h2 u2) : qEX h2 := by
  obtain ⟨k', z1, V1⟩ := V1
  cases z1
  rcases V1 with ⟨-, ok, d, c, td, po⟩ | ⟨-, -, ex⟩ | ⟨-, -, -, ex⟩
  · have l24 : nb.toInt < 24 := by
      have := ok.1.2
      omega
    have xb := iN_cl h0c ok.1
    obtain ⟨cnt', r1, r2, r3, r4, r5⟩ := id q
    rw [c0] at r1
    cases r1
    obtain ⟨st, fr, en, s1, s2, s3, s4⟩ := (r5 _ xb).1
    have s0 : st = 0 := (iv_of s1).symm.trans ok.2
    have fe : fr = -1 ∧ en = -1 := by
      rcases s4 with ⟨-, a, b⟩ | ⟨z, -⟩ | ⟨z, -⟩ | ⟨-, a, b⟩
      · exact ⟨a, b⟩
      · rw [s0] at z
        exact absurd z (by decide)
      · rw [s0] at z
        exact absurd z (by decide)
      · exact ⟨a, b⟩
    rw [s0] at s1
    rw [fe.1] at s2
    rw [fe.2] at s3
    exact (q.take hl c0 ok.1.1 l24 rfl (mx_a ok.1.1 ok.1.2 h24) ⟨r2, r3⟩ (fun k hk => Or.inr hk) ⟨s1, s2, s3⟩ td).out po
  · exact q.ext ex
  · exact q.ext ex
theorem d30 {d : Int32} (h : 0 ≤ d.toInt ∧ d.toInt ≤ 3000) : 30 ≤ (d + 30).toInt := by
  rw [Int32.toInt_add, show (30 : Int32).toInt = 30 from rfl, Int.bmod_eq_of_le (by omega) (by omega)]
  omega
theorem exX_vote {u2 : Nat} {cnt dd b k : Int32} {h1 h2 : List zC} (q : qEX h1) (h24 : cnt.toInt ≤ 24) (d1 : gF h1 16 0 = some (.int dd)) (d2 : 0 ≤ dd.toInt ∧ dd.toInt ≤ 3000) (V1 : Q_Lvote cnt b h1 (.inl (some (.int k))) h2 u2) : qEX h2 := by
  obtain ⟨k', z1, V1⟩ := V1
  cases z1
  rcases V1 with ⟨-, ok, y, C, e1, e3, hC, ey, pu, rl, po⟩ | ⟨-, -, ex⟩ | ⟨-, -, -, ex⟩
  · have rk : ∀ x j, x < 171 ∨ 183 ≤ x → gF e3 x j = gF e1 x j := fun x j hx => rl.2.2.1 x j (fun f hf _ => ⟨by dsimp only; omega, by dsimp only; omega⟩)
    refine qEX.out (h := e3) ?_ po
    have oc : ∀ x j, ¬ (x = 73 + 4 * b.toNatClampNeg ∧ (j = 2 ∨ j = 3)) → gF e1 x j = gF h1 x j := fun x j n => by
      rcases pu with ⟨-, c0', g1, g2⟩ | ⟨-, g1⟩
      · rw [g2.2.1, if_neg (by omega), g1.2.1, if_neg (by omega)]
      · rw [g1.2.1, if_neg (by omega)]
    have b24 := n24i ok.1 h24
    refine q.mark (n := b.toNatClampNeg) (fun s => ?_) (fun x j hx z => ?_)
    · obtain ⟨st, fr, en, s1, s2, s3, s4⟩ := s
      have bt : 73 + 4 * b.toNatClampNeg < 171 ∨ 183 ≤ 73 + 4 * b.toNatClampNeg := Or.inl (by omega)
      have s0 : st = 0 := (iv_of s1).symm.trans ok.2
      have e4 : en = -1 := by
        rcases s4 with ⟨-, -, a⟩ | ⟨-, -, a⟩ | ⟨z, -⟩ | ⟨-, -, a⟩
        · exact a
        · exact a
        · rw [s0] at z
          exact absurd z (by decide)
        · exact a
      have e5 : fr = -1 := by
        rcases s4 with ⟨-, a, -⟩ | ⟨z, -⟩ | ⟨z, -⟩ | ⟨-, a, -⟩
        · exact a
        · rw [s0] at z
          exact absurd z (by decide)
        · rw [s0] at z
          exact absurd z (by decide)
        · exact a
      rcases pu with ⟨-, c0', g1, g2⟩ | ⟨-, g1⟩
      · refine ⟨1, dd + 30, -1, ?_, ?_, ?_, Or.inr (Or.inl ⟨rfl, d30 d2, rfl⟩)⟩
        · rw [rk _ _ bt, g2.2.1, if_neg (by omega), g1.2.1, if_pos ⟨rfl, rfl⟩]
        · rw [rk _ _ bt, g2.2.1, if_pos ⟨rfl, rfl⟩, iv_of d1]
        · rw [rk _ _ bt, g2.2.1, if_neg (by omega), g1.2.1, if_neg (by omega), s3, e4]
      · refine ⟨3, -1, -1, ?_, ?_, ?_, Or.inr (Or.inr (Or.inr ⟨rfl, rfl, rfl⟩))⟩
        · rw [rk _ _ bt, g1.2.1, if_pos ⟨rfl, rfl⟩]
        · rw [rk _ _ bt, g1.2.1, if_neg (by omega), s2, e5]
        · rw [rk _ _ bt, g1.2.1, if_neg (by omega), s3, e4]
    · rw [rk x j (by omega), oc x j (by omega)]
  · exact q.ext ex
  · exact q.ext ex
theorem exX_repeal {u2 : Nat} {cnt dd b k : Int32} {h1 h2 : List zC} (q : qEX h1) (h24 : cnt.toInt ≤ 24) (d1 : gF h1 16 0 = some (.int dd)) (d2 : 0 ≤ dd.toInt ∧ dd.toInt ≤ 3000) (V1 : Q_Lrepeal cnt b h1 (.inl (some (.int k))) h2 u2) : qEX h2 := by
  obtain ⟨k', z1, V1⟩ := V1
  cases z1
  rcases V1 with ⟨-, ok, y, C, e1, hC, ey, pu, po⟩ | ⟨-, -, ex⟩ | ⟨-, -, -, ex⟩
  · refine qEX.out (h := e1) ?_ po
    have b24 := n24i ok.1 h24
    rcases pu with ⟨-, c0', g1, g2⟩ | ⟨-, g1⟩
    · refine q.mark (n := b.toNatClampNeg) (fun s => ?_) (fun x j hx z => by rw [g2.2.1, if_neg (by omega), g1.2.1, if_neg (by omega)])
      obtain ⟨st, fr, en, s1, s2, s3, s4⟩ := s
      have s0 : st = 1 := (iv_of s1).symm.trans ok.2
      have e5 : 30 ≤ fr.toInt := by
        rcases s4 with ⟨z, -⟩ | ⟨-, a, -⟩ | ⟨-, a, -⟩ | ⟨z, -⟩
        · rw [s0] at z
          exact absurd z (by decide)
        · exact a
        · exact a
        · rw [s0] at z
          exact absurd z (by decide)
      refine ⟨2, fr, dd + 30, ?_, ?_, ?_, Or.inr (Or.inr (Or.inl ⟨rfl, e5, d30 d2⟩))⟩
      · rw [g2.2.1, if_neg (by omega), g1.2.1, if_pos ⟨rfl, rfl⟩]
      · rw [g2.2.1, if_neg (by omega), g1.2.1, if_neg (by omega)]
        exact s2
      · rw [g2.2.1, if_pos ⟨rfl, rfl⟩, iv_of d1]
    · rw [g1]
      exact q
  · exact q.ext ex
  · exact q.ext ex

