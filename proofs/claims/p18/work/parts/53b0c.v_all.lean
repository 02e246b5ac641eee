/-! ===== the relation of all, on ===== -/
/-! the text that is fed -/
def TX (T : Nat → Int32) (L s : Nat) (h : List zC) : Prop := (s = 1 ∧ L = 0) ∨ ∃ b : Nat, SB T L s b h
theorem TX.same {T : Nat → Int32} {L s : Nat} {h h' : List zC} (r : TX T L s h) (e : ∀ x k, ¬ x = 213 → gF h' x k = gF h x k) (n : ∀ x, gN h' x = gN h x) : TX T L s h' := by
  rcases r with z | ⟨b, z⟩
  · exact Or.inl z
  · exact Or.inr ⟨b, z.same e (n b)⟩
def qFm (T : Nat → Int32) (L s : Nat) (a bd : Int32) (h : List zC) : Prop := TX T L s h ∧ gF h 213 10 = some (.ref s) ∧ gF h 213 16 = some (.int a) ∧ gF h 213 17 = some (.int bd) ∧ (bd = 0 ∨ bd = 1)
def qFed (h : List zC) : Prop := ∃ (T : Nat → Int32) (L s : Nat) (a bd : Int32), gF h 183 1 = some (.int (Int32.ofNat L)) ∧ (∀ i, i < L → gF h 184 i = some (.int (T i))) ∧ qFm T L s a bd h
def wFm (Wr : List (Nat × Nat)) : Bool := !(wIn Wr 40 10) && (!(wIn Wr 40 16) && (!(wIn Wr 40 17) && Wr.all (fun w => !([1, 56, 2, 57].contains w.1))))
def wFd (Wr : List (Nat × Nat)) : Bool := !(wIn Wr 30 1) && (!(wIn Wr 31 0 || Wr.any (fun w => w.1 == 31)) && wFm Wr)
/-- the text's cells by their roles -/
theorem fed_at {N : Int} {ρ : List Nat} {h : List zC} {s b : Nat} (hH : tHeap wT N ρ h) (ro : Ro ρ) (e1 : gF h 213 10 = some (.ref s)) (e2 : gF h s 0 = some (.ref b)) : (ρ[s]? = some 1 ∨ ρ[s]? = some 56) ∧ (ρ[b]? = some 2 ∨ ρ[b]? = some 57) := by
  obtain ⟨c, hc, -, -, -, -, hf⟩ := kind_at hH (ro 213 40 (by decide +kernel)) (R := _) rfl
  obtain ⟨i, i1, i2⟩ := hf 10 _ e1
  cases i1
  rcases i2 with i2 | i2
  · have i2 : ρ[s]? = some 1 := i2
    obtain ⟨d, hd, -, -, -, -, hg⟩ := kind_at hH i2 (R := _) rfl
    obtain ⟨j, j1, j2⟩ := hg 0 _ e2
    cases j1
    exact ⟨Or.inl i2, Or.inl j2⟩
  · have i2 : ρ[s]? = some 56 := i2
    obtain ⟨d, hd, -, -, -, -, hg⟩ := kind_at hH i2 (R := _) rfl
    obtain ⟨j, j1, j2⟩ := hg 0 _ e2
    cases j1
    exact ⟨Or.inr i2, Or.inr j2⟩
theorem qFm.fr {Wr : List (Nat × Nat)} {N : Int} {ρ : List Nat} {h h' : List zC} {T : Nat → Int32} {L s : Nat} {a bd : Int32} (r : qFm T L s a bd h) (hl : 239 ≤ h.length) (ro : Ro ρ) (hH : tHeap wT N ρ h) (hF : gFr Wr ρ h h') (hw : wFm Wr = true) : qFm T L s a bd h' := by
  obtain ⟨w2, w⟩ := Bool.and_eq_true_iff.mp hw
  obtain ⟨w3, w⟩ := Bool.and_eq_true_iff.mp w
  obtain ⟨w4, w5⟩ := Bool.and_eq_true_iff.mp w
  obtain ⟨rt, r4, r5, r6, r7⟩ := r
  have no : ∀ {rr k : Nat}, rr ∈ [1, 56, 2, 57] → wIn Wr rr k = false := fun hr => no_in w5 hr
  refine ⟨?_, ?_, ?_, ?_, r7⟩
  · rcases rt with z | ⟨b, d1, d2, d3, d4, d5, d6, d7⟩
    · exact Or.inl z
    · obtain ⟨rs, rb⟩ := fed_at hH ro r4 d1
      have fs : ∀ k, gF h' s k = gF h s k := fun k => by
        rcases rs with z | z
        · exact gFr_F hF z (no (by decide)) (gF_lt d1)
        · exact gFr_F hF z (no (by decide)) (gF_lt d1)
      have lb := gN_lt d3
      have fb : ∀ k, gF h' b k = gF h b k := fun k => by
        rcases rb with z | z
        · exact gFr_F hF z (no (by decide)) lb
        · exact gFr_F hF z (no (by decide)) lb
      exact Or.inr ⟨b, (fs 0).trans d1, (fs 1).trans d2, ((gFr_T hF lb).2).trans d3, d4, fun i hi => ⟨(fb i).trans (d5 i hi).1, (d5 i hi).2⟩, d6, d7⟩
  · rw [gFr_F hF (ro 213 40 (by decide +kernel)) (by simpa using w2) (by omega)]
    exact r4
  · rw [gFr_F hF (ro 213 40 (by decide +kernel)) (by simpa using w3) (by omega)]
    exact r5
  · rw [gFr_F hF (ro 213 40 (by decide +kernel)) (by simpa using w4) (by omega)]
    exact r6
theorem qFm.l60 {T : Nat → Int32} {L s : Nat} {a bd : Int32} {h : List zC} (r : qFm T L s a bd h) : L ≤ 60 := by
  rcases r.1 with ⟨-, z⟩ | ⟨b, z⟩
  · omega
  · exact z.2.2.2.1
theorem qFed.fr {Wr : List (Nat × Nat)} {N : Int} {ρ : List Nat} {h h' : List zC} (r : qFed h) (hl : 239 ≤ h.length) (ro : Ro ρ) (hH : tHeap wT N ρ h) (hF : gFr Wr ρ h h') (hw : wFd Wr = true) : qFed h' := by
  obtain ⟨w1, w⟩ := Bool.and_eq_true_iff.mp hw
  obtain ⟨w2, w3⟩ := Bool.and_eq_true_iff.mp w
  obtain ⟨T, L, s, a, bd, r1, r2, r3⟩ := r
  have n31 : ∀ k, wIn Wr 31 k = false := fun k => by
    unfold wIn
    refine List.any_eq_false.mpr (fun w hm => ?_)
    have : (Wr.any (fun w => w.1 == 31)) = false := by
      simp only [Bool.not_eq_true', Bool.or_eq_false_iff] at w2
      exact w2.2
    have q := List.any_eq_false.mp this w hm
    simp only [beq_iff_eq] at q
    simp [q]
  refine ⟨T, L, s, a, bd, ?_, fun i hi => ?_, r3.fr hl ro hH hF w3⟩
  · rw [gFr_F hF (ro 183 30 (by decide +kernel)) (by simpa using w1) (by omega)]
    exact r1
  · rw [gFr_F hF (ro 184 31 (by decide +kernel)) (n31 i) (by omega)]
    exact r2 i hi
/-! the articles -/
def qAE (h : List zC) (k A : Nat) : Prop := ∃ (C LS LN AS AN : Nat) (F : Nat → Int32) (st fr en : Int32), gF h (73 + 4 * k) 1 = some (.ref C) ∧ CZ C LS LN h F ∧ AZ A AS AN h F ∧ (gF h (73 + 4 * k) 2 = some (.int st) ∧ gF h A 9 = some (.int st)) ∧ (gF h (73 + 4 * k) 3 = some (.int fr) ∧ gF h A 10 = some (.int fr)) ∧ (gF h (73 + 4 * k) 4 = some (.int en) ∧ gF h A 11 = some (.int en)) ∧ (st = 0 → fr = -1 ∧ en = -1)
def qAR (h : List zC) : Prop := ∃ (cnt : Int32) (el : Nat), gF h 71 2 = some (.int cnt) ∧ gF h 225 2 = some (.int cnt) ∧ gF h 225 1 = some (.ref el) ∧ (el = 4 ∨ 239 ≤ el) ∧ 0 ≤ cnt.toInt ∧ cnt.toInt ≤ 24 ∧ (∀ k, k < cnt.toNatClampNeg → ∃ A : Nat, gF h el k = some (.ref A) ∧ ¬ A = el ∧ qAE h k A) ∧ (∀ (i j A : Nat), i < cnt.toNatClampNeg → j < cnt.toNatClampNeg → gF h el i = some (.ref A) → gF h el j = some (.ref A) → i = j) ∧
  (∀ k, cnt.toNatClampNeg ≤ k → k < 24 → gF h (73 + 4 * k) 2 = some (.int 0) ∧ gF h (73 + 4 * k) 3 = some (.int (-1)) ∧ gF h (73 + 4 * k) 4 = some (.int (-1))) ∧ ∀ k, k < 24 → gF h (73 + 4 * k) 0 = some (.int (Int32.ofNat k))
theorem qAE.A {h : List zC} {k A : Nat} (r : qAE h k A) : 239 ≤ A ∧ A < h.length := by
  obtain ⟨C, LS, LN, AS, AN, F, st, fr, en, r1, r2, r3, ⟨-, r4⟩, -⟩ := r
  exact ⟨r3.2.2.2.2.2.2.1, gF_lt r4⟩
def clR : List Nat := [23, 24, 37, 53, 54, 55]
theorem r22 : ∀ k, k < 24 → rho0[73 + 4 * k]? = some 22 := by decide +kernel
/-- an article of both sides: other cells may be written -/
theorem qAE.same {N : Int} {ρ : List Nat} {h h' : List zC} {k A : Nat} (r : qAE h k A) (hk : k < 24) (hH : tHeap wT N ρ h) (ro : Ro ρ) (hA : ρ[A]? = some 53) (e1 : ∀ j, j < 5 → gF h' (73 + 4 * k) j = gF h (73 + 4 * k) j) (eA : ∀ j, gF h' A j = gF h A j) (e2 : ∀ x j, 239 ≤ x → x < h.length → (ρ[x]? = some 23 ∨ ρ[x]? = some 24 ∨ ρ[x]? = some 37 ∨ ρ[x]? = some 54 ∨ ρ[x]? = some 55) → gF h' x j = gF h x j) : qAE h' k A := by
  obtain ⟨C, LS, LN, AS, AN, F, st, fr, en, r1, ⟨c1, c2, c3, c4, c5, c6, c7, c8, c9⟩, ⟨a1, a2, a3, a4, a5, a6, a7, a8, a9, a10⟩, ⟨s1, s2⟩, ⟨f1, f2⟩, ⟨g1, g2⟩, r9⟩ := r
  obtain ⟨-, -, -, -, -, -, hf⟩ := kind_at hH (ro _ _ (r22 k hk)) (R := _) rfl
  obtain ⟨i, i1, i2⟩ := hf 1 _ r1
  cases i1
  have i2 : ρ[C]? = some 23 := i2
  obtain ⟨-, -, -, -, -, -, hg⟩ := kind_at hH i2 (R := _) rfl
  obtain ⟨j, j1, j2⟩ := hg 9 _ c2
  cases j1
  have j2 : ρ[LS]? = some 24 := j2
  obtain ⟨j, j1, j3⟩ := hg 10 _ c3
  cases j1
  have j3 : ρ[LN]? = some 37 := j3
  obtain ⟨-, -, -, -, -, -, hm⟩ := kind_at hH hA (R := _) rfl
  obtain ⟨j, j1, j4⟩ := hm 4 _ a2
  cases j1
  have j4 : ρ[AS]? = some 54 := j4
  obtain ⟨j, j1, j5⟩ := hm 5 _ a3
  cases j1
  have j5 : ρ[AN]? = some 55 := j5
  have eC : ∀ j, gF h' C j = gF h C j := fun j => e2 C j c6 (gF_lt c2) (Or.inl i2)
  have eLS : ∀ j, j < 2 → gF h' LS j = gF h LS j := fun j hj => e2 LS j c7 (gF_lt (c4 j hj)) (Or.inr (Or.inl j2))
  have eLN : ∀ j, j < 2 → gF h' LN j = gF h LN j := fun j hj => e2 LN j c8 (gF_lt (c5 j hj)) (Or.inr (Or.inr (Or.inl j3)))
  have eAS : ∀ j, j < 2 → gF h' AS j = gF h AS j := fun j hj => e2 AS j a8 (gF_lt (a4 j hj)) (Or.inr (Or.inr (Or.inr (Or.inl j4))))
  have eAN : ∀ j, j < 2 → gF h' AN j = gF h AN j := fun j hj => e2 AN j a9 (gF_lt (a5 j hj)) (Or.inr (Or.inr (Or.inr (Or.inr j5))))
  exact ⟨C, LS, LN, AS, AN, F, st, fr, en, (e1 1 (by omega)).trans r1, ⟨fun j hj => (eC j).trans (c1 j hj), (eC 9).trans c2, (eC 10).trans c3, fun j hj => (eLS j hj).trans (c4 j hj), fun j hj => (eLN j hj).trans (c5 j hj), c6, c7, c8, c9⟩,
    ⟨fun e he => (eA _).trans (a1 e he), (eA 4).trans a2, (eA 5).trans a3, fun j hj => (eAS j hj).trans (a4 j hj), fun j hj => (eAN j hj).trans (a5 j hj), a6, a7, a8, a9, a10⟩, ⟨(e1 2 (by omega)).trans s1, (eA 9).trans s2⟩, ⟨(e1 3 (by omega)).trans f1, (eA 10).trans f2⟩, ⟨(e1 4 (by omega)).trans g1, (eA 11).trans g2⟩, r9⟩
def wAr (Wr : List (Nat × Nat)) : Bool := !(wIn Wr 20 2) && (!(wIn Wr 51 1) && (!(wIn Wr 51 2) && ((List.range 5).all (fun k => !(wIn Wr 22 k)) && Wr.all (fun w => !([4, 52, 23, 24, 37, 53, 54, 55].contains w.1)))))
theorem qAR.fr {Wr : List (Nat × Nat)} {N : Int} {ρ : List Nat} {h h' : List zC} (r : qAR h) (hl : 239 ≤ h.length) (ro : Ro ρ) (hH : tHeap wT N ρ h) (hF : gFr Wr ρ h h') (hw : wAr Wr = true) : qAR h' := by
  obtain ⟨w1, w⟩ := Bool.and_eq_true_iff.mp hw
  obtain ⟨w2, w⟩ := Bool.and_eq_true_iff.mp w
  obtain ⟨w3, w⟩ := Bool.and_eq_true_iff.mp w
  obtain ⟨w4, w5⟩ := Bool.and_eq_true_iff.mp w
  have no : ∀ {rr k : Nat}, rr ∈ [4, 52, 23, 24, 37, 53, 54, 55] → wIn Wr rr k = false := fun hr => no_in w5 hr
  have w22 : ∀ k, k < 5 → wIn Wr 22 k = false := fun k hk => by
    have := List.all_eq_true.mp w4 k (List.mem_range.mpr hk)
    simpa using this
  obtain ⟨cnt, el, r1, r2, r3, r4, r5, r6, r7, r8, r9, r10⟩ := r
  obtain ⟨⟨l, l1, -⟩, -, -, -, -, s6, s7⟩ := al_at hH ro r3 r2
  have hel := gN_lt l1
  have fe : ∀ k, gF h' el k = gF h el k := fun k => by
    rcases s6 with z | z
    · exact gFr_F hF z (no (by decide)) hel
    · exact gFr_F hF z (no (by decide)) hel
  have fa : ∀ k, k < 24 → ∀ j, j < 5 → gF h' (73 + 4 * k) j = gF h (73 + 4 * k) j := fun k hk j hj => gFr_F hF (ro _ _ (r22 k hk)) (w22 j hj) (by omega)
  refine ⟨cnt, el, ?_, ?_, ?_, r4, r5, r6, fun k hk => ?_, fun i j A hi hj e f => r8 i j A hi hj ((fe i).symm.trans e) ((fe j).symm.trans f), fun k k1 k2 => ?_, fun k hk => ?_⟩
  · rw [gFr_F hF (ro 71 20 (by decide +kernel)) (by simpa using w1) (by omega)]
    exact r1
  · rw [gFr_F hF (ro 225 51 (by decide +kernel)) (by simpa using w3) (by omega)]
    exact r2
  · rw [gFr_F hF (ro 225 51 (by decide +kernel)) (by simpa using w2) (by omega)]
    exact r3
  · obtain ⟨A, A1, A2, A3⟩ := r7 k hk
    obtain ⟨e, e1, e2⟩ := s7 k hk
    rw [A1] at e1
    cases e1
    have k24 : k < 24 := by
      have : cnt.toNatClampNeg = cnt.toInt.toNat := rfl
      omega
    exact ⟨A, (fe k).trans A1, A2, A3.same k24 hH ro e2 (fa k k24) (fun j => gFr_F hF e2 (no (by decide)) A3.A.2) (fun x j x1 x2 x3 => by
      rcases x3 with z | z | z | z | z
      all_goals exact gFr_F hF z (no (by decide)) x2)⟩
  · rw [fa k k2 2 (by omega), fa k k2 3 (by omega), fa k k2 4 (by omega)]
    exact r9 k k1 k2
  · rw [fa k hk 0 (by omega)]
    exact r10 k hk
/-! the sums: seats, moods, tastes -/
theorem sum_seats {h1 h2 h3 h5 : List zC} {u2 u5 : Nat} {x f s k r' : Int32} (r : qHO h1) (hl : 239 ≤ h1.length) (hl2 : h1.length ≤ h2.length) (V1 : Q_Lseats x f s h1 (.inl (some (.int k))) h2 u2) (E : ∀ p, p < h2.length → ∀ k, gF h3 p k = gF h2 p k) (V2 : Q_mseats x f s h3 (.inl (some (.int r'))) h5 u5) :
    qHO h5 ∧ gF h5 213 0 = some (.int k) ∧ (k = 0 → gF h5 238 0 = some (.long r'.toInt64)) ∧ (k = 0 ∨ k = 1 ∨ k = 2) := by
  obtain ⟨k', e1, V1⟩ := V1
  cases e1
  obtain ⟨y2, m0, e2, t0, V2⟩ := V2
  cases e2
  rcases V1 with ⟨rfl, ok, c1, y, p1, ey, po⟩ | ⟨rfl, no, ex⟩ | ⟨rfl, yes, no, ex⟩
  · rcases V2 with ⟨-, g3, er⟩ | ⟨n, -⟩ | ⟨-, n, -⟩
    · have p : hoP (173 + 3 * f.toNatClampNeg) x.toNatClampNeg (227 + x.toNatClampNeg) f.toNatClampNeg 0 60 := Or.inl ⟨_, _, iN4 ok.1.2, iN3 ok.1.1, rfl, rfl, rfl, rfl, rfl, rfl⟩
      have x3 := iN3 ok.1.1
      have f4 := iN4 ok.1.2
      have q := sumH_put r hl p ok.2 p1 po E t0 g3
      have l2 : h2.length = h1.length := by rw [po.1, p1.1]
      refine ⟨q, ?_, fun _ => ?_, Or.inl rfl⟩
      · rw [g3.2.1, if_neg (by omega), t0.2.1, if_pos ⟨rfl, rfl⟩]
      · rw [g3.2.1, if_neg (by omega), t0.2.1, if_neg (by omega), E 238 (by omega), po.2.1, if_pos ⟨rfl, rfl⟩, ey, er]
        congr 3
        refine asC_same (n := 4) (fun j hj => ?_) 4 (Nat.le_refl _)
        obtain ⟨z, z1, z2, -⟩ := q (173 + 3 * j) x.toNatClampNeg (227 + x.toNatClampNeg) j 0 60 (Or.inl ⟨_, _, hj, x3, rfl, rfl, rfl, rfl, rfl, rfl⟩)
        have e5 : gF h5 (173 + 3 * j) x.toNatClampNeg = gF c1 (173 + 3 * j) x.toNatClampNeg := by
          rw [g3.2.1, if_neg (by omega), t0.2.1, if_neg (by omega), E _ (by omega), po.2.1, if_neg (by omega)]
        rw [← iv_eq e5, iv_of z1, iv_of z2]
    · exact absurd ok.1 n
    · exact absurd ok.2 n
  · rcases V2 with ⟨w, -⟩ | ⟨-, g3⟩ | ⟨w, -⟩
    · exact absurd w.1 no
    · exact ⟨sumH_no r hl ex hl2 E t0 g3, by rw [g3.2.1, if_pos ⟨rfl, rfl⟩], fun z => absurd z (by decide), Or.inr (Or.inl rfl)⟩
    · exact absurd w no
  · rcases V2 with ⟨w, -⟩ | ⟨n, -⟩ | ⟨-, -, g3⟩
    · exact absurd w.2 no
    · exact absurd yes n
    · exact ⟨sumH_no r hl ex hl2 E t0 g3, by rw [g3.2.1, if_pos ⟨rfl, rfl⟩], fun z => absurd z (by decide), Or.inr (Or.inr rfl)⟩
theorem sum_mood {h1 h2 h3 h5 : List zC} {u2 u5 : Nat} {f m s k r' : Int32} (r : qHO h1) (hl : 239 ≤ h1.length) (hl2 : h1.length ≤ h2.length) (V1 : Q_Lmood f m s h1 (.inl (some (.int k))) h2 u2) (E : ∀ p, p < h2.length → ∀ k, gF h3 p k = gF h2 p k) (V2 : Q_mmood f m s h3 (.inl (some (.int r'))) h5 u5) :
    qHO h5 ∧ gF h5 213 0 = some (.int k) ∧ (k = 0 → gF h5 238 0 = some (.long r'.toInt64)) ∧ (k = 0 ∨ k = 1 ∨ k = 2) := by
  obtain ⟨k', e1, V1⟩ := V1
  cases e1
  obtain ⟨y2, m0, e2, t0, V2⟩ := V2
  cases e2
  rcases V1 with ⟨rfl, ok, c1, y, p1, ey, po⟩ | ⟨rfl, no, ex⟩ | ⟨rfl, yes, no, ex⟩
  · rcases V2 with ⟨-, g3, er⟩ | ⟨n, -⟩ | ⟨-, n, -⟩
    · have p : hoP (172 + 3 * f.toNatClampNeg) m.toNatClampNeg (231 + f.toNatClampNeg) m.toNatClampNeg (-5) 5 := Or.inr (Or.inl ⟨_, _, iN4 ok.1.1, iN4 ok.1.2, rfl, rfl, rfl, rfl, rfl, rfl⟩)
      have pa := p.at
      have q := sumH_put r hl p ok.2 p1 po E t0 g3
      have l2 : h2.length = h1.length := by rw [po.1, p1.1]
      refine ⟨q, ?_, fun _ => ?_, Or.inl rfl⟩
      · rw [g3.2.1, if_neg (by omega), t0.2.1, if_pos ⟨rfl, rfl⟩]
      · rw [g3.2.1, if_neg (by omega), t0.2.1, if_neg (by omega), E 238 (by omega), po.2.1, if_pos ⟨rfl, rfl⟩, ey, er]
        obtain ⟨z, z1, z2, -⟩ := r _ _ _ _ _ _ p
        have e5 : gF m0 (231 + f.toNatClampNeg) m.toNatClampNeg = gF h1 (231 + f.toNatClampNeg) m.toNatClampNeg := by
          rw [t0.2.1, if_neg (by omega), E _ (by omega), po.2.1, if_neg (by omega), p1.2.1, if_neg (by omega)]
        rw [iv_eq e5, iv_of z1, iv_of z2]
    · exact absurd ok.1 n
    · exact absurd ok.2 n
  · rcases V2 with ⟨w, -⟩ | ⟨-, g3⟩ | ⟨w, -⟩
    · exact absurd w.1 no
    · exact ⟨sumH_no r hl ex hl2 E t0 g3, by rw [g3.2.1, if_pos ⟨rfl, rfl⟩], fun z => absurd z (by decide), Or.inr (Or.inl rfl)⟩
    · exact absurd w no
  · rcases V2 with ⟨w, -⟩ | ⟨n, -⟩ | ⟨-, -, g3⟩
    · exact absurd w.2 no
    · exact absurd yes n
    · exact ⟨sumH_no r hl ex hl2 E t0 g3, by rw [g3.2.1, if_pos ⟨rfl, rfl⟩], fun z => absurd z (by decide), Or.inr (Or.inr rfl)⟩
theorem sum_taste {h1 h2 h3 h5 : List zC} {u2 u5 : Nat} {f s k r' : Int32} (r : qHO h1) (hl : 239 ≤ h1.length) (hl2 : h1.length ≤ h2.length) (V1 : Q_Ltaste f s h1 (.inl (some (.int k))) h2 u2) (E : ∀ p, p < h2.length → ∀ k, gF h3 p k = gF h2 p k) (V2 : Q_mtaste f s h3 (.inl (some (.int r'))) h5 u5) :
    qHO h5 ∧ gF h5 213 0 = some (.int k) ∧ (k = 0 → gF h5 238 0 = some (.long r'.toInt64)) ∧ (k = 0 ∨ k = 1 ∨ k = 2) := by
  obtain ⟨k', e1, V1⟩ := V1
  cases e1
  obtain ⟨y2, m0, e2, t0, V2⟩ := V2
  cases e2
  rcases V1 with ⟨rfl, ok, c1, y, p1, ey, po⟩ | ⟨rfl, no, ex⟩ | ⟨rfl, yes, no, ex⟩
  · rcases V2 with ⟨-, g3, er⟩ | ⟨n, -⟩ | ⟨-, n, -⟩
    · have p : hoP (171 + 3 * f.toNatClampNeg) 2 235 f.toNatClampNeg (-3) 3 := Or.inr (Or.inr (Or.inl ⟨_, iN4 ok.1, rfl, rfl, rfl, rfl, rfl, rfl⟩))
      have pa := p.at
      have q := sumH_put r hl p ok.2 p1 po E t0 g3
      have l2 : h2.length = h1.length := by rw [po.1, p1.1]
      refine ⟨q, ?_, fun _ => ?_, Or.inl rfl⟩
      · rw [g3.2.1, if_neg (by omega), t0.2.1, if_pos ⟨rfl, rfl⟩]
      · rw [g3.2.1, if_neg (by omega), t0.2.1, if_neg (by omega), E 238 (by omega), po.2.1, if_pos ⟨rfl, rfl⟩, ey, er]
        obtain ⟨z, z1, z2, -⟩ := r _ _ _ _ _ _ p
        have e5 : gF m0 235 f.toNatClampNeg = gF h1 235 f.toNatClampNeg := by
          rw [t0.2.1, if_neg (by omega), E _ (by omega), po.2.1, if_neg (by omega), p1.2.1, if_neg (by omega)]
        rw [iv_eq e5, iv_of z1, iv_of z2]
    · exact absurd ok.1 n
    · exact absurd ok.2 n
  · rcases V2 with ⟨w, -⟩ | ⟨-, g3⟩ | ⟨w, -⟩
    · exact absurd w.1 no
    · exact ⟨sumH_no r hl ex hl2 E t0 g3, by rw [g3.2.1, if_pos ⟨rfl, rfl⟩], fun z => absurd z (by decide), Or.inr (Or.inl rfl)⟩
    · exact absurd w no
  · rcases V2 with ⟨w, -⟩ | ⟨n, -⟩ | ⟨-, -, g3⟩
    · exact absurd w.2 no
    · exact absurd yes n
    · exact ⟨sumH_no r hl ex hl2 E t0 g3, by rw [g3.2.1, if_pos ⟨rfl, rfl⟩], fun z => absurd z (by decide), Or.inr (Or.inr rfl)⟩
/-! feed -/
theorem sum_feed {h1 h2 h3 h5 : List zC} {u2 u5 L s : Nat} {T : Nat → Int32} {a bd c k r' : Int32} (t1 : gF h1 183 1 = some (.int (Int32.ofNat L))) (t3 : ∀ i, i < L → gF h1 184 i = some (.int (T i))) (fm : qFm T L s a bd h3) (hl : 239 ≤ h1.length) (hl2 : h1.length ≤ h2.length) (hl3 : h2.length ≤ h3.length) (V1 : Q_Lfeed L c h1 (.inl (some (.int k))) h2 u2) (E : ∀ p, p < h2.length → ∀ k, gF h3 p k = gF h2 p k) (V2 : Q_mfeed T L c h3 (.inl (some (.int r'))) h5 u5) :
    qFed h5 ∧ gF h5 213 0 = some (.int k) ∧ (k = 0 → gF h5 238 0 = some (.long r'.toInt64)) ∧ (k = 0 ∨ k = 1 ∨ k = 2) := by
  obtain ⟨k', e1, V1⟩ := V1
  cases e1
  obtain ⟨x, e2, V2⟩ := V2
  cases e2
  obtain ⟨sb, f1, f2, f3, f4⟩ := fm
  have same : ∀ v, FD213 h3 h5 v → (∀ x j, x < h1.length → gF h2 x j = gF h1 x j) → qFed h5 := fun v d o => by
    obtain ⟨d1, d2, d3, d4⟩ := d
    refine ⟨T, L, s, a, bd, ?_, fun i hi => ?_, sb.same (fun x k n => d3 x k (fun z => n z.1)) (fun x => (d4 x).2), ?_, ?_, ?_, f4⟩
    · rw [d3 _ _ (by omega), E _ (by omega), o _ _ (by omega)]
      exact t1
    · rw [d3 _ _ (by omega), E _ (by omega), o _ _ (by omega)]
      exact t3 i hi
    · rw [d3 _ _ (by omega)]
      exact f1
    · rw [d3 _ _ (by omega)]
      exact f2
    · rw [d3 _ _ (by omega)]
      exact f3
  rcases V1 with ⟨rfl, ok, c1, c2, p1, p2, po⟩ | ⟨rfl, no, ex⟩ | ⟨rfl, yes, e60, ex⟩
  · rcases V2 with ⟨n, -⟩ | ⟨-, n, -⟩ | ⟨-, l60, rfl, z0, ⟨s2, b2, sb2, q1, q2, q3⟩, q4, q5, q6⟩
    · exact absurd ok.1 n
    · have := ok.2
      omega
    · have l2 : h2.length = h1.length := by rw [po.1, p2.1, p1.1]
      have old : ∀ x j, x < h1.length → ¬ (x = 213 ∧ (j = 0 ∨ j = 10)) → gF h5 x j = gF h2 x j := fun x j hx n => by
        rw [q5 x j (by omega) n, E x (by omega)]
      refine ⟨⟨fun i => if i = L then c else T i, L + 1, s2, a, bd, ?_, fun i hi => ?_, Or.inr ⟨b2, sb2⟩, q1, ?_, ?_, f4⟩, z0, fun _ => ?_, Or.inl rfl⟩
      · rw [old _ _ (by omega) (by omega), po.2.1, if_neg (by omega), p2.2.1, if_pos ⟨rfl, rfl⟩]
      · rw [old _ _ (by omega) (by omega), po.2.1, if_neg (by omega), p2.2.1, if_neg (by omega), p1.2.1]
        show _ = some (Value.int (if i = L then c else T i))
        by_cases z : i = L
        · rw [if_pos ⟨rfl, z⟩, if_pos z]
        · rw [if_neg (fun w => z w.2), if_neg z]
          exact t3 i (by omega)
      · rw [q5 _ _ (by omega) (by omega)]
        exact f2
      · rw [q5 _ _ (by omega) (by omega)]
        exact f3
      · rw [old _ _ (by omega) (by omega), po.2.1, if_pos ⟨rfl, rfl⟩]
  · rcases V2 with ⟨-, -, d⟩ | ⟨w, -⟩ | ⟨w, -⟩
    · exact ⟨same _ d (fun x j hx => ex.fld hx j), d.2.1, fun z => absurd z (by decide), Or.inr (Or.inl rfl)⟩
    · exact absurd w no
    · exact absurd w no
  · rcases V2 with ⟨n, -⟩ | ⟨-, -, -, d⟩ | ⟨-, l60, -⟩
    · exact absurd yes n
    · exact ⟨same _ d (fun x j hx => ex.fld hx j), d.2.1, fun z => absurd z (by decide), Or.inr (Or.inr rfl)⟩
    · omega
/-! releases -/
theorem mxI_b {x : Int32} (h : -5 ≤ x.toInt ∧ x.toInt ≤ 5) : -5 ≤ (mxI (x - 1) (-5)).toInt ∧ (mxI (x - 1) (-5)).toInt ≤ 5 := by
  have z5 : (-5 : Int32).toInt = -5 := rfl
  have z1 : (1 : Int32).toInt = 1 := rfl
  have e : (x - 1).toInt = x.toInt - 1 := by
    rw [Int32.toInt_sub, z1]
    exact Int.bmod_eq_of_le (by omega) (by omega)
  unfold mxI
  by_cases z : x - 1 < -5
  · rw [if_pos z, z5]
    omega
  · rw [if_neg z]
    rw [i32_lt, z5] at z
    omega
theorem qHO.rel {h h' : List zC} {mt : Nat} {num : Int32} (r : qHO h) (hm : mt < 4)
    (n1 : ∀ f, f < 4 → iv h (171 + 3 * f) 3 = num → gF h' (171 + 3 * f) 3 = some (.int (-1)) ∧ gF h' (172 + 3 * f) mt = some (.int (mxI (iv h (172 + 3 * f) mt - 1) (-5))) ∧ gF h' 236 f = some (.int (-1)) ∧ gF h' (231 + f) mt = some (.int (mxI (iv h (172 + 3 * f) mt - 1) (-5))))
    (n2 : ∀ x j, 171 ≤ x → x < 237 → ¬ x = 213 → (∀ f, f < 4 → iv h (171 + 3 * f) 3 = num → ¬ (x = 171 + 3 * f ∧ j = 3) ∧ ¬ (x = 172 + 3 * f ∧ j = mt) ∧ ¬ (x = 236 ∧ j = f) ∧ ¬ (x = 231 + f ∧ j = mt)) → gF h' x j = gF h x j) : qHO h' := fun a k b l lo hi p => by
  obtain ⟨x, x1, x2, x3⟩ := r a k b l lo hi p
  rcases p with ⟨f, s, h1, h2, rfl, rfl, rfl, rfl, rfl, rfl⟩ | ⟨f, m, h1, h2, rfl, rfl, rfl, rfl, rfl, rfl⟩ | ⟨f, h1, rfl, rfl, rfl, rfl, rfl, rfl⟩ | ⟨f, h1, rfl, rfl, rfl, rfl, rfl, rfl⟩
  · exact ⟨x, (n2 _ _ (by omega) (by omega) (by omega) (fun g hg _ => ⟨by omega, by omega, by omega, by omega⟩)).trans x1, (n2 _ _ (by omega) (by omega) (by omega) (fun g hg _ => ⟨by omega, by omega, by omega, by omega⟩)).trans x2, x3⟩
  · by_cases z : iv h (171 + 3 * f) 3 = num ∧ l = mt
    · obtain ⟨z1, rfl⟩ := z
      obtain ⟨-, y1, -, y2⟩ := n1 f h1 z1
      have e := iv_of x1
      rw [e] at y1 y2
      exact ⟨_, y1, y2, mxI_b x3⟩
    · have w : ∀ g, g < 4 → iv h (171 + 3 * g) 3 = num → g = f → ¬ l = mt := fun g hg e1 e2 e3 => by
        subst e2
        exact z ⟨e1, e3⟩
      refine ⟨x, ?_, ?_, x3⟩
      · exact (n2 _ _ (by omega) (by omega) (by omega) (fun g hg e => ⟨by omega, fun v => w g hg e (by omega) v.2, by omega, by omega⟩)).trans x1
      · exact (n2 _ _ (by omega) (by omega) (by omega) (fun g hg e => ⟨by omega, by omega, by omega, fun v => w g hg e (by omega) v.2⟩)).trans x2
  · exact ⟨x, (n2 _ _ (by omega) (by omega) (by omega) (fun g hg _ => ⟨by omega, by omega, by omega, by omega⟩)).trans x1, (n2 _ _ (by omega) (by omega) (by omega) (fun g hg _ => ⟨by omega, by omega, by omega, by omega⟩)).trans x2, x3⟩
  · by_cases z : iv h (171 + 3 * l) 3 = num
    · obtain ⟨y1, -, y2, -⟩ := n1 l h1 z
      exact ⟨-1, y1, y2, by decide, by decide⟩
    · have w : ∀ g, g < 4 → iv h (171 + 3 * g) 3 = num → ¬ g = l := fun g hg e1 e2 => by
        subst e2
        exact z e1
      refine ⟨x, ?_, ?_, x3⟩
      · exact (n2 _ _ (by omega) (by omega) (by omega) (fun g hg e => ⟨fun v => w g hg e (by omega), by omega, by omega, by omega⟩)).trans x1
      · exact (n2 _ _ (by omega) (by omega) (by omega) (fun g hg e => ⟨by omega, by omega, fun v => w g hg e v.2.symm, by omega⟩)).trans x2
/-- how houses stand is the same on both sides -/
theorem bal_same {h1 m0 : List zC} {C A : Nat} {f0 o6 num b rep : Int32} (r : qHO h1) (c0 : iv h1 C 0 = f0) (a0 : iv m0 A 0 = f0) (hf0 : f0.toNatClampNeg < 4) (c6 : iv h1 C 6 = o6) (a7 : iv m0 A 7 = o6) (ho : o6.toInt ≤ 100) (hn : num = b) (old : ∀ x j, 227 ≤ x → x < 237 → gF m0 x j = gF h1 x j) : ∀ i, i < 3 → bCs (fun f => iv h1 (173 + 3 * f) i) (fun f => sideC rep (iv h1 (171 + 3 * f) 3) num (lkC h1 f C)) 4 = bMs (fun f => iv m0 (227 + i) f) (fun f => byM rep (iv m0 236 f) b (lkM m0 f A)) 4 := fun i hi => by
  refine bal_eq (n := 4) (fun f hf => ?_) (fun f hf => ?_) 4 (Nat.le_refl _)
  · obtain ⟨x, x1, x2, -⟩ := r (173 + 3 * f) i (227 + i) f 0 60 (Or.inl ⟨f, i, hf, hi, rfl, rfl, rfl, rfl, rfl, rfl⟩)
    rw [iv_of x1, iv_eq (old (227 + i) f (by omega) (by omega)), iv_of x2]
  · obtain ⟨x, x1, x2, x3⟩ := r (172 + 3 * f) f0.toNatClampNeg (231 + f) f0.toNatClampNeg (-5) 5 (Or.inr (Or.inl ⟨f, _, hf, hf0, rfl, rfl, rfl, rfl, rfl, rfl⟩))
    obtain ⟨y, y1, y2, y3⟩ := r (171 + 3 * f) 2 235 f (-3) 3 (Or.inr (Or.inr (Or.inl ⟨f, hf, rfl, rfl, rfl, rfl, rfl, rfl⟩)))
    obtain ⟨z, z1, z2, -⟩ := r (171 + 3 * f) 3 236 f (-1) 23 (Or.inr (Or.inr (Or.inr ⟨f, hf, rfl, rfl, rfl, rfl, rfl, rfl⟩)))
    have el : lkC h1 f C = lk x y o6 := by
      unfold lkC
      rw [c0, c6, iv_of x1, iv_of y1]
    have em : lkM m0 f A = lk x y o6 := by
      unfold lkM
      rw [a0, a7, iv_eq (old (231 + f) _ (by omega) (by omega)), iv_of x2, iv_eq (old 235 f (by omega) (by omega)), iv_of y2]
    rw [el, em, iv_of z1, iv_eq (old 236 f (by omega) (by omega)), iv_of z2, hn]
    exact side_eq (lk_b x3 y3 ho)

