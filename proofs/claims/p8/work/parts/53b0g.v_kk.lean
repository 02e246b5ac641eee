/-! ===== the relation of the cluster, on ===== -/
/-! all of it -/
def qCl (h : List zC) : Prop := qFed h ∧ qAR h ∧ qHO h ∧ qRDy h
def wCl (Wr : List (Nat × Nat)) : Bool := wFd Wr && (wAr Wr && (wHo Wr && wDy Wr))
theorem qCl.fr {Wr : List (Nat × Nat)} {N : Int} {ρ : List Nat} {h h' : List zC} (hr : qCl h) (hS : Stc h) (ro : Ro ρ) (hH : tHeap wT N ρ h) (hF : gFr Wr ρ h h') (hw : wCl Wr = true) : qCl h' := by
  obtain ⟨w1, w⟩ := Bool.and_eq_true_iff.mp hw
  obtain ⟨w2, w⟩ := Bool.and_eq_true_iff.mp w
  obtain ⟨w3, w4⟩ := Bool.and_eq_true_iff.mp w
  exact ⟨hr.1.fr hS.1 ro hH hF w1, hr.2.1.fr hS.1 ro hH hF w2, hr.2.2.1.fr hS.1 ro hF w3, hr.2.2.2.fr hS.1 ro hF w4⟩
theorem art_ints {N : Int} {ρ : List Nat} {h : List zC} {A : Nat} (hH : tHeap wT N ρ h) (hA : ρ[A]? = some 53) : ∃ m : Int32, gF h A 0 = some (.int m) := by
  obtain ⟨c, hc, -, -, k3, -, hf⟩ := kind_at hH hA (R := _) rfl
  have hlen : c.2.length = 12 := k3 12 rfl
  have g0 : gF h A 0 = some (c.2[0]'(by omega)) := by
    rw [gF_of hc, List.getElem?_eq_getElem]
  obtain ⟨x, x1, -⟩ := hf 0 _ g0
  exact ⟨x, by rw [g0, x1]⟩
theorem len_236 {N : Int} {ρ : List Nat} {h : List zC} (hH : tHeap wT N ρ h) (ro : Ro ρ) : gN h 236 = some 4 := by
  obtain ⟨c, hc, -, k2, k3, -, -⟩ := kind_at hH (ro 236 63 (by decide +kernel)) (R := _) rfl
  rw [k2, k3 4 rfl]
/-- of the reference's object all but thrown and the text is kept -/
theorem clause_at {h : List zC} {cnt : Int32} (r : qAR h) (c0 : gF h 71 2 = some (.int cnt)) : ∀ k, k < cnt.toNatClampNeg → ∃ C : Nat, gF h (73 + 4 * k) 1 = some (.ref C) ∧ 239 ≤ C := fun k hk => by
  obtain ⟨cnt', el', r1, r2, r3, r4, r5, r6, r7, -⟩ := r
  rw [c0] at r1
  cases r1
  obtain ⟨A, A1, A2, C, LS, LN, AS, AN, F, st, fr, en, x1, x2, -⟩ := r7 k hk
  exact ⟨C, x1, x2.2.2.2.2.2.1⟩
/-! what houses and factions are asked -/
theorem lk_same {h1 m0 : List zC} {C A f : Nat} {f0 o6 : Int32} (r : qHO h1) (hf : f < 4) (c0 : iv h1 C 0 = f0) (a0 : iv m0 A 0 = f0) (hf0 : f0.toNatClampNeg < 4) (c6 : iv h1 C 6 = o6) (a7 : iv m0 A 7 = o6) (old : ∀ x j, 227 ≤ x → x < 237 → gF m0 x j = gF h1 x j) : lkC h1 f C = lkM m0 f A := by
  obtain ⟨x, x1, x2, x3⟩ := r (172 + 3 * f) f0.toNatClampNeg (231 + f) f0.toNatClampNeg (-5) 5 (Or.inr (Or.inl ⟨f, _, hf, hf0, rfl, rfl, rfl, rfl, rfl, rfl⟩))
  obtain ⟨y, y1, y2, y3⟩ := r (171 + 3 * f) 2 235 f (-3) 3 (Or.inr (Or.inr (Or.inl ⟨f, hf, rfl, rfl, rfl, rfl, rfl, rfl⟩)))
  unfold lkC lkM
  rw [c0, c6, iv_of x1, iv_of y1, a0, a7, iv_eq (old (231 + f) _ (by omega) (by omega)), iv_of x2, iv_eq (old 235 f (by omega) (by omega)), iv_of y2]
theorem of_same {h1 m0 : List zC} {f w : Nat} (r : qHO h1) (hf : f < 4) (hw : w < 9) (old : ∀ x j, 227 ≤ x → x < 237 → gF m0 x j = gF h1 x j) : ofC h1 f w = ofM m0 f w := by
  unfold ofC ofM
  by_cases a : w < 4
  · obtain ⟨x, x1, x2, -⟩ := r (172 + 3 * f) w (231 + f) w (-5) 5 (Or.inr (Or.inl ⟨f, _, hf, a, rfl, rfl, rfl, rfl, rfl, rfl⟩))
    rw [if_pos a, if_pos a, iv_of x1, iv_eq (old (231 + f) _ (by omega) (by omega)), iv_of x2]
  · rw [if_neg a, if_neg a]
    by_cases b : w = 4
    · obtain ⟨y, y1, y2, -⟩ := r (171 + 3 * f) 2 235 f (-3) 3 (Or.inr (Or.inr (Or.inl ⟨f, hf, rfl, rfl, rfl, rfl, rfl, rfl⟩)))
      rw [if_pos b, if_pos b, iv_of y1, iv_eq (old 235 f (by omega) (by omega)), iv_of y2]
    · rw [if_neg b, if_neg b]
      by_cases c : w = 5
      · obtain ⟨z, z1, z2, -⟩ := r (171 + 3 * f) 3 236 f (-1) 23 (Or.inr (Or.inr (Or.inr ⟨f, hf, rfl, rfl, rfl, rfl, rfl, rfl⟩)))
        rw [if_pos c, if_pos c, iv_of z1, iv_eq (old 236 f (by omega) (by omega)), iv_of z2]
      · rw [if_neg c, if_neg c]
        obtain ⟨x, x1, x2, -⟩ := r (173 + 3 * f) (w - 6) (227 + (w - 6)) f 0 60 (Or.inl ⟨f, w - 6, hf, by omega, rfl, rfl, rfl, rfl, rfl, rfl⟩)
        rw [iv_of x1, iv_eq (old (227 + (w - 6)) f (by omega) (by omega)), iv_of x2]
theorem sum_liking {f x : Int32} {N : Int} {ρ : List Nat} {h1 h2 h3 h5 : List zC} {u2 u5 el : Nat} {cnt dd k r' : Int32} (hl : 239 ≤ h1.length) (hH : tHeap wT N ρ h1) (ro : Ro ρ) (r : qHO h1) (ra : qAR h1) (c0 : gF h1 71 2 = some (.int cnt)) (c1 : gF h1 225 1 = some (.ref el)) (h0c : 0 ≤ cnt.toInt) (h24 : cnt.toInt ≤ 24) (hl2 : h1.length ≤ h2.length)
    (V1 : Q_Lliking cnt f x h1 (.inl (some (.int k))) h2 u2) (E : ∀ p, p < h2.length → ∀ k, gF h3 p k = gF h2 p k) (V2 : Q_mliking el cnt f x h3 (.inl (some (.int r'))) h5 u5) :
    gF h5 213 0 = some (.int k) ∧ (k = 0 → gF h5 238 0 = some (.long r'.toInt64)) ∧ (k = 0 ∨ k = 1 ∨ k = 2) := by
  obtain ⟨k', z1, V1⟩ := V1
  cases z1
  obtain ⟨y2, m0, z2, t0, V2⟩ := V2
  cases z2
  rcases V1 with ⟨rfl, ok, C, hC, po⟩ | ⟨rfl, no, ex⟩
  · have l2 : h2.length = h1.length := po.1
    obtain ⟨A, C', f0, o6, a1, a2, a3, a4, a5, a6, a7, a8, a9, a10, a11, a12, a13, a14, a15, a16⟩ := art_at ra hH ro c0 c1 (iN_cl h0c ok.2)
    rw [hC] at a7
    cases a7
    have ra2 := ra
    obtain ⟨cnt', el', q1, q2, q3, -⟩ := ra2
    rw [c1] at q3
    cases q3
    obtain ⟨⟨l, l1, -⟩, -, -, -, s5, -, -⟩ := al_at hH ro c1 q2
    have hel := gN_lt l1
    have o1 : ∀ x j, x < h1.length → ¬ x = 238 → gF h3 x j = gF h1 x j := fun x j hx n1 => by
      rw [E x (by rw [po.1]; exact hx), po.2.1, if_neg (by omega)]
    have om : ∀ x j, ¬ (x = 213 ∧ j = 0) → gF m0 x j = gF h3 x j := fun x j n => by rw [t0.2.1, if_neg n]
    have hA3 : gF h3 el x.toNatClampNeg = some (.ref A) := by
      rw [o1 _ _ hel (by omega)]
      exact a1
    have m00 : iv m0 A 0 = f0 := by
      rw [iv_eq (om A 0 (by omega)), iv_eq (o1 A 0 a4 (by omega))]
      exact iv_of a12
    have m07 : iv m0 A 7 = o6 := by
      rw [iv_eq (om A 7 (by omega)), iv_eq (o1 A 7 a4 (by omega))]
      exact iv_of a15
    have old : ∀ x j, x < h1.length → ¬ x = 238 → ¬ x = 213 → gF m0 x j = gF h1 x j := fun x j hx n1 n2 => by
      rw [om x j (by omega), o1 x j hx n1]
    rcases V2 with ⟨-, rfl, A', hA', er⟩ | ⟨n, -⟩
    · rw [hA3] at hA'
      cases hA'
      refine ⟨by rw [t0.2.1, if_pos ⟨rfl, rfl⟩], fun _ => ?_, Or.inl rfl⟩
      rw [om 238 0 (by omega), E 238 (by omega), po.2.1, if_pos ⟨rfl, rfl⟩, er]
      congr 2
      exact congrArg Int32.toInt64 (lk_same r (iN4 ok.1) (iv_of a11) m00 a13 (iv_of a14) m07 (fun x j q1 q2 => by
        by_cases z : x = 213
        · omega
        · exact old x j (by omega) (by omega) z))
    · exact absurd ok n
  · rcases V2 with ⟨w, -⟩ | ⟨-, g3⟩
    · exact absurd w no
    · exact ⟨by rw [g3.2.1, if_pos ⟨rfl, rfl⟩], fun z => absurd z (by decide), Or.inr (Or.inl rfl)⟩
theorem sum_wouldVote {x hv rep : Int32} {N : Int} {ρ : List Nat} {h1 h2 h3 h5 : List zC} {u2 u5 el : Nat} {cnt dd k r' : Int32} (hl : 239 ≤ h1.length) (hH : tHeap wT N ρ h1) (ro : Ro ρ) (r : qHO h1) (ra : qAR h1) (c0 : gF h1 71 2 = some (.int cnt)) (c1 : gF h1 225 1 = some (.ref el)) (h0c : 0 ≤ cnt.toInt) (h24 : cnt.toInt ≤ 24) (hl2 : h1.length ≤ h2.length)
    (V1 : Q_LwouldVote cnt x hv rep h1 (.inl (some (.int k))) h2 u2) (E : ∀ p, p < h2.length → ∀ k, gF h3 p k = gF h2 p k) (V2 : Q_mwouldVote el cnt x hv rep h3 (.inl (some (.int r'))) h5 u5) :
    gF h5 213 0 = some (.int k) ∧ (k = 0 → gF h5 238 0 = some (.long r'.toInt64)) ∧ (k = 0 ∨ k = 1 ∨ k = 2) := by
  obtain ⟨k', z1, V1⟩ := V1
  cases z1
  obtain ⟨y2, m0, z2, t0, V2⟩ := V2
  cases z2
  rcases V1 with ⟨rfl, ok, C, hC, po⟩ | ⟨rfl, no, ex⟩
  · have l2 : h2.length = h1.length := po.1
    have num : iv h1 (73 + 4 * x.toNatClampNeg) 0 = x := num_at ra ok.1 h24
    obtain ⟨A, C', f0, o6, a1, a2, a3, a4, a5, a6, a7, a8, a9, a10, a11, a12, a13, a14, a15, a16⟩ := art_at ra hH ro c0 c1 (iN_cl h0c ok.1)
    rw [hC] at a7
    cases a7
    have ra2 := ra
    obtain ⟨cnt', el', q1, q2, q3, -⟩ := ra2
    rw [c1] at q3
    cases q3
    obtain ⟨⟨l, l1, -⟩, -, -, -, s5, -, -⟩ := al_at hH ro c1 q2
    have hel := gN_lt l1
    have o1 : ∀ x j, x < h1.length → ¬ x = 238 → gF h3 x j = gF h1 x j := fun x j hx n1 => by
      rw [E x (by rw [po.1]; exact hx), po.2.1, if_neg (by omega)]
    have om : ∀ x j, ¬ (x = 213 ∧ j = 0) → gF m0 x j = gF h3 x j := fun x j n => by rw [t0.2.1, if_neg n]
    have hA3 : gF h3 el x.toNatClampNeg = some (.ref A) := by
      rw [o1 _ _ hel (by omega)]
      exact a1
    have m00 : iv m0 A 0 = f0 := by
      rw [iv_eq (om A 0 (by omega)), iv_eq (o1 A 0 a4 (by omega))]
      exact iv_of a12
    have m07 : iv m0 A 7 = o6 := by
      rw [iv_eq (om A 7 (by omega)), iv_eq (o1 A 7 a4 (by omega))]
      exact iv_of a15
    have old : ∀ x j, x < h1.length → ¬ x = 238 → ¬ x = 213 → gF m0 x j = gF h1 x j := fun x j hx n1 n2 => by
      rw [om x j (by omega), o1 x j hx n1]
    rcases V2 with ⟨-, rfl, A', hA', er⟩ | ⟨n, -⟩
    · rw [hA3] at hA'
      cases hA'
      refine ⟨by rw [t0.2.1, if_pos ⟨rfl, rfl⟩], fun _ => ?_, Or.inl rfl⟩
      rw [om 238 0 (by omega), E 238 (by omega), po.2.1, if_pos ⟨rfl, rfl⟩, er]
      congr 2
      exact congrArg Int32.toInt64 (bal_same r (iv_of a11) m00 a13 (iv_of a14) m07 a16 num (fun x j q1 q2 => old x j (by omega) (by omega) (by omega)) _ (iN3 ok.2))
    · exact absurd ok n
  · rcases V2 with ⟨w, -⟩ | ⟨-, g3⟩
    · exact absurd w no
    · exact ⟨by rw [g3.2.1, if_pos ⟨rfl, rfl⟩], fun z => absurd z (by decide), Or.inr (Or.inl rfl)⟩
theorem sum_ofFaction {h1 h2 h3 h5 : List zC} {u2 u5 : Nat} {f w k r' : Int32} (hl : 239 ≤ h1.length) (r : qHO h1) (hl2 : h1.length ≤ h2.length)
    (V1 : Q_LofFaction f w h1 (.inl (some (.int k))) h2 u2) (E : ∀ p, p < h2.length → ∀ k, gF h3 p k = gF h2 p k) (V2 : Q_mofFaction f w h3 (.inl (some (.int r'))) h5 u5) :
    gF h5 213 0 = some (.int k) ∧ (k = 0 → gF h5 238 0 = some (.long r'.toInt64)) ∧ (k = 0 ∨ k = 1 ∨ k = 2) := by
  obtain ⟨k', z1, V1⟩ := V1
  cases z1
  obtain ⟨y2, m0, z2, t0, V2⟩ := V2
  cases z2
  rcases V1 with ⟨rfl, ok, po⟩ | ⟨rfl, no, ex⟩ | ⟨rfl, yes, no, ex⟩
  · have l2 : h2.length = h1.length := po.1
    rcases V2 with ⟨-, rfl, er⟩ | ⟨n, -⟩ | ⟨-, n, -⟩
    · refine ⟨by rw [t0.2.1, if_pos ⟨rfl, rfl⟩], fun _ => ?_, Or.inl rfl⟩
      rw [t0.2.1, if_neg (by omega), E 238 (by omega), po.2.1, if_pos ⟨rfl, rfl⟩, er]
      congr 2
      refine congrArg Int32.toInt64 (of_same r (iN4 ok.1) ?_ (fun x j q1 q2 => ?_))
      · obtain ⟨b1, b2⟩ := ok.2
        have z8 : (8 : Int32).toInt = 8 := rfl
        show w.toInt.toNat < 9
        omega
      · by_cases z : x = 213
        · omega
        · rw [t0.2.1, if_neg (by omega), E x (by omega), po.2.1, if_neg (by omega)]
    · exact absurd ok.1 n
    · exact absurd ok.2 n
  · rcases V2 with ⟨w, -⟩ | ⟨-, g3⟩ | ⟨w, -⟩
    · exact absurd w.1 no
    · exact ⟨by rw [g3.2.1, if_pos ⟨rfl, rfl⟩], fun z => absurd z (by decide), Or.inr (Or.inl rfl)⟩
    · exact absurd w no
  · rcases V2 with ⟨w, -⟩ | ⟨w, -⟩ | ⟨-, -, g3⟩
    · exact absurd w.2 no
    · exact absurd yes w
    · exact ⟨by rw [g3.2.1, if_pos ⟨rfl, rfl⟩], fun z => absurd z (by decide), Or.inr (Or.inr rfl)⟩

