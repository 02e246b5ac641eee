/-! ===== the relation of all, on ===== -/
/-! ties and ways -/
def qSm (a b : Nat) (hi : Int) (h : List zC) : Prop := ∀ i, i < 4 → ∃ x : Int32, gF h a i = some (.int x) ∧ gF h b i = some (.int x) ∧ 0 ≤ x.toInt ∧ x.toInt ≤ hi
def wSm (ra rb : Nat) (Wr : List (Nat × Nat)) : Bool := Wr.all (fun w => !([ra, rb].contains w.1))
theorem qSm.fr {a b ra rb : Nat} {hi : Int} {Wr : List (Nat × Nat)} {ρ : List Nat} {h h' : List zC} (r : qSm a b hi h) (ha : rho0[a]? = some ra) (hb : rho0[b]? = some rb) (la : a < 239 ∧ b < 239) (hl : 239 ≤ h.length) (ro : Ro ρ) (hF : gFr Wr ρ h h') (hw : wSm ra rb Wr = true) : qSm a b hi h' := fun i hi => by
  obtain ⟨x, x1, x2, x3⟩ := r i hi
  exact ⟨x, by rw [gFr_F hF (ro _ _ ha) (no_in hw (by simp)) (by omega)]; exact x1, by rw [gFr_F hF (ro _ _ hb) (no_in hw (by simp)) (by omega)]; exact x2, x3⟩
theorem qSm.same {a b : Nat} {hi : Int} {h h' : List zC} (r : qSm a b hi h) (e : ∀ x j, x = a ∨ x = b → gF h' x j = gF h x j) : qSm a b hi h' := fun i hi => by
  obtain ⟨x, x1, x2, x3⟩ := r i hi
  exact ⟨x, (e a i (Or.inl rfl)).trans x1, (e b i (Or.inr rfl)).trans x2, x3⟩
theorem sum_tie {h1 h2 h3 h5 : List zC} {u2 u5 : Nat} {m s k r' : Int32} (r : qSm 30 222 2 h1) (hl : 239 ≤ h1.length) (hl2 : h1.length ≤ h2.length) (V1 : Q_Ltie m s h1 (.inl (some (.int k))) h2 u2) (E : ∀ p, p < h2.length → ∀ k, gF h3 p k = gF h2 p k) (V2 : Q_mtie m s h3 (.inl (some (.int r'))) h5 u5) :
    qSm 30 222 2 h5 ∧ gF h5 213 0 = some (.int k) ∧ (k = 0 → gF h5 238 0 = some (.long r'.toInt64)) ∧ (k = 0 ∨ k = 1 ∨ k = 2) := by
  obtain ⟨k', e1, V1⟩ := V1
  cases e1
  obtain ⟨y, m0, e2, t0, V2⟩ := V2
  cases e2
  have no : ∀ (c : Int32), hExt h1 h2 → hPut m0 h5 213 0 (.int c) → qSm 30 222 2 h5 := fun c ex g3 => r.same (fun x j hx => by
    rw [g3.2.1, if_neg (by omega), t0.2.1, if_neg (by omega), E x (by omega), ex.fld (by omega)])
  rcases V1 with ⟨rfl, ok, d, y1, p1, ey, po⟩ | ⟨rfl, n, ex⟩ | ⟨rfl, yes, n, ex⟩
  · have l2 : h2.length = h1.length := by rw [po.1, p1.1]
    have m4 := iN4 ok.1
    obtain ⟨z, w1, w2, w3⟩ := r _ m4
    rcases V2 with ⟨-, g3, er⟩ | ⟨w, -⟩ | ⟨-, w, -⟩
    · have o1 : ∀ x j, x = 30 ∨ x = 222 → ¬ (x = 30 ∧ j = m.toNatClampNeg) → ¬ (x = 222 ∧ j = m.toNatClampNeg) → gF h5 x j = gF h1 x j := fun x j hx a1 a2 => by
        rw [g3.2.1, if_neg a2, t0.2.1, if_neg (by omega), E x (by omega), po.2.1, if_neg (by omega), p1.2.1, if_neg a1]
      refine ⟨fun i hi => ?_, ?_, fun _ => ?_, Or.inl rfl⟩
      · by_cases a : i = m.toNatClampNeg
        · subst a
          refine ⟨s, ?_, by rw [g3.2.1, if_pos ⟨rfl, rfl⟩], ok.2.1, ok.2.2⟩
          rw [g3.2.1, if_neg (by omega), t0.2.1, if_neg (by omega), E _ (by omega), po.2.1, if_neg (by omega), p1.2.1, if_pos ⟨rfl, rfl⟩]
        · obtain ⟨x, x1, x2, x3⟩ := r i hi
          exact ⟨x, (o1 _ _ (Or.inl rfl) (by omega) (by omega)).trans x1, (o1 _ _ (Or.inr rfl) (by omega) (by omega)).trans x2, x3⟩
      · rw [g3.2.1, if_neg (by omega), t0.2.1, if_pos ⟨rfl, rfl⟩]
      · rw [g3.2.1, if_neg (by omega), t0.2.1, if_neg (by omega), E 238 (by omega), po.2.1, if_pos ⟨rfl, rfl⟩, ey, er, iv_of w1, iv_of (show gF m0 222 m.toNatClampNeg = some (.int z) by
          rw [t0.2.1, if_neg (by omega), E _ (by omega), po.2.1, if_neg (by omega), p1.2.1, if_neg (by omega)]
          exact w2)]
    · exact absurd ok.1 w
    · exact absurd ok.2 w
  · rcases V2 with ⟨w, -⟩ | ⟨-, g3⟩ | ⟨w, -⟩
    · exact absurd w.1 n
    · exact ⟨no _ ex g3, by rw [g3.2.1, if_pos ⟨rfl, rfl⟩], fun z => absurd z (by decide), Or.inr (Or.inl rfl)⟩
    · exact absurd w n
  · rcases V2 with ⟨w, -⟩ | ⟨w, -⟩ | ⟨-, -, g3⟩
    · exact absurd w.2 n
    · exact absurd yes w
    · exact ⟨no _ ex g3, by rw [g3.2.1, if_pos ⟨rfl, rfl⟩], fun z => absurd z (by decide), Or.inr (Or.inr rfl)⟩
theorem sum_way {h1 h2 h3 h5 : List zC} {u2 u5 : Nat} {m s k r' : Int32} (r : qSm 25 237 3 h1) (hl : 239 ≤ h1.length) (hl2 : h1.length ≤ h2.length) (V1 : Q_Lway m s h1 (.inl (some (.int k))) h2 u2) (E : ∀ p, p < h2.length → ∀ k, gF h3 p k = gF h2 p k) (V2 : Q_mway m s h3 (.inl (some (.int r'))) h5 u5) :
    qSm 25 237 3 h5 ∧ gF h5 213 0 = some (.int k) ∧ (k = 0 → gF h5 238 0 = some (.long r'.toInt64)) ∧ (k = 0 ∨ k = 1 ∨ k = 2) := by
  obtain ⟨k', e1, V1⟩ := V1
  cases e1
  obtain ⟨y, m0, e2, t0, V2⟩ := V2
  cases e2
  have no : ∀ (c : Int32), hExt h1 h2 → hPut m0 h5 213 0 (.int c) → qSm 25 237 3 h5 := fun c ex g3 => r.same (fun x j hx => by
    rw [g3.2.1, if_neg (by omega), t0.2.1, if_neg (by omega), E x (by omega), ex.fld (by omega)])
  rcases V1 with ⟨rfl, ok, d, y1, p1, ey, po⟩ | ⟨rfl, n, ex⟩ | ⟨rfl, yes, n, ex⟩
  · have l2 : h2.length = h1.length := by rw [po.1, p1.1]
    have m4 := iN4 ok.1
    obtain ⟨z, w1, w2, w3⟩ := r _ m4
    rcases V2 with ⟨-, g3, er⟩ | ⟨w, -⟩ | ⟨-, w, -⟩
    · have o1 : ∀ x j, x = 25 ∨ x = 237 → ¬ (x = 25 ∧ j = m.toNatClampNeg) → ¬ (x = 237 ∧ j = m.toNatClampNeg) → gF h5 x j = gF h1 x j := fun x j hx a1 a2 => by
        rw [g3.2.1, if_neg a2, t0.2.1, if_neg (by omega), E x (by omega), po.2.1, if_neg (by omega), p1.2.1, if_neg a1]
      refine ⟨fun i hi => ?_, ?_, fun _ => ?_, Or.inl rfl⟩
      · by_cases a : i = m.toNatClampNeg
        · subst a
          refine ⟨s, ?_, by rw [g3.2.1, if_pos ⟨rfl, rfl⟩], ok.2.1, ok.2.2⟩
          rw [g3.2.1, if_neg (by omega), t0.2.1, if_neg (by omega), E _ (by omega), po.2.1, if_neg (by omega), p1.2.1, if_pos ⟨rfl, rfl⟩]
        · obtain ⟨x, x1, x2, x3⟩ := r i hi
          exact ⟨x, (o1 _ _ (Or.inl rfl) (by omega) (by omega)).trans x1, (o1 _ _ (Or.inr rfl) (by omega) (by omega)).trans x2, x3⟩
      · rw [g3.2.1, if_neg (by omega), t0.2.1, if_pos ⟨rfl, rfl⟩]
      · rw [g3.2.1, if_neg (by omega), t0.2.1, if_neg (by omega), E 238 (by omega), po.2.1, if_pos ⟨rfl, rfl⟩, ey, er, iv_of w1, iv_of (show gF m0 237 m.toNatClampNeg = some (.int z) by
          rw [t0.2.1, if_neg (by omega), E _ (by omega), po.2.1, if_neg (by omega), p1.2.1, if_neg (by omega)]
          exact w2)]
    · exact absurd ok.1 w
    · exact absurd ok.2 w
  · rcases V2 with ⟨w, -⟩ | ⟨-, g3⟩ | ⟨w, -⟩
    · exact absurd w.1 n
    · exact ⟨no _ ex g3, by rw [g3.2.1, if_pos ⟨rfl, rfl⟩], fun z => absurd z (by decide), Or.inr (Or.inl rfl)⟩
    · exact absurd w n
  · rcases V2 with ⟨w, -⟩ | ⟨w, -⟩ | ⟨-, -, g3⟩
    · exact absurd w.2 n
    · exact absurd yes w
    · exact ⟨no _ ex g3, by rw [g3.2.1, if_pos ⟨rfl, rfl⟩], fun z => absurd z (by decide), Or.inr (Or.inr rfl)⟩

