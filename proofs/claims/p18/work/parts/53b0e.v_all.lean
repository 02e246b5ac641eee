/-! ===== the relation of all, on ===== -/
/-- an article's state is the same on both sides -/
theorem st_eq {N : Int} {ρ : List Nat} {h1 h2 h3 : List zC} {cnt : Int32} {el n A : Nat} (r : qAR h1) (hl : 239 ≤ h1.length) (hH : tHeap wT N ρ h1) (ro : Ro ρ) (c0 : gF h1 71 2 = some (.int cnt)) (c1 : gF h1 225 1 = some (.ref el)) (hn : n < cnt.toNatClampNeg) (hA : gF h3 el n = some (.ref A)) (E : ∀ p, p < h2.length → ∀ k, gF h3 p k = gF h2 p k) (hl2 : h1.length ≤ h2.length) (old : ∀ x j, x < h1.length → ¬ x = 213 → ¬ x = 238 → ¬ x = 183 → ¬ (71 ≤ x ∧ x < 169) → ¬ (169 ≤ x ∧ x < 183) → ¬ x = 184 → gF h2 x j = gF h1 x j) : iv h3 A 9 = iv h1 (73 + 4 * n) 2 := by
  obtain ⟨cnt', el', r1, r2, r3, r4, r5, r6, r7, r8, r9, r10⟩ := r
  rw [c0] at r1
  cases r1
  rw [c1] at r3
  cases r3
  obtain ⟨⟨l, l1, -⟩, -, -, -, -, s6, s7⟩ := al_at hH ro c1 r2
  have hel := gN_lt l1
  obtain ⟨B, B1, B2, B3⟩ := r7 n hn
  have hB := B3.A
  rw [E el (by omega), old el n hel (by omega) (by omega) (by omega) (by omega) (by omega) (by omega), B1] at hA
  cases hA
  obtain ⟨C, LS, LN, AS, AN, G, st, fr, en, -, -, -, ⟨y0, y1⟩, -⟩ := B3
  rw [iv_of y0, iv_eq (show gF h3 A 9 = gF h1 A 9 by rw [E A (by omega), old A 9 hB.2 (by omega) (by omega) (by omega) (by omega) (by omega) (by omega)]), iv_of y1]
theorem sum_write {N : Int} {ρ : List Nat} {h1 h2 h3 h5 : List zC} {u2 u5 L s b i : Nat} {T : Nat → Int32} {k r' cnt a bd : Int32} {el : Nat} (hl : 239 ≤ h1.length) (hH : tHeap wT N ρ h1) (ro : Ro ρ) (r : qAR h1) (c0 : gF h1 71 2 = some (.int cnt)) (c1 : gF h1 225 1 = some (.ref el)) (h0c : 0 ≤ cnt.toInt) (h24 : cnt.toInt ≤ 24) (hL : L ≤ 60) (hl2 : h1.length ≤ h2.length) (hl3 : h2.length ≤ h3.length) (t1 : gF h1 183 1 = some (.int (Int32.ofNat L))) (t3 : ∀ i, i < L → gF h1 184 i = some (.int (T i))) (fm : qFm T L s a bd h3)
    (V1 : Q_Lwrite T L cnt h1 (.inl (some (.int k))) h2 u2) (E : ∀ p, p < h2.length → ∀ k, gF h3 p k = gF h2 p k) (V2 : Q_mwrite T L s b el cnt h3 (.inl (some (.int r'))) h5 u5) :
    (qFed h5 ∧ qAR h5) ∧ gF h5 213 0 = some (.int k) ∧ (k = 0 → gF h5 238 0 = some (.long r'.toInt64)) ∧ (k = 0 ∨ k = 1 ∨ k = 2) := by
  obtain ⟨k', z1, V1⟩ := V1
  cases z1
  obtain ⟨y, m0, z2, t0, V2⟩ := V2
  cases z2
  have lm : m0.length = h3.length := t0.1
  have om : ∀ x j, ¬ (x = 213 ∧ j = 0) → gF m0 x j = gF h3 x j := fun x j n => by rw [t0.2.1, if_neg n]
  have ck : cnt.toNatClampNeg = cnt.toInt.toNat := rfl
  rcases V1 with ⟨rfl, l24, d, c, td, po⟩ | ⟨rfl, n24, ex⟩
  · rcases V2 with ⟨w, -⟩ | ⟨w24, w1, w3, qw, V2⟩
    · rw [w] at l24
      exact absurd l24 (by decide)
    · obtain ⟨d1, d2, d3, d4, d', zd, d5⟩ := td.1
      cases zd
      have lc : h2.length = h1.length + 3 := by rw [po.1]; exact d1
      have nk : cnt.toNatClampNeg = cnt.toInt.toNat := rfl
      have req : pRead T L cnt Fz = rd0 T L cnt Fz := read_eq hL h0c f8z
      have o3 : ∀ x j, x < h2.length → ¬ (x = 213 ∧ (j = 0 ∨ j = 10 ∨ j = 16 ∨ j = 17)) → ¬ x = 238 → gF w3 x j = gF c x j := fun x j hx a1 a2 => by
        rw [qw.old x j (by omega) (by omega), om x j (by omega), E x hx, po.2.1, if_neg (by omega)]
      have o1 : ∀ x j, x < h1.length → ¬ x = 213 → ¬ x = 238 → ¬ x = 183 → ¬ (x = 71 ∧ (j = 2 ∨ j = 3 ∨ j = 4)) → ¬ (73 ≤ x ∧ x < 169 ∧ j = 5) → ¬ (x = 73 + 4 * cnt.toNatClampNeg ∧ j = 1) → gF w3 x j = gF h1 x j := fun x j hx a1 a2 a3 a4 a5 a6 => by
        rw [o3 x j (by omega) (by omega) a2]
        exact d3 x j hx (by omega) a6 a4 a5
      obtain ⟨a2, bd2, v1, v2, v3⟩ := qw.res (by omega)
      have lw := qw.len
      have fed : ∀ h6, (∀ x j, x < w3.length → ¬ x = 225 → ¬ x = el → gF h6 x j = gF w3 x j) → (¬ el = 183 ∧ ¬ el = 213) → qFed h6 := fun h6 o6 ne => by
        refine fed_empty ?_ ?_ ((o6 213 16 (by omega) (by omega) (fun z => ne.2 z.symm)).trans v1) ((o6 213 17 (by omega) (by omega) (fun z => ne.2 z.symm)).trans v2) ?_
        · rw [o6 183 1 (by omega) (by omega) (fun z => ne.1 z.symm), o3 183 1 (by omega) (by omega) (by omega)]
          exact d2
        · rw [o6 213 10 (by omega) (by omega) (fun z => ne.2 z.symm), qw.2.2.1, if_pos ⟨rfl, rfl⟩]
        · rcases v3 with ⟨z, -⟩ | ⟨z, -⟩
          · exact Or.inr z
          · exact Or.inl z
      have th : gF w3 213 0 = some (.int 0) := by
        rw [qw.old 213 0 (by omega) (by omega), t0.2.1, if_pos ⟨rfl, rfl⟩]
      have ou : gF w3 238 0 = gF h2 238 0 := by
        rw [qw.old 238 0 (by omega) (by omega), om 238 0 (by omega), E 238 (by omega)]
      obtain ⟨cnt', el', r1, r2, r3, r4, r5, r6, r7, r8, r9, r10⟩ := id r
      rw [c0] at r1
      cases r1
      rw [c1] at r3
      cases r3
      obtain ⟨⟨l, l1, -⟩, -, -, -, -, s6, s7⟩ := al_at hH ro c1 r2
      have hel := gN_lt l1
      have nel : ¬ el = 183 ∧ ¬ el = 213 := by omega
      rcases V2 with ⟨rn, ey, he⟩ | ⟨p, F, ry, az, ad, ey⟩
      · rw [he]
        rcases d5 with ⟨dz, -, g1, g2⟩ | ⟨-, p, F, f, -⟩
        · refine ⟨⟨fed w3 (fun _ _ _ _ _ => rfl) nel, r.same hl hH ro (fun x j hx a1 a2 a3 a4 a5 => ?_)⟩, th, fun _ => ?_, Or.inl rfl⟩
          · by_cases z : x = 73 + 4 * cnt.toNatClampNeg ∧ j = 1
            · rw [o3 x j (by omega) (by omega) a2, z.1, z.2]
              exact g1
            · by_cases w : x = 71 ∧ j = 2
              · rw [o3 x j (by omega) (by omega) a2, w.1, w.2]
                exact g2
              · exact o1 x j hx a1 a2 a3 (by omega) a5 z
          · rw [ou, po.2.1, if_pos ⟨rfl, rfl⟩, dz, ey]
            rfl
        · rw [req, rn] at f
          cases f
      · rcases d5 with ⟨-, f, -⟩ | ⟨db, p2, F2, f, cz, g1, g2⟩
        · rw [req, ry] at f
          cases f
        · rw [req, ry] at f
          cases f
          obtain ⟨w1n, w2n, w3n⟩ := mx_w h0c l24
          obtain ⟨-, ad2, ad3, el2, b1, b2, b3, b4, b5, b6, b7⟩ := ad
          have lel : el < w3.length := by omega
          have ne : qAE h5 cnt.toNatClampNeg m0.length := by
            obtain ⟨x0, x1, x2⟩ := r9 cnt.toNatClampNeg (Nat.le_refl _) (by omega)
            refine art_new (p := p) hl (by omega) (by omega) cz az qw ?_ ?_ ?_ ?_ (fun x j a1 a2 => ?_) (fun x j a1 a2 => b6 x (by omega) (by omega) (by omega) j)
            · rw [b6 _ (by omega) (by omega) (by omega), o3 _ _ (by omega) (by omega) (by omega)]
              exact g1
            · rw [b6 _ (by omega) (by omega) (by omega), o1 _ _ (by omega) (by omega) (by omega) (by omega) (by omega) (by omega) (by omega)]
              exact x0
            · rw [b6 _ (by omega) (by omega) (by omega), o1 _ _ (by omega) (by omega) (by omega) (by omega) (by omega) (by omega) (by omega)]
              exact x1
            · rw [b6 _ (by omega) (by omega) (by omega), o1 _ _ (by omega) (by omega) (by omega) (by omega) (by omega) (by omega) (by omega)]
              exact x2
            · rw [b6 _ (by omega) (by omega) (by omega), o3 _ _ (by omega) (by omega) (by omega)]
          refine ⟨⟨fed h5 (fun x j a1 a2 a3 => b6 x a1 a2 a3 j) nel, r.put (n := cnt.toNatClampNeg) (A := m0.length) hl hH ro c0 c1 ?_ b2 b1 (fun k k1 k2 => ?_) b4 (by omega) ?_ ne (by omega) (fun x j hx a1 a2 a3 a4 a5 a6 a7 a8 => ?_) ?_ ⟨by omega, by omega⟩ (fun k hk => by omega)⟩, ?_, fun _ => ?_, Or.inl rfl⟩
          · rw [b6 _ (by omega) (by omega) (by omega), o3 _ _ (by omega) (by omega) (by omega), g2, w1n]
          · refine ⟨by omega, (b3 k (by omega)).trans ?_⟩
            exact o1 el k hel (by omega) (by omega) (by omega) (by omega) (by omega) (by omega)
          · rcases b5 with z | z <;> omega
          · rw [b6 x (by omega) a5 a1, o1 x j hx a2 a3 a4 (by omega) a7 a8]
          · rcases b5 with z | z
            · exact Or.inl z
            · exact Or.inr (by omega)
          · rw [b6 213 (by omega) (by omega) (by omega)]
            exact th
          · rw [b6 238 (by omega) (by omega) (by omega), ou, po.2.1, if_pos ⟨rfl, rfl⟩, db, ey, if_neg (by decide), w1n, add1s]
  · rcases V2 with ⟨-, g3⟩ | ⟨w, -⟩
    · exact ⟨⟨fed_no t1 t3 fm hl hl2 ex E t0 g3, art_no r hl hH ro hl2 ex E t0 g3⟩, by rw [g3.2.1, if_pos ⟨rfl, rfl⟩], fun z => absurd z (by decide), Or.inr (Or.inl rfl)⟩
    · exfalso
      have z24 : (24 : Int32).toInt = 24 := rfl
      exact w (Int32.toInt_inj.mp (by omega))
theorem sum_amend {N : Int} {ρ : List Nat} {h1 h2 h3 h5 : List zC} {u2 u5 L s b i : Nat} {T : Nat → Int32} {k r' cnt nb a bd : Int32} {el : Nat} (hl : 239 ≤ h1.length) (hH : tHeap wT N ρ h1) (ro : Ro ρ) (r : qAR h1) (c0 : gF h1 71 2 = some (.int cnt)) (c1 : gF h1 225 1 = some (.ref el)) (h0c : 0 ≤ cnt.toInt) (h24 : cnt.toInt ≤ 24) (hL : L ≤ 60) (hl2 : h1.length ≤ h2.length) (hl3 : h2.length ≤ h3.length) (t1 : gF h1 183 1 = some (.int (Int32.ofNat L))) (t3 : ∀ i, i < L → gF h1 184 i = some (.int (T i))) (fm : qFm T L s a bd h3)
    (V1 : Q_Lamend T L cnt nb h1 (.inl (some (.int k))) h2 u2) (E : ∀ p, p < h2.length → ∀ k, gF h3 p k = gF h2 p k) (V2 : Q_mamend T L s b el cnt nb h3 (.inl (some (.int r'))) h5 u5) :
    (qFed h5 ∧ qAR h5) ∧ gF h5 213 0 = some (.int k) ∧ (k = 0 → gF h5 238 0 = some (.long r'.toInt64)) ∧ (k = 0 ∨ k = 1 ∨ k = 2) := by
  obtain ⟨k', z1, V1⟩ := V1
  cases z1
  obtain ⟨y, m0, z2, t0, V2⟩ := V2
  cases z2
  have lm : m0.length = h3.length := t0.1
  have om : ∀ x j, ¬ (x = 213 ∧ j = 0) → gF m0 x j = gF h3 x j := fun x j n => by rw [t0.2.1, if_neg n]
  have ck : cnt.toNatClampNeg = cnt.toInt.toNat := rfl
  have nk0 : nb.toNatClampNeg = nb.toInt.toNat := rfl
  rcases V1 with ⟨rfl, ok, d, c, td, po⟩ | ⟨rfl, no, ex⟩ | ⟨rfl, yes, no, ex⟩
  · rcases V2 with ⟨-, A0, hA0, ⟨w, -⟩ | ⟨-, w1, w3, qw, V2⟩⟩ | ⟨w, -⟩
    · have l24 : nb.toInt < 24 := by
        have := ok.1.2
        omega
      exact absurd (st_eq r hl hH ro c0 c1 (iN_cl h0c ok.1) (A := A0) hA0 E hl2 (fun x j hx a1 a2 a3 a4 a5 a6 => by
        rw [po.2.1, if_neg (by omega)]
        obtain ⟨-, -, d3, -⟩ := td.1
        exact d3 x j hx (by omega) (by omega) (by omega) (by omega)) |>.trans ok.2) w
    · obtain ⟨d1, d2, d3, d4, d', zd, d5⟩ := td.1
      cases zd
      have lc : h2.length = h1.length + 3 := by rw [po.1]; exact d1
      have l24 : nb.toInt < 24 := by
        have := ok.1.2
        omega
      have x0 : 0 ≤ nb.toInt := ok.1.1
      have nk : nb.toNatClampNeg = nb.toInt.toNat := rfl
      have req : pRead T L nb Fz = rd0 T L nb Fz := read_eq hL x0 f8z
      have o3 : ∀ x j, x < h2.length → ¬ (x = 213 ∧ (j = 0 ∨ j = 10 ∨ j = 16 ∨ j = 17)) → ¬ x = 238 → gF w3 x j = gF c x j := fun x j hx a1 a2 => by
        rw [qw.old x j (by omega) (by omega), om x j (by omega), E x hx, po.2.1, if_neg (by omega)]
      have o1 : ∀ x j, x < h1.length → ¬ x = 213 → ¬ x = 238 → ¬ x = 183 → ¬ (x = 71 ∧ (j = 2 ∨ j = 3 ∨ j = 4)) → ¬ (73 ≤ x ∧ x < 169 ∧ j = 5) → ¬ (x = 73 + 4 * nb.toNatClampNeg ∧ j = 1) → gF w3 x j = gF h1 x j := fun x j hx a1 a2 a3 a4 a5 a6 => by
        rw [o3 x j (by omega) (by omega) a2]
        exact d3 x j hx (by omega) a6 a4 a5
      obtain ⟨a2, bd2, v1, v2, v3⟩ := qw.res (by omega)
      have lw := qw.len
      have fed : ∀ h6, (∀ x j, x < w3.length → ¬ x = 225 → ¬ x = el → gF h6 x j = gF w3 x j) → (¬ el = 183 ∧ ¬ el = 213) → qFed h6 := fun h6 o6 ne => by
        refine fed_empty ?_ ?_ ((o6 213 16 (by omega) (by omega) (fun z => ne.2 z.symm)).trans v1) ((o6 213 17 (by omega) (by omega) (fun z => ne.2 z.symm)).trans v2) ?_
        · rw [o6 183 1 (by omega) (by omega) (fun z => ne.1 z.symm), o3 183 1 (by omega) (by omega) (by omega)]
          exact d2
        · rw [o6 213 10 (by omega) (by omega) (fun z => ne.2 z.symm), qw.2.2.1, if_pos ⟨rfl, rfl⟩]
        · rcases v3 with ⟨z, -⟩ | ⟨z, -⟩
          · exact Or.inr z
          · exact Or.inl z
      have th : gF w3 213 0 = some (.int 0) := by
        rw [qw.old 213 0 (by omega) (by omega), t0.2.1, if_pos ⟨rfl, rfl⟩]
      have ou : gF w3 238 0 = gF h2 238 0 := by
        rw [qw.old 238 0 (by omega) (by omega), om 238 0 (by omega), E 238 (by omega)]
      obtain ⟨cnt', el', r1, r2, r3, r4, r5, r6, r7, r8, r9, r10⟩ := id r
      rw [c0] at r1
      cases r1
      rw [c1] at r3
      cases r3
      obtain ⟨⟨l, l1, -⟩, -, -, -, -, s6, s7⟩ := al_at hH ro c1 r2
      have hel := gN_lt l1
      have nel : ¬ el = 183 ∧ ¬ el = 213 := by omega
      rcases V2 with ⟨rn, ey, he⟩ | ⟨p, F, ry, az, ad, ey⟩
      · rw [he]
        rcases d5 with ⟨dz, -, g1, g2⟩ | ⟨-, p, F, f, -⟩
        · refine ⟨⟨fed w3 (fun _ _ _ _ _ => rfl) nel, r.same hl hH ro (fun x j hx a1 a2 a3 a4 a5 => ?_)⟩, th, fun _ => ?_, Or.inl rfl⟩
          · by_cases z : x = 73 + 4 * nb.toNatClampNeg ∧ j = 1
            · rw [o3 x j (by omega) (by omega) a2, z.1, z.2]
              exact g1
            · by_cases w : x = 71 ∧ j = 2
              · rw [o3 x j (by omega) (by omega) a2, w.1, w.2]
                exact g2
              · exact o1 x j hx a1 a2 a3 (by omega) a5 z
          · rw [ou, po.2.1, if_pos ⟨rfl, rfl⟩, dz, ey]
            rfl
        · rw [req, rn] at f
          cases f
      · rcases d5 with ⟨-, f, -⟩ | ⟨db, p2, F2, f, cz, g1, g2⟩
        · rw [req, ry] at f
          cases f
        · rw [req, ry] at f
          cases f
          have cb := mx_a ok.1.1 ok.1.2 h24
          have xb := iN_cl h0c ok.1
          obtain ⟨A, A1, A2, C, LS, LN, AS, AN, G, st, fr, en, x1, x2, x3, ⟨y0, -⟩, ⟨y1, -⟩, ⟨y2, -⟩, y3⟩ := r7 _ xb
          have s0 : st = 0 := (iv_of y0).symm.trans ok.2
          obtain ⟨f0, f1⟩ := y3 s0
          rw [s0] at y0
          rw [f0] at y1
          rw [f1] at y2
          have b6 : ∀ x j, ¬ (x = el ∧ j = nb.toNatClampNeg) → gF h5 x j = gF w3 x j := fun x j z => by rw [ad.2.1, if_neg z]
          have ne : qAE h5 nb.toNatClampNeg m0.length := by
            refine art_new (p := p) hl (by omega) (by omega) cz az qw ?_ ?_ ?_ ?_ (fun x j a1 a2 => ?_) (fun x j a1 a2 => b6 x j (by omega))
            · rw [b6 _ _ (by omega), o3 _ _ (by omega) (by omega) (by omega)]
              exact g1
            · rw [b6 _ _ (by omega), o1 _ _ (by omega) (by omega) (by omega) (by omega) (by omega) (by omega) (by omega)]
              exact y0
            · rw [b6 _ _ (by omega), o1 _ _ (by omega) (by omega) (by omega) (by omega) (by omega) (by omega) (by omega)]
              exact y1
            · rw [b6 _ _ (by omega), o1 _ _ (by omega) (by omega) (by omega) (by omega) (by omega) (by omega) (by omega)]
              exact y2
            · rw [b6 _ _ (by omega), o3 _ _ (by omega) (by omega) (by omega)]
          refine ⟨⟨fed h5 (fun x j a1 a2 a3 => b6 x j (by omega)) nel, r.put (n := nb.toNatClampNeg) (A := m0.length) hl hH ro c0 c1 ?_ ?_ ?_ (fun k k1 k2 => ?_) ?_ (by omega) (by omega) ne (by omega) (fun x j hx a1 a2 a3 a4 a5 a6 a7 a8 => ?_) (Or.inl rfl) ⟨h0c, h24⟩ (fun k hk => hk)⟩, ?_, fun _ => ?_, Or.inl rfl⟩
          · rw [b6 _ _ (by omega), o3 _ _ (by omega) (by omega) (by omega), g2, cb]
          · rw [b6 _ _ (by omega), o1 _ _ (by omega) (by omega) (by omega) (by omega) (by omega) (by omega) (by omega)]
            exact r2
          · rw [b6 _ _ (by omega), o1 _ _ (by omega) (by omega) (by omega) (by omega) (by omega) (by omega) (by omega)]
            exact c1
          · refine ⟨k1, ?_⟩
            rw [b6 _ _ (by omega), o1 el k hel (by omega) (by omega) (by omega) (by omega) (by omega) (by omega)]
          · rw [ad.2.1, if_pos ⟨rfl, rfl⟩]
          · rw [b6 _ _ (by omega), o1 x j hx a2 a3 a4 (by omega) a7 a8]
          · rw [b6 _ _ (by omega)]
            exact th
          · rw [b6 _ _ (by omega), ou, po.2.1, if_pos ⟨rfl, rfl⟩, db, ey, if_neg (by decide)]
            rfl
    · exact absurd ok.1 w
  · rcases V2 with ⟨w, -⟩ | ⟨-, g3⟩
    · exact absurd w no
    · exact ⟨⟨fed_no t1 t3 fm hl hl2 ex E t0 g3, art_no r hl hH ro hl2 ex E t0 g3⟩, by rw [g3.2.1, if_pos ⟨rfl, rfl⟩], fun z => absurd z (by decide), Or.inr (Or.inl rfl)⟩
  · rcases V2 with ⟨-, A0, hA0, ⟨-, g3⟩ | ⟨w, -⟩⟩ | ⟨w, -⟩
    · exact ⟨⟨fed_no t1 t3 fm hl hl2 ex E t0 g3, art_no r hl hH ro hl2 ex E t0 g3⟩, by rw [g3.2.1, if_pos ⟨rfl, rfl⟩], fun z => absurd z (by decide), Or.inr (Or.inr rfl)⟩
    · exact absurd ((st_eq r hl hH ro c0 c1 (iN_cl h0c yes) (A := A0) hA0 E hl2 (fun x j hx _ _ _ _ _ _ => ex.fld hx j)).symm.trans w) no
    · exact absurd yes w
/-! pledge, vote, repeal -/
/-- an article of both sides, and what stands in it -/
theorem art_at {N : Int} {ρ : List Nat} {h : List zC} {cnt : Int32} {el n : Nat} (r : qAR h) (hH : tHeap wT N ρ h) (ro : Ro ρ) (c0 : gF h 71 2 = some (.int cnt)) (c1 : gF h 225 1 = some (.ref el)) (hn : n < cnt.toNatClampNeg) : ∃ (A C : Nat) (f0 o6 : Int32), gF h el n = some (.ref A) ∧ ¬ A = el ∧ 239 ≤ A ∧ A < h.length ∧ qAE h n A ∧ ρ[A]? = some 53 ∧ gF h (73 + 4 * n) 1 = some (.ref C) ∧ 239 ≤ C ∧ C < h.length ∧ ρ[C]? = some 23 ∧ gF h C 0 = some (.int f0) ∧ gF h A 0 = some (.int f0) ∧ f0.toNatClampNeg < 4 ∧ gF h C 6 = some (.int o6) ∧ gF h A 7 = some (.int o6) ∧ o6.toInt ≤ 100 := by
  obtain ⟨cnt', el', r1, r2, r3, r4, r5, r6, r7, -, -, -⟩ := r
  rw [c0] at r1
  cases r1
  rw [c1] at r3
  cases r3
  obtain ⟨-, -, -, -, -, -, s7⟩ := al_at hH ro c1 r2
  obtain ⟨A, A1, A2, A3⟩ := r7 n hn
  obtain ⟨e, e1, e2⟩ := s7 n hn
  rw [A1] at e1
  cases e1
  have hA := A3.A
  have q := A3
  obtain ⟨C, LS, LN, AS, AN, F, st, fr, en, x1, x2, x3, -⟩ := A3
  have n24 : n < 24 := by
    have : cnt.toNatClampNeg = cnt.toInt.toNat := rfl
    omega
  obtain ⟨-, -, -, -, -, -, hf⟩ := kind_at hH (ro _ _ (r22 n n24)) (R := _) rfl
  obtain ⟨i, i1, i2⟩ := hf 1 _ x1
  cases i1
  have i2 : ρ[C]? = some 23 := i2
  obtain ⟨-, -, -, -, -, -, hg⟩ := kind_at hH i2 (R := _) rfl
  obtain ⟨y, y1, y2, y3⟩ := hg 0 _ (x2.1 0 (by omega))
  cases y1
  obtain ⟨z, z1, z2, z3⟩ := hg 6 _ (x2.1 6 (by omega))
  cases z1
  have y2 : (0 : Int) ≤ (F 0).toInt := y2
  have y3 : (F 0).toInt ≤ (3 : Int) := y3
  have z3 : (F 6).toInt ≤ (100 : Int) := z3
  exact ⟨A, C, F 0, F 6, A1, A2, hA.1, hA.2, q, e2, x1, x2.2.2.2.2.2.1, gF_lt x2.2.1, i2, x2.1 0 (by omega), x3.1 (0, 0) (by decide), by show (F 0).toInt.toNat < 4; omega, x2.1 6 (by omega), x3.1 (7, 6) (by decide), z3⟩
theorem sum_pledge {N : Int} {ρ : List Nat} {h1 h2 h3 h5 : List zC} {u2 u5 el : Nat} {cnt f b k r' : Int32} (hl : 239 ≤ h1.length) (hH : tHeap wT N ρ h1) (ro : Ro ρ) (r : qHO h1) (ra : qAR h1) (c0 : gF h1 71 2 = some (.int cnt)) (c1 : gF h1 225 1 = some (.ref el)) (h0c : 0 ≤ cnt.toInt) (h24 : cnt.toInt ≤ 24) (hl2 : h1.length ≤ h2.length)
    (V1 : Q_Lpledge cnt f b h1 (.inl (some (.int k))) h2 u2) (E : ∀ p, p < h2.length → ∀ k, gF h3 p k = gF h2 p k) (V2 : Q_mpledge el cnt f b h3 (.inl (some (.int r'))) h5 u5) :
    qHO h5 ∧ gF h5 213 0 = some (.int k) ∧ (k = 0 → gF h5 238 0 = some (.long r'.toInt64)) ∧ (k = 0 ∨ k = 1 ∨ k = 2) := by
  obtain ⟨k', z1, V1⟩ := V1
  cases z1
  obtain ⟨y, m0, z2, t0, V2⟩ := V2
  cases z2
  rcases V1 with ⟨rfl, ok, d, y1, p1, ey, po⟩ | ⟨rfl, no, ex⟩ | ⟨rfl, yes, no, ex⟩
  · have l2 : h2.length = h1.length := by rw [po.1, p1.1]
    have f4 := iN4 ok.1.1
    have old : ∀ x j, x < h1.length → ¬ x = 238 → ¬ (x = 171 + 3 * f.toNatClampNeg ∧ j = 3) → gF h3 x j = gF h1 x j := fun x j hx a1 a2 => by
      rw [E x (by omega), po.2.1, if_neg (by omega), p1.2.1, if_neg a2]
    have p : hoP (171 + 3 * f.toNatClampNeg) 3 236 f.toNatClampNeg (-1) 23 := Or.inr (Or.inr (Or.inr ⟨_, f4, rfl, rfl, rfl, rfl, rfl, rfl⟩))
    obtain ⟨z, w1, w2, -⟩ := r _ _ _ _ _ _ p
    have es : ∀ A, gF h3 el b.toNatClampNeg = some (.ref A) → iv h3 A 9 = iv h1 (73 + 4 * b.toNatClampNeg) 2 := fun A hA => st_eq ra hl hH ro c0 c1 (iN_cl h0c ok.1.2) hA E hl2 (fun x j hx a1 a2 a3 a4 a5 a6 => by
      rw [po.2.1, if_neg (by omega), p1.2.1, if_neg (by omega)])
    have ep : iv h3 236 f.toNatClampNeg = iv h1 (171 + 3 * f.toNatClampNeg) 3 := by
      rw [iv_eq (old 236 f.toNatClampNeg (by omega) (by omega) (by omega)), iv_of w2, iv_of w1]
    rcases V2 with ⟨-, A, hA, ⟨-, g3, er⟩ | ⟨n, -⟩⟩ | ⟨n, -⟩
    · have q := sumH_put r hl p (by have := ok.1.2; obtain ⟨a1, a2⟩ := this; omega) p1 po E t0 g3
      refine ⟨q, ?_, fun _ => ?_, Or.inl rfl⟩
      · rw [g3.2.1, if_neg (by omega), t0.2.1, if_pos ⟨rfl, rfl⟩]
      · rw [g3.2.1, if_neg (by omega), t0.2.1, if_neg (by omega), E 238 (by omega), po.2.1, if_pos ⟨rfl, rfl⟩, ey, er]
        congr 3
        refine pcF_same (n := 4) (fun j hj => ?_) 4 (Nat.le_refl _)
        obtain ⟨v, v1, v2, -⟩ := q (171 + 3 * j) 3 236 j (-1) 23 (Or.inr (Or.inr (Or.inr ⟨_, hj, rfl, rfl, rfl, rfl, rfl, rfl⟩)))
        have e5 : gF h5 (171 + 3 * j) 3 = gF d (171 + 3 * j) 3 := by
          rw [g3.2.1, if_neg (by omega), t0.2.1, if_neg (by omega), E _ (by omega), po.2.1, if_neg (by omega)]
        rw [← iv_eq e5, iv_of v1, iv_of v2]
    · exact absurd ⟨(es A hA).trans ok.2.1, ep.trans ok.2.2⟩ n
    · exact absurd ok.1 n
  · rcases V2 with ⟨w, -⟩ | ⟨-, g3⟩
    · exact absurd w no
    · exact ⟨sumH_no r hl ex hl2 E t0 g3, by rw [g3.2.1, if_pos ⟨rfl, rfl⟩], fun z => absurd z (by decide), Or.inr (Or.inl rfl)⟩
  · have f4 := iN4 yes.1
    rcases V2 with ⟨-, A, hA, ⟨w, -⟩ | ⟨-, g3⟩⟩ | ⟨w, -⟩
    · have es := st_eq ra hl hH ro c0 c1 (iN_cl h0c yes.2) hA E hl2 (fun x j hx _ _ _ _ _ _ => ex.fld hx j)
      obtain ⟨z, w1, w2, -⟩ := r _ _ _ _ _ _ (Or.inr (Or.inr (Or.inr ⟨_, f4, rfl, rfl, rfl, rfl, rfl, rfl⟩)) : hoP (171 + 3 * f.toNatClampNeg) 3 236 f.toNatClampNeg (-1) 23)
      have ep : iv h3 236 f.toNatClampNeg = iv h1 (171 + 3 * f.toNatClampNeg) 3 := by
        rw [iv_eq (show gF h3 236 f.toNatClampNeg = gF h1 236 f.toNatClampNeg by rw [E _ (by omega), ex.fld (by omega)]), iv_of w2, iv_of w1]
      exact absurd ⟨es.symm.trans w.1, ep.symm.trans w.2⟩ no
    · exact ⟨sumH_no r hl ex hl2 E t0 g3, by rw [g3.2.1, if_pos ⟨rfl, rfl⟩], fun z => absurd z (by decide), Or.inr (Or.inr rfl)⟩
    · exact absurd yes w
/-- an article's state is written on both sides -/
theorem qAR.mark {N : Int} {ρ : List Nat} {h1 h5 : List zC} {cnt st fr en : Int32} {el n A : Nat} (r : qAR h1) (hl : 239 ≤ h1.length) (hH : tHeap wT N ρ h1) (ro : Ro ρ) (c0 : gF h1 71 2 = some (.int cnt)) (c1 : gF h1 225 1 = some (.ref el)) (hn : n < cnt.toNatClampNeg) (hA : gF h1 el n = some (.ref A)) (s1 : gF h5 (73 + 4 * n) 2 = some (.int st) ∧ gF h5 A 9 = some (.int st)) (s2 : gF h5 (73 + 4 * n) 3 = some (.int fr) ∧ gF h5 A 10 = some (.int fr)) (s3 : gF h5 (73 + 4 * n) 4 = some (.int en) ∧ gF h5 A 11 = some (.int en)) (s4 : st = 0 → fr = -1 ∧ en = -1)
    (e : ∀ x j, x < h1.length → ¬ x = 213 → ¬ x = 238 → ¬ (169 ≤ x ∧ x < 183) → ¬ (231 ≤ x ∧ x < 237) → ¬ (x = 73 + 4 * n ∧ (j = 2 ∨ j = 3 ∨ j = 4)) → ¬ (x = A ∧ (j = 9 ∨ j = 10 ∨ j = 11)) → gF h5 x j = gF h1 x j) : qAR h5 := by
  obtain ⟨cnt', el', r1, r2, r3, r4, r5, r6, r7, r8, r9, r10⟩ := r
  rw [c0] at r1
  cases r1
  rw [c1] at r3
  cases r3
  obtain ⟨⟨l, l1, -⟩, -, -, -, -, s6, s7⟩ := al_at hH ro c1 r2
  have hel := gN_lt l1
  obtain ⟨A', A1, A2, A3⟩ := r7 n hn
  rw [hA] at A1
  cases A1
  have lA := A3.A
  obtain ⟨eA, eA1, eA2⟩ := s7 n hn
  rw [hA] at eA1
  cases eA1
  have ck : cnt.toNatClampNeg = cnt.toInt.toNat := rfl
  have fe : ∀ k, gF h5 el k = gF h1 el k := fun k => e el k hel (by omega) (by omega) (by omega) (by omega) (by omega) (by omega)
  have cells : ∀ x j, 239 ≤ x → x < h1.length → (ρ[x]? = some 23 ∨ ρ[x]? = some 24 ∨ ρ[x]? = some 37 ∨ ρ[x]? = some 54 ∨ ρ[x]? = some 55) → gF h5 x j = gF h1 x j := fun x j x1 x2 x3 => e x j x2 (by omega) (by omega) (by omega) (by omega) (by omega) (fun w => by
    rw [w.1, eA2] at x3
    simp at x3)
  refine ⟨cnt, el, ?_, ?_, ?_, r4, r5, r6, fun k hk => ?_, fun i j B hi hj e f => r8 i j B hi hj ((fe i).symm.trans e) ((fe j).symm.trans f), fun k k1 k2 => ?_, fun k hk => ?_⟩
  · rw [e _ _ (by omega) (by omega) (by omega) (by omega) (by omega) (by omega) (by omega)]
    exact c0
  · rw [e _ _ (by omega) (by omega) (by omega) (by omega) (by omega) (by omega) (by omega)]
    exact r2
  · rw [e _ _ (by omega) (by omega) (by omega) (by omega) (by omega) (by omega) (by omega)]
    exact c1
  · by_cases z : k = n
    · subst z
      refine ⟨A, (fe k).trans hA, A2, ?_⟩
      obtain ⟨C, LS, LN, AS, AN, F, st', fr', en', x1, x2, x3, -⟩ := A3
      obtain ⟨-, -, -, -, -, -, hf⟩ := kind_at hH (ro _ _ (r22 k (by omega))) (R := _) rfl
      obtain ⟨i, i1, i2⟩ := hf 1 _ x1
      cases i1
      have i2 : ρ[C]? = some 23 := i2
      obtain ⟨-, -, -, -, -, -, hg⟩ := kind_at hH i2 (R := _) rfl
      obtain ⟨j, j1, j2⟩ := hg 9 _ x2.2.1
      cases j1
      have j2 : ρ[LS]? = some 24 := j2
      obtain ⟨j, j1, j3⟩ := hg 10 _ x2.2.2.1
      cases j1
      have j3 : ρ[LN]? = some 37 := j3
      obtain ⟨-, -, -, -, -, -, hm⟩ := kind_at hH eA2 (R := _) rfl
      obtain ⟨j, j1, j4⟩ := hm 4 _ x3.2.1
      cases j1
      have j4 : ρ[AS]? = some 54 := j4
      obtain ⟨j, j1, j5⟩ := hm 5 _ x3.2.2.1
      cases j1
      have j5 : ρ[AN]? = some 55 := j5
      obtain ⟨c1', c2', c3', c4', c5', c6', c7', c8', c9'⟩ := x2
      obtain ⟨a1, a2, a3, a4, a5, a6, a7, a8, a9, a10⟩ := x3
      have eAj : ∀ j, j < 9 → gF h5 A j = gF h1 A j := fun j hj => e A j lA.2 (by omega) (by omega) (by omega) (by omega) (by omega) (by omega)
      refine ⟨C, LS, LN, AS, AN, F, st, fr, en, ?_, ⟨fun j hj => (cells C j c6' (gF_lt c2') (Or.inl i2)).trans (c1' j hj), (cells C 9 c6' (gF_lt c2') (Or.inl i2)).trans c2', (cells C 10 c6' (gF_lt c2') (Or.inl i2)).trans c3', fun j hj => (cells LS j c7' (gF_lt (c4' j hj)) (Or.inr (Or.inl j2))).trans (c4' j hj), fun j hj => (cells LN j c8' (gF_lt (c5' j hj)) (Or.inr (Or.inr (Or.inl j3)))).trans (c5' j hj), c6', c7', c8', c9'⟩,
        ⟨fun f hf => (eAj f.1 (by have : ∀ f ∈ aps, f.1 < 9 := (by decide); exact this f hf)).trans (a1 f hf), (eAj 4 (by omega)).trans a2, (eAj 5 (by omega)).trans a3, fun j hj => (cells AS j a8 (gF_lt (a4 j hj)) (Or.inr (Or.inr (Or.inr (Or.inl j4))))).trans (a4 j hj), fun j hj => (cells AN j a9 (gF_lt (a5 j hj)) (Or.inr (Or.inr (Or.inr (Or.inr j5))))).trans (a5 j hj), a6, a7, a8, a9, a10⟩, s1, s2, s3, s4⟩
      rw [e _ _ (by omega) (by omega) (by omega) (by omega) (by omega) (by omega) (by omega)]
      exact x1
    · obtain ⟨B, B1, B2, B3⟩ := r7 k hk
      obtain ⟨eB, eB1, eB2⟩ := s7 k hk
      rw [B1] at eB1
      cases eB1
      have lB := B3.A
      have ne : ¬ B = A := fun w => z (r8 k n A hk hn (by rw [← w]; exact B1) hA)
      exact ⟨B, (fe k).trans B1, B2, B3.same (by omega) hH ro eB2 (fun j hj => e _ _ (by omega) (by omega) (by omega) (by omega) (by omega) (by omega) (by omega)) (fun j => e _ _ lB.2 (by omega) (by omega) (by omega) (by omega) (by omega) (by omega)) cells⟩
  · have : ∀ j, j < 5 → gF h5 (73 + 4 * k) j = gF h1 (73 + 4 * k) j := fun j hj => e _ _ (by omega) (by omega) (by omega) (by omega) (by omega) (by omega) (by omega)
    rw [this 2 (by omega), this 3 (by omega), this 4 (by omega)]
    exact r9 k k1 k2
  · rw [e _ _ (by omega) (by omega) (by omega) (by omega) (by omega) (by omega) (by omega)]
    exact r10 k hk
theorem num_at {h : List zC} {cnt b : Int32} (r : qAR h) (hb : iN cnt.toInt b) (h24 : cnt.toInt ≤ 24) : iv h (73 + 4 * b.toNatClampNeg) 0 = b := by
  obtain ⟨cnt', el', -, -, -, -, -, -, -, -, -, r10⟩ := r
  obtain ⟨b1, b2⟩ := hb
  have nk : b.toNatClampNeg = b.toInt.toNat := rfl
  rw [iv_of (r10 b.toNatClampNeg (by omega))]
  refine Int32.toInt_inj.mp ?_
  rw [Int32.toInt_ofNat_of_lt (by omega)]
  omega

