/-! ===== the relation of all, on ===== -/
/-! ===== both sides' codes and customs ===== -/
theorem CZ.det {C LS LN LS' LN' : Nat} {h : List zC} {F G : Nat → Int32} (a : CZ C LS LN h F) (b : CZ C LS' LN' h G) : ∀ j, j < 13 → F j = G j := by
  obtain ⟨a1, a2, a3, a4, a5, -⟩ := a
  obtain ⟨b1, b2, b3, b4, b5, -⟩ := b
  rw [a2] at b2
  rw [a3] at b3
  cases b2
  cases b3
  intro j hj
  rcases Nat.lt_or_ge j 9 with z | z
  · exact Value.int.inj (Option.some.inj ((a1 j z).symm.trans (b1 j z)))
  · rcases Nat.lt_or_ge j 11 with y | y
    · have e := (a4 (j - 9) (by omega)).symm.trans (b4 (j - 9) (by omega))
      rw [show 9 + (j - 9) = j by omega] at e
      exact Value.int.inj (Option.some.inj e)
    · have e := (a5 (j - 11) (by omega)).symm.trans (b5 (j - 11) (by omega))
      rw [show 11 + (j - 11) = j by omega] at e
      exact Value.int.inj (Option.some.inj e)
theorem AZ.ext {A AS AN : Nat} {h : List zC} {F G : Nat → Int32} (a : AZ A AS AN h F) (e : ∀ j, j < 13 → F j = G j) : AZ A AS AN h G := by
  obtain ⟨a1, a2, a3, a4, a5, a6, a7⟩ := a
  have l : ∀ x ∈ aps, x.2 < 13 := by decide
  exact ⟨fun x hx => by rw [← e _ (l x hx)]; exact a1 x hx, a2, a3, fun k hk => by rw [← e _ (by omega)]; exact a4 k hk, fun k hk => by rw [← e _ (by omega)]; exact a5 k hk, by rw [← e 8 (by omega)]; exact a6, a7⟩
/-- one article, on both sides -/
def pkA (h : List zC) (el k : Nat) (F : Nat → Int32) : Prop := ∃ (C LS LN A AS AN : Nat) (st fr en : Int32), gF h (73 + 4 * k) 1 = some (.ref C) ∧ CZ C LS LN h F ∧ gF h el k = some (.ref A) ∧ ¬ A = el ∧ AZ A AS AN h F ∧ (gF h (73 + 4 * k) 2 = some (.int st) ∧ gF h A 9 = some (.int st)) ∧ (gF h (73 + 4 * k) 3 = some (.int fr) ∧ gF h A 10 = some (.int fr)) ∧ (gF h (73 + 4 * k) 4 = some (.int en) ∧ gF h A 11 = some (.int en)) ∧ stI st fr en ∧ lmI F ∧ ouI (Int32.ofNat k) (F 6) ∧ exI (Int32.ofNat k) (F 7)
/-- all of them -/
def pkF (h : List zC) (cnt : Int32) (el : Nat) (Fk : Nat → Nat → Int32) : Prop := gF h 71 2 = some (.int cnt) ∧ gF h 225 2 = some (.int cnt) ∧ gF h 225 1 = some (.ref el) ∧ (el = 4 ∨ 239 ≤ el) ∧ 0 ≤ cnt.toInt ∧ cnt.toInt ≤ 24 ∧ srtF h cnt ∧ ∀ k, k < cnt.toNatClampNeg → pkA h el k (Fk k)
theorem pk_at {h : List zC} (ra : qAR h) (rx : qEX h) : ∃ (cnt : Int32) (el : Nat) (Fk : Nat → Nat → Int32), pkF h cnt el Fk := by
  obtain ⟨cnt, el, r1, r2, r3, r4, r5, r6, r7, r8, r9, r10⟩ := ra
  obtain ⟨c', x1, x2, x3, x4, x5⟩ := rx
  rw [r1] at x1
  cases x1
  have key : ∀ k, ∃ F : Nat → Int32, k < cnt.toNatClampNeg → pkA h el k F := fun k => by
    by_cases hk : k < cnt.toNatClampNeg
    · obtain ⟨A, A1, A2, C, LS, LN, AS, AN, F, st, fr, en, q1, q2, q3, ⟨s1, s2⟩, ⟨f1, f2⟩, ⟨n1, n2⟩, q9⟩ := r7 k hk
      obtain ⟨⟨st', fr', en', t1, t2, t3, t4⟩, C', LS', LN', G, w1, w2, w3, w4, w5⟩ := x5 k hk
      rw [q1] at w1
      cases w1
      rw [s1] at t1
      cases t1
      rw [f1] at t2
      cases t2
      rw [n1] at t3
      cases t3
      exact ⟨G, fun _ => ⟨C, LS', LN', A, AS, AN, st, fr, en, q1, w2, A1, A2, q3.ext (q2.det w2), ⟨s1, s2⟩, ⟨f1, f2⟩, ⟨n1, n2⟩, t4, w3, w4, w5⟩⟩
    · exact ⟨fun _ => 0, fun z => absurd z hk⟩
  obtain ⟨Fk, hF⟩ := Classical.skolem.mp key
  exact ⟨cnt, el, Fk, r1, r2, r3, r4, r5, r6, x4, hF⟩
theorem pkA.o {h : List zC} {el k : Nat} {F : Nat → Int32} (p : pkA h el k F) : clO h k = F 6 ∧ toK h k = F 7 ∧ ∀ j, j < 9 → iv h (rf h (73 + 4 * k) 1) j = F j := by
  obtain ⟨C, LS, LN, A, AS, AN, st, fr, en, c1, c2, -⟩ := p
  have r : rf h (73 + 4 * k) 1 = C := rf_of c1
  have key : ∀ j, j < 9 → iv h (rf h (73 + 4 * k) 1) j = F j := fun j hj => by
    rw [r]
    exact iv_of (c2.1 j hj)
  exact ⟨key 6 (by omega), key 7 (by omega), key⟩
theorem pkA.oi {h : List zC} {el k : Nat} {F : Nat → Int32} (p : pkA h el k F) : ouI (Int32.ofNat k) (F 6) ∧ exI (Int32.ofNat k) (F 7) := by
  obtain ⟨C, LS, LN, A, AS, AN, st, fr, en, -, -, -, -, -, -, -, -, -, -, o, e⟩ := p
  exact ⟨o, e⟩
theorem ouI_at {x : Int32} {k n : Nat} (o : ouI (Int32.ofNat k) x) (hk : k < n) (k31 : k < 2147483648) : x.toInt ≤ 100 ∧ (¬ 0 ≤ x → ¬ x = -1 → (-2 - x).toNatClampNeg < n ∧ 0 ≤ (-2 - x).toInt) := by
  rcases o with ⟨a, b⟩ | rfl | ⟨m, m0, m1, rfl⟩
  · exact ⟨b, fun z => absurd (i32_le.mpr (show (0 : Int32).toInt ≤ _ from a)) z⟩
  · exact ⟨by decide, fun _ z => absurd rfl z⟩
  · rw [(toNat_ofNat k31).2] at m1
    have z2 : (-2 : Int32).toInt = -2 := rfl
    have t : (-2 - m).toInt = -2 - m.toInt := by
      rw [Int32.toInt_sub, z2]
      exact Int.bmod_eq_of_le (by omega) (by omega)
    have e : -2 - (-2 - m) = m := Int32.toInt_inj.mp (by
      rw [Int32.toInt_sub, z2, t]
      rw [Int.bmod_eq_of_le (by omega) (by omega)]
      omega)
    refine ⟨by rw [t]; omega, fun _ _ => ?_⟩
    rw [e]
    exact ⟨by show m.toInt.toNat < n; omega, m0⟩
/-- the rules of both sides -/
def pkR (h : List zC) (cr : Int32) (rl : Nat) : Prop := gF h 28 2 = some (.int cr) ∧ gF h 223 2 = some (.int cr) ∧ gF h 223 1 = some (.ref rl) ∧ (rl = 4 ∨ 239 ≤ rl) ∧ 0 ≤ cr.toInt ∧ cr.toInt ≤ 40 ∧ qRFL h cr rl
/-- the cells of the reference are in m as in h -/
def rfO (h m : List zC) : Prop := ∀ x j, x < h.length → (x = 4 ∨ (222 ≤ x ∧ x < 238) ∨ 239 ≤ x) → gF m x j = gF h x j
theorem pk_kC {h : List zC} {cnt cr : Int32} {el rl : Nat} {Fk : Nat → Nat → Int32} (p : pkF h cnt el Fk) (r : pkR h cr rl) (hS : Stc h) : kC h cnt cr (exK h) (geK h cnt) := by
  obtain ⟨p1, p2, p3, p4, p5, p6, ps, pa⟩ := p
  obtain ⟨q1, q2, q3, q4, q5, q6, q7⟩ := r
  have ck : cnt.toNatClampNeg = cnt.toInt.toNat := rfl
  refine ⟨hS, p1, p5, p6, fun k hk => ?_, ps.1, fun k hk a b => ?_, fun k hk => ?_, q1, q5, q6, ps.2.1, ps.2.2, fun par m r f a d => ?_⟩
  · obtain ⟨C, LS, LN, A, AS, AN, st, fr, en, c1, c2, -⟩ := pa k hk
    exact ⟨C, c1, c2.2.2.2.2.2.1⟩
  · have o := (pa k hk).o.1
    rw [o] at a b ⊢
    exact (ouI_at (pa k hk).oi.1 hk (by omega)).2 a b
  · rw [(pa k hk).o.1]
    exact (ouI_at (pa k hk).oi.1 hk (by omega)).1
  · have q := (cust_same (p := par) (m := m) (r := r) (f := f) (a := a) (d := d) q7).2
    have z3 : (-3 : Int32).toInt = -3 := rfl
    have z1 : (100 : Int32).toInt = 100 := rfl
    exact ⟨by have := q.1; omega, by have := q.2; omega⟩
theorem pk_mC {h m : List zC} {cnt cr : Int32} {el rl : Nat} {Fk : Nat → Nat → Int32} (p : pkF h cnt el Fk) (r : pkR h cr rl) (hl : 239 ≤ h.length) (hS : Stc m) (o : rfO h m) : mC m el cnt Fk cr rl := by
  obtain ⟨p1, p2, p3, p4, p5, p6, ps, pa⟩ := p
  obtain ⟨q1, q2, q3, q4, q5, q6, q7⟩ := r
  have ck : cnt.toNatClampNeg = cnt.toInt.toNat := rfl
  refine ⟨(o 225 1 (by omega) (by omega)).trans p3, (o 225 2 (by omega) (by omega)).trans p2, p5, p6, fun k hk => ?_, hS, (o 223 2 (by omega) (by omega)).trans q2, (o 223 1 (by omega) (by omega)).trans q3, q5, q6, fun k hk => ?_, fun k hk a b => ?_⟩
  · obtain ⟨C, LS, LN, A, AS, AN, st, fr, en, c1, c2, a1, a2, a3, s1, s2, s3, -, lm, -⟩ := pa k hk
    have lA := gF_lt a3.2.1
    have lS := gF_lt (a3.2.2.2.1 0 (by omega))
    have lN := gF_lt (a3.2.2.2.2.1 0 (by omega))
    obtain ⟨-, -, -, -, -, -, g1, g2, g3, -⟩ := id a3
    exact ⟨A, AS, AN, (o el k (gF_lt a1) (by omega)).trans a1, a3.cells (fun j => o A j lA (by omega)) (fun j => o AS j lS (by omega)) (fun j => o AN j lN (by omega)), lm⟩
  · obtain ⟨q, w1, w2, w3, w4⟩ := q7.1 k hk
    have lq := w4.lt.2
    have oq : ∀ j, gF m q j = gF h q j := fun j => o q j lq (Or.inr (Or.inr w2))
    obtain ⟨⟨a, b, c, ⟨-, a2⟩, ⟨-, b2⟩, ⟨-, c2⟩, -, ra, rb, -⟩, fl, -⟩ := w4
    refine ⟨q, (o rl k (gF_lt w1) (by omega)).trans w1, fun j hj => ?_, a, b, c, (oq 3).trans a2, (oq 4).trans b2, (oq 6).trans c2, ra, rb⟩
    have e : j = 0 ∨ j = 1 ∨ j = 2 ∨ j = 3 ∨ j = 4 ∨ j = 5 ∨ j = 6 ∨ j = 7 ∨ j = 8 ∨ j = 9 := by omega
    have g : ∀ e ∈ prs, ∃ z : Int32, gF m q e.2 = some (.int z) := fun e he => by
      obtain ⟨z, -, z2⟩ := fl e he
      exact ⟨z, (oq _).trans z2⟩
    rcases e with rfl | rfl | rfl | rfl | rfl | rfl | rfl | rfl | rfl | rfl
    · exact g (0, 0) (by decide)
    · exact g (1, 1) (by decide)
    · exact g (2, 2) (by decide)
    · exact ⟨a, (oq 3).trans a2⟩
    · exact ⟨b, (oq 4).trans b2⟩
    · exact g (5, 5) (by decide)
    · exact ⟨c, (oq 6).trans c2⟩
    · exact g (9, 7) (by decide)
    · exact g (7, 8) (by decide)
    · exact g (8, 9) (by decide)
  · exact (ouI_at (pa k hk).oi.1 hk (by omega)).2 a b
/-- in force, applying: the same on both sides -/
theorem st_fo {st fr en d : Int32} (si : stI st fr en) : foA st fr en d ↔ foP fr en d := by
  have n1 : ∀ {x : Int32}, 30 ≤ x.toInt → ¬ x = -1 := fun g z => by
    rw [z] at g
    exact absurd g (by decide)
  rcases si with ⟨e1, e2, e3⟩ | ⟨e1, e2, e3⟩ | ⟨e1, e2, e3⟩ | ⟨e1, e2, e3⟩
  · rw [e1, e2]
    exact ⟨fun z => absurd z.1 (by decide), fun z => absurd rfl z.1⟩
  · rw [e1, e3]
    exact ⟨fun z => ⟨n1 e2, z.2.1, Or.inl rfl⟩, fun z => ⟨Or.inl rfl, z.2.1, Or.inl rfl⟩⟩
  · rw [e1]
    exact ⟨fun z => ⟨n1 e2, z.2.1, z.2.2.elim (fun y => absurd y (by decide)) Or.inr⟩, fun z => ⟨Or.inr rfl, z.2.1, z.2.2.elim (fun y => absurd y (n1 e3)) Or.inr⟩⟩
  · rw [e1, e2]
    exact ⟨fun z => absurd z.1 (by decide), fun z => absurd rfl z.1⟩
theorem pk_fo {h m : List zC} {el k : Nat} {F : Nat → Int32} {d wo : Int32} (p : pkA h el k F) (hel : el = 4 ∨ 239 ≤ el) (o : rfO h m) : foM m el d wo k = (foC h d k && !decide (Int32.ofNat k = wo)) := by
  obtain ⟨C, LS, LN, A, AS, AN, st, fr, en, c1, c2, a1, a2, a3, ⟨s1, s2⟩, ⟨f1, f2⟩, ⟨n1, n2⟩, si, -⟩ := p
  have hA : 239 ≤ A := a3.2.2.2.2.2.2.1
  have rA : rf m el k = A := rf_of ((o el k (gF_lt a1) (by omega)).trans a1)
  have g : ∀ j, gF m A j = gF h A j := fun j => o A j (gF_lt s2) (by omega)
  unfold foM foC
  rw [rA, iv_of ((g 9).trans s2), iv_of ((g 10).trans f2), iv_of ((g 11).trans n2), iv_of f1, iv_of n1]
  have key := st_fo (d := d) si
  by_cases z : Int32.ofNat k = wo
  · rw [decide_eq_false (fun y : ¬ Int32.ofNat k = wo ∧ foA st fr en d => y.1 z), decide_eq_true z]
    cases decide (foP fr en d) <;> rfl
  · by_cases y : foP fr en d
    · rw [decide_eq_true (show ¬ Int32.ofNat k = wo ∧ foA st fr en d from ⟨z, key.mpr y⟩), decide_eq_true y, decide_eq_false z]
      rfl
    · rw [decide_eq_false (fun w : ¬ Int32.ofNat k = wo ∧ foA st fr en d => y (key.mp w.2)), decide_eq_false y]
      rfl
theorem pk_ap {h m : List zC} {el k D q : Nat} {Fk : Nat → Nat → Int32} {d wo : Int32} (p : pkA h el k (Fk k)) (hel : el = 4 ∨ 239 ≤ el) (o : rfO h m) (e : ∀ j, j < 6 → iv h D j = iv m q j) : apM m el Fk q d wo k = ((foC h d k && !decide (Int32.ofNat k = wo)) && apC h D k) := by
  unfold apM apC
  rw [pk_fo p hel o, ← e 3 (by omega), ← e 2 (by omega), ← e 4 (by omega), ← e 5 (by omega)]
  have ok : okC (iv h (rf h (73 + 4 * k) 1)) (iv h D 3) (iv h D 2) (iv h D 4) (iv h D 5) = okC (Fk k) (iv h D 3) (iv h D 2) (iv h D 4) (iv h D 5) := by
    have w := p.o.2.2
    unfold okC
    rw [w 0 (by omega), w 1 (by omega), w 2 (by omega), w 3 (by omega), w 4 (by omega), w 5 (by omega)]
  rw [decide_eq_decide.mpr (Iff.of_eq ok)]
/-- what an article tells, what the code tells -/
theorem pk_tl {h m : List zC} {cnt : Int32} {el D q : Nat} {Fk : Nat → Nat → Int32} {d wo cu : Int32} {P : Nat → Bool} (p : pkF h cnt el Fk) (o : rfO h m) (e : ∀ j, j < 6 → iv h D j = iv m q j) (hP : ∀ k, k < cnt.toNatClampNeg → P k = (foC h d k && !decide (Int32.ofNat k = wo))) : ∀ dd a op, a < cnt.toNatClampNeg → tlT cnt.toNatClampNeg (exK h) (fun k => P k && apC h D k) P (clO h) cu dd a op = tlM m el cnt.toNatClampNeg Fk q d wo cu dd a op := by
  obtain ⟨p1, p2, p3, p4, p5, p6, ps, pa⟩ := p
  have ck : cnt.toNatClampNeg = cnt.toInt.toNat := rfl
  unfold tlM
  refine tlT_same (fun k a hk _ => ?_) (fun k hk => ?_) (fun k hk => ?_) (fun k hk => ?_) (fun k hk a b => ?_)
  · show decide (toK h k = Int32.ofNat a) = decide (Fk k 7 = Int32.ofNat a)
    rw [(pa k hk).o.2.1]
  · rw [pk_ap (pa k hk) p4 o e, ← hP k hk]
  · rw [pk_fo (pa k hk) p4 o, ← hP k hk]
  · exact (pa k hk).o.1
  · have w := (pa k hk).o.1
    rw [w] at a b ⊢
    exact ((ouI_at (pa k hk).oi.1 hk (by omega)).2 a b).1
theorem pk_ge {h : List zC} {cnt : Int32} {el k : Nat} {F : Nat → Int32} (p : pkA h el k F) (hk : k < cnt.toNatClampNeg) (h24 : cnt.toInt ≤ 24) : geK h cnt k = decide (F 7 = -1) := by
  have ck : cnt.toNatClampNeg = cnt.toInt.toNat := rfl
  show decide (toK h k < 0 ∨ cnt ≤ toK h k) = _
  rw [p.o.2.1]
  rcases p.oi.2 with z | ⟨z1, z2⟩
  · rw [z, decide_eq_true (show (-1 : Int32) < 0 ∨ cnt ≤ -1 from Or.inl (by decide))]
    rfl
  · rw [(toNat_ofNat (m := k) (by omega)).2] at z2
    have z0 : (0 : Int32).toInt = 0 := rfl
    rw [decide_eq_false (fun y : F 7 < 0 ∨ cnt ≤ F 7 => by
      rw [i32_lt, i32_le, z0] at y
      omega), decide_eq_false (fun y : F 7 = -1 => by
      rw [y] at z1
      exact absurd z1 (by decide))]
theorem pk_cd {h m : List zC} {cnt : Int32} {el D q : Nat} {Fk : Nat → Nat → Int32} {d wo cu : Int32} {P : Nat → Bool} (p : pkF h cnt el Fk) (o : rfO h m) (e : ∀ j, j < 6 → iv h D j = iv m q j) (hP : ∀ k, k < cnt.toNatClampNeg → P k = (foC h d k && !decide (Int32.ofNat k = wo))) : cdC h cnt.toNatClampNeg (exK h) (geK h cnt) P cu D = cdM m el cnt.toNatClampNeg Fk q d wo cu := by
  have tl := pk_tl (cu := cu) p o e hP
  obtain ⟨p1, p2, p3, p4, p5, p6, ps, pa⟩ := p
  unfold cdC cdM
  have key : foldT (fun k => (P k && apC h D k) && geK h cnt k) (fun k => tlT cnt.toNatClampNeg (exK h) (fun k => P k && apC h D k) P (clO h) cu 25 k (fun _ => false)) cnt.toNatClampNeg = foldT (fun k => geM Fk k && apM m el Fk q d wo k) (fun k => tlM m el cnt.toNatClampNeg Fk q d wo cu 25 k (fun _ => false)) cnt.toNatClampNeg :=
    foldT_same (n := cnt.toNatClampNeg) (fun k hk => by
      rw [pk_ap (pa k hk) p4 o e, ← hP k hk, pk_ge (pa k hk) hk p6, Bool.and_comm]) (fun k hk _ => tl 25 k _ hk) _ (Nat.le_refl _)
  unfold alT
  rw [key]
/-- customs, and their tie -/
theorem pk_tie {h m : List zC} {cr : Int32} {rl D q : Nat} {d : Int32} (r : pkR h cr rl) (t : qSm 30 222 2 h) (hl : 239 ≤ h.length) (o : rfO h m) (e : ∀ j, j < 6 → iv h D j = iv m q j) (ed : iv m q 6 = d) (m4 : (iv h D 3).toNatClampNeg < 4) : tieC h cr D d = tieM m rl cr q := by
  obtain ⟨q1, q2, q3, q4, q5, q6, q7⟩ := r
  have cu : ∀ par, cuP h cr par D d = cuQ m rl cr par q := fun par => by
    unfold cuP cuQ
    rw [(cust_same q7).1, ← e 3 (by omega), ← e 2 (by omega), ← e 4 (by omega), ← e 5 (by omega), ed]
    refine congrArg Prod.fst (cu_same (n := cr.toNatClampNeg) (fun x hx => ?_) _ (Nat.le_refl _))
    obtain ⟨v, v1, v2, v3, v4⟩ := q7.1 x hx
    refine (dM_same (o rl x (gF_lt v1) (by omega)) (fun z => ?_)).symm
    rw [rf_of v1]
    exact o v z v4.lt.2 (by omega)
  obtain ⟨x, x1, x2, -⟩ := t _ m4
  unfold tieC tieM
  rw [cu, cu, e 0 (by omega), e 1 (by omega), iv_of x1, ← e 3 (by omega), iv_of ((o 222 _ (by omega) (by omega)).trans x2)]
theorem pk_kT {h m : List zC} {cnt cr : Int32} {el rl D q : Nat} {Fk : Nat → Nat → Int32} {d : Int32} (p : pkF h cnt el Fk) (r : pkR h cr rl) (t : qSm 30 222 2 h) (hl : 239 ≤ h.length) (o : rfO h m) (e : ∀ j, j < 6 → iv h D j = iv m q j) (ed : iv m q 6 = d) (m4 : (iv h D 3).toNatClampNeg < 4) : kT h cnt cr (exK h) (geK h cnt) D d = mT m el cnt Fk cr rl q d (-1) := by
  have ck : cnt.toNatClampNeg = cnt.toInt.toNat := rfl
  show cdC h _ _ _ (foC h d) (tieC h cr D d) D = cdM m el _ Fk q d (-1) (tieM m rl cr q)
  rw [pk_tie r t hl o e ed m4]
  refine pk_cd p o e (fun k hk => ?_)
  have z1 : (-1 : Int32).toInt = -1 := rfl
  have := p.2.2.2.2.2.1
  rw [decide_eq_false (fun y : Int32.ofNat k = -1 => by
    have w := congrArg Int32.toInt y
    rw [(toNat_ofNat (m := k) (by omega)).2, z1] at w
    omega)]
  cases foC h d k <;> rfl

