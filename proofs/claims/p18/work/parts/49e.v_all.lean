/-! ===== values: lists ===== -/
/-- all cells of h are as they were, but that of p -/
def hOne (h h2 : List zC) (p : Nat) : Prop := h.length ≤ h2.length ∧ ∀ q, q < h.length → ¬ q = p → h2[q]? = h[q]?
theorem toNat_ofNat {m : Nat} (hm : m < 2147483648) : (Int32.ofNat m).toNatClampNeg = m ∧ (Int32.ofNat m).toInt = m := by
  have h1 : (Int32.ofNat m).toInt = m := Int32.toInt_ofNat_of_lt (by omega)
  refine ⟨?_, h1⟩
  show (Int32.ofNat m).toInt.toNat = m
  omega
theorem hPut.len {h h2 : List zC} {q b : Nat} {v : Value} (g : hPut h h2 q b v) : h2.length = h.length := g.1
/-- what add does: the row el' of the list L holds one more -/
def lAdd (h h2 : List zC) (L el : Nat) (s : Int32) (e : Nat) : Prop := ¬ s < 0 ∧ h.length ≤ h2.length ∧ ¬ L = el ∧ ∃ el' : Nat, gF h2 L 1 = some (.ref el') ∧ gF h2 L 2 = some (.int (s + 1)) ∧ (∀ k, k < s.toNatClampNeg → gF h2 el' k = gF h el k) ∧ gF h2 el' s.toNatClampNeg = some (.ref e) ∧ (el' = el ∨ h.length ≤ el') ∧
  (∀ p, p < h.length → ¬ p = L → ¬ p = el → ∀ k, gF h2 p k = gF h p k) ∧ ∀ p, p < h.length → gT h2 p = gT h p ∧ gN h2 p = gN h p
/-- what grow does: a longer row for the list L -/
def lGrow (h h2 : List zC) (L el l : Nat) (r : Value) : Prop := ∃ m : Nat, r = .ref h.length ∧ gF h2 L 1 = some (.ref h.length) ∧ gN h2 h.length = some m ∧ gT h2 h.length = some 105 ∧ (∀ k, k < m → k < l → gF h2 h.length k = gF h el k) ∧ h2.length = h.length + 1 ∧ (∀ p, p < h.length → ∀ k, ¬ (p = L ∧ k = 1) → gF h2 p k = gF h p k) ∧ ∀ p, p < h.length → gT h2 p = gT h p ∧ gN h2 p = gN h p
def lCopy (h h2 : List zC) (q l : Nat) (m : Int32) : Prop := hExt h h2 ∧ h2.length = h.length + 1 ∧ ¬ m < 0 ∧ gN h2 h.length = some m.toNatClampNeg ∧ gT h2 h.length = some 105 ∧ ∀ k, k < m.toNatClampNeg → k < l → gF h2 h.length k = gF h q k
theorem gN_lt {h : List zC} {p m : Nat} (e : gN h p = some m) : p < h.length := by
  unfold gN at e
  split at e
  · rename_i c hc
    exact (List.getElem?_eq_some_iff.mp hc).1
  · cases e
theorem gT_lt {h : List zC} {p m : Nat} (e : gT h p = some m) : p < h.length := by
  unfold gT at e
  split at e
  · rename_i c hc
    exact (List.getElem?_eq_some_iff.mp hc).1
  · cases e
theorem copy_end {h h1 h2 : List zC} {q l l' : Nat} {m : Int32} (hq : gN h q = some l) (hl2 : l < 2147483648) (hm : ¬ m < 0) (g : vNew h h1 (105, List.replicate m.toNatClampNeg .null)) (hl : gN h1 q = some l') (c : hCpy h1 h2 q (0 : Int32).toNatClampNeg h.length (0 : Int32).toNatClampNeg (if m < Int32.ofNat l' then m else Int32.ofNat l').toNatClampNeg) : lCopy h h2 q l m := by
  have hq2 := gN_lt hq
  rw [(g.ext.T hq2).2, hq] at hl
  cases hl
  obtain ⟨c1, c2, c3, c4⟩ := c
  have z0 : (0 : Int32).toNatClampNeg = 0 := rfl
  rw [z0] at c2
  refine ⟨fun p hp => ?_, by rw [c1, g.len], hm, ?_, by rw [c3, g.cn.2], fun k k1 k2 => ?_⟩
  · have e1 : ∀ k, gF h2 p k = gF h p k := fun k => by
      rw [c2, if_neg (fun z => by omega), g.ext.fld hp]
    have e2 := c3 p
    have e3 := c4 p
    rw [(g.ext.T hp).1] at e2
    rw [(g.ext.T hp).2] at e3
    exact cell_eq e1 e2 e3
  · rw [c4, g.cn.1, List.length_replicate]
  · have h3 : k < (if m < Int32.ofNat l then m else Int32.ofNat l).toNatClampNeg := by
      split
      · exact k1
      · rw [(toNat_ofNat hl2).1]
        exact k2
    rw [c2, if_pos ⟨rfl, by omega, by omega⟩, g.ext.fld hq2]
    simp
theorem grow_end {h h1 h2 : List zC} {L el l m : Nat} (hL : gF h L 1 = some (.ref el)) (x : hExt h h1) (xl : h1.length = h.length + 1) (n : gN h1 h.length = some m) (t : gT h1 h.length = some 105) (c : ∀ k, k < m → k < l → gF h1 h.length k = gF h el k) (g : hPut h1 h2 L 1 (.ref h.length)) : lGrow h h2 L el l (.ref h.length) := by
  have hl := gF_lt hL
  refine ⟨m, rfl, by rw [g.2.1, if_pos ⟨rfl, rfl⟩], by rw [g.2.2.2]; exact n, by rw [g.2.2.1]; exact t, fun k k1 k2 => ?_, by rw [g.1, xl], fun p hp k hk => ?_, fun p hp => ?_⟩
  · rw [g.2.1, if_neg (by omega)]
    exact c k k1 k2
  · rw [g.2.1, if_neg hk, x.fld hp]
  · rw [g.2.2.1, g.2.2.2]
    exact x.T hp
theorem add_end1 {h h1 h2 : List zC} {L el e : Nat} {s : Int32} (hL : gF h L 1 = some (.ref el)) (tL : gT h1 L = some 2) (tE : ∃ t, gT h el = some t ∧ 105 ≤ t) (ns : ¬ s < 0) (g1 : hPut h h1 el s.toNatClampNeg (.ref e)) (g2 : hPut h1 h2 L 2 (.int (s + 1))) : lAdd h h2 L el s e := by
  have ne : ¬ L = el := fun z => by
    subst z
    obtain ⟨t, t1, t2⟩ := tE
    rw [g1.2.2.1, t1] at tL
    cases tL
    omega
  refine ⟨ns, by rw [g2.1, g1.1]; exact Nat.le_refl _, ne, el, ?_, ?_, fun k hk => ?_, ?_, Or.inl rfl, fun p hp p1 p2 k => ?_, fun p hp => ?_⟩
  · rw [g2.2.1, if_neg (by omega), g1.2.1, if_neg (fun z => ne z.1)]
    exact hL
  · rw [g2.2.1, if_pos ⟨rfl, rfl⟩]
  · rw [g2.2.1, if_neg (fun z => ne z.1.symm), g1.2.1, if_neg (by omega)]
  · rw [g2.2.1, if_neg (fun z => ne z.1.symm), g1.2.1, if_pos ⟨rfl, rfl⟩]
  · rw [g2.2.1, if_neg (fun z => p1 z.1), g1.2.1, if_neg (fun z => p2 z.1)]
  · rw [g2.2.2.1, g1.2.2.1, g2.2.2.2, g1.2.2.2]
    exact ⟨rfl, rfl⟩
theorem add_end2 {h h0 h1 h2 : List zC} {L el e l r : Nat} {s : Int32} (hL : gF h L 1 = some (.ref el)) (hn : gN h el = some l) (hl2 : l < 2147483648) (hs : s = Int32.ofNat l) (gr : lGrow h h0 L el l (.ref r)) (tL : gT h1 L = some 2) (tE : ∃ t, gT h el = some t ∧ 93 ≤ t) (bd : ∃ m, gN h0 r = some m ∧ s.toNatClampNeg < m) (ns : ¬ s < 0) (g1 : hPut h0 h1 r s.toNatClampNeg (.ref e)) (g2 : hPut h1 h2 L 2 (.int (s + 1))) : lAdd h h2 L el s e := by
  obtain ⟨m, e1, e2, e3, e4, e5, e6, e7, e8⟩ := gr
  cases e1
  obtain ⟨m', b1, b2⟩ := bd
  rw [e3] at b1
  cases b1
  have hl := gF_lt hL
  have hq := gN_lt hn
  have sl : s.toNatClampNeg = l := by rw [hs]; exact (toNat_ofNat hl2).1
  have ne : ¬ L = el := fun z => by
    subst z
    obtain ⟨t, t1, t2⟩ := tE
    rw [g1.2.2.1, (e8 _ hl).1, t1] at tL
    cases tL
    omega
  refine ⟨ns, by rw [g2.1, g1.1, e6]; omega, ne, h.length, ?_, ?_, fun k hk => ?_, ?_, Or.inr (Nat.le_refl _), fun p hp p1 p2 k => ?_, fun p hp => ?_⟩
  · rw [g2.2.1, if_neg (by omega), g1.2.1, if_neg (by omega)]
    exact e2
  · rw [g2.2.1, if_pos ⟨rfl, rfl⟩]
  · rw [g2.2.1, if_neg (by omega), g1.2.1, if_neg (by omega)]
    exact e5 k (by omega) (by omega)
  · rw [g2.2.1, if_neg (by omega), g1.2.1, if_pos ⟨rfl, rfl⟩]
  · rw [g2.2.1, if_neg (fun z => p1 z.1), g1.2.1, if_neg (by omega), e7 p hp k (fun z => p1 z.1)]
  · rw [g2.2.2.1, g1.2.2.1, g2.2.2.2, g1.2.2.2]
    exact e8 p hp
theorem lAdd.pre {h k h2 : List zC} {L el e : Nat} {s : Int32} {v : Value} (g : hPut h k L 0 v) (a : lAdd k h2 L el s e) : lAdd h h2 L el s e := by
  obtain ⟨a1, a2, a3, el', a4, a5, a6, a7, a8, a9, a10⟩ := a
  rw [g.1] at a2 a8 a9 a10
  refine ⟨a1, a2, a3, el', a4, a5, fun i hi => ?_, a7, a8, fun p hp p1 p2 i => ?_, fun p hp => ?_⟩
  · rw [a6 i hi, g.2.1, if_neg (fun z => a3 z.1.symm)]
  · rw [a9 p hp p1 p2 i, g.2.1, if_neg (fun z => p1 z.1)]
  · rw [(a10 p hp).1, (a10 p hp).2, g.2.2.1, g.2.2.2]
    exact ⟨rfl, rfl⟩
/-! ===== values: the rules ===== -/
theorem st_16_9 {h : List zC} (hS : Stc h) : gF h 16 9 = some (.ref 28) := hS.2 (16, 9, 28) (by decide +kernel)
theorem st_28_0 {h : List zC} (hS : Stc h) : gF h 28 0 = some (.ref 29) := hS.2 (28, 0, 29) (by decide +kernel)
theorem st_213_7 {h : List zC} (hS : Stc h) : gF h 213 7 = some (.ref 223) := hS.2 (213, 7, 223) (by decide +kernel)
theorem st_rule {h : List zC} (hS : Stc h) {i : Nat} (hi : i < 40) : gF h 29 i = some (.ref (31 + i)) := hS.2 (29, i, 31 + i) (by
  have : ∀ i, i < 40 → (29, i, 31 + i) ∈ stL := by decide +kernel
  exact this i hi)
/-- x from lo to hi -/
abbrev rI (lo hi x : Int32) : Prop := lo.toInt ≤ x.toInt ∧ x.toInt ≤ hi.toInt
def okR (p m c a b s r cnt : Int32) : Prop := (iN 6 p ∧ iN 4 m) ∧ (rI 1 15 c ∧ rI 0 63 a ∧ rI 0 63 b ∧ rI 0 0 (a &&& b) ∧ rI 0 100 s ∧ rI 1 5 r) ∧ cnt.toInt < 40
theorem in_y {x hi : Int32} {m : Int} (e : hi.toInt = m - 1) (h : ¬ inB x 0 hi = 0) : iN m x := by
  obtain ⟨h1, h2⟩ := inB_y h
  have z0 : (0 : Int32).toInt = 0 := rfl
  exact ⟨by omega, by omega⟩
theorem in_n {x hi : Int32} {m : Int} (e : hi.toInt = m - 1) (h : inB x 0 hi = 0) : ¬ iN m x := fun ⟨h1, h2⟩ => inB_n h (by
  have z0 : (0 : Int32).toInt = 0 := rfl
  omega)
theorem rI0 {x : Int32} : rI 0 0 x ↔ x = 0 := by
  have z0 : (0 : Int32).toInt = 0 := rfl
  constructor
  · intro ⟨h1, h2⟩
    exact Int32.toInt_inj.mp (by omega)
  · intro e
    subst e
    exact ⟨Int.le_refl _, Int.le_refl _⟩
theorem n40 {c : Int32} (h : c.toInt < 40) : c.toNatClampNeg < 40 := by
  show c.toInt.toNat < 40
  omega
/-- the bits of x, as Integer.bitCount counts them -/
def sh32 (x k : Int32) : Int32 := (x.toUInt32 >>> (k.toUInt32 &&& Int32.toUInt32 31)).toInt32
def bcO (i0 : Int32) : Int32 :=
  let i1 := i0 - (sh32 i0 1 &&& Int32.ofNat 1431655765)
  let i2 := (i1 &&& Int32.ofNat 858993459) + (sh32 i1 2 &&& Int32.ofNat 858993459)
  let i3 := (i2 + sh32 i2 4) &&& Int32.ofNat 252645135
  let i4 := i3 + sh32 i3 8
  (i4 + sh32 i4 16) &&& 63
/-- how many bits x has, as the reference counts them -/
def szO : Nat → Int32 → Option Int32
  | 0, _ => none
  | k + 1, x => if 0 < x then (szO k (x / 2)).map (fun s => (x - x / 2 * 2) + s) else some 0
def Psz (x s : Int32) : Prop := ∃ k, szO k x = some s
theorem Psz0 {x : Int32} (h : ¬ 0 < x) : Psz x 0 := ⟨1, by unfold szO; rw [if_neg h]⟩
theorem PszS {x s : Int32} (h : 0 < x) (q : Psz (x / 2) s) : Psz x ((x - x / 2 * 2) + s) := by
  obtain ⟨k, e⟩ := q
  exact ⟨k + 1, by unfold szO; rw [if_pos h, e]; rfl⟩
theorem szO_up : ∀ (k : Nat) (x s : Int32), szO k x = some s → szO (k + 1) x = some s
  | 0, _, _, h => by cases h
  | k + 1, x, s, h => by
    unfold szO at h ⊢
    by_cases z : 0 < x
    · rw [if_pos z] at h ⊢
      cases e : szO k (x / 2) with
      | none => rw [e] at h; cases h
      | some y =>
        rw [e] at h
        rw [szO_up k _ _ e]
        exact h
    · rw [if_neg z] at h ⊢
      exact h
theorem szO_le {k l : Nat} {x s : Int32} (h : k ≤ l) (e : szO k x = some s) : szO l x = some s := by
  obtain ⟨d, rfl⟩ := Nat.exists_eq_add_of_le h
  clear h
  induction d with
  | zero => exact e
  | succ d ih => exact szO_up _ _ _ ih
theorem Psz_det {x s t : Int32} (h1 : Psz x s) (h2 : Psz x t) : s = t := by
  obtain ⟨k, a⟩ := h1
  obtain ⟨l, b⟩ := h2
  have a := szO_le (Nat.le_max_left k l) a
  have b := szO_le (Nat.le_max_right k l) b
  rw [a] at b
  exact Option.some.inj b
def szF (x : Int32) : Int32 := (szO 7 x).getD 0
theorem szF_tab : ∀ a, a < 64 → szO 7 (Int32.ofNat a) = some (szF (Int32.ofNat a)) := by decide +kernel
theorem bc_tab : ∀ a, a < 64 → ∀ b, b < 64 → Int32.ofNat a &&& Int32.ofNat b = 0 → bcO (Int32.ofNat a ||| Int32.ofNat b) = szF (Int32.ofNat a) + szF (Int32.ofNat b) := by decide +kernel
theorem bc_sz {a b s t : Int32} (ha : rI 0 63 a) (hb : rI 0 63 b) (hab : rI 0 0 (a &&& b)) (h1 : Psz a s) (h2 : Psz b t) : bcO (a ||| b) = s + t := by
  have key : ∀ x : Int32, rI 0 63 x → ∃ n : Nat, n < 64 ∧ x = Int32.ofNat n := fun x hx => by
    obtain ⟨h3, h4⟩ := hx
    have z0 : (0 : Int32).toInt = 0 := rfl
    have z1 : (63 : Int32).toInt = 63 := rfl
    refine ⟨x.toInt.toNat, by omega, Int32.toInt_inj.mp ?_⟩
    rw [Int32.toInt_ofNat_of_lt (by omega)]
    omega
  obtain ⟨m, m1, rfl⟩ := key a ha
  obtain ⟨n, n1, rfl⟩ := key b hb
  rw [Psz_det h1 ⟨7, szF_tab m m1⟩, Psz_det h2 ⟨7, szF_tab n n1⟩]
  exact bc_tab m m1 n n1 (rI0.mp hab)
theorem cnt1 {c : Int32} (h : 0 ≤ c.toInt) : (c - 1).toInt = c.toInt - 1 := by
  have h2 := c.toInt_lt
  rw [Int32.toInt_sub]
  have z1 : (1 : Int32).toInt = 1 := rfl
  rw [z1]
  exact Int.bmod_eq_of_le (by omega) (by omega)
theorem isr_y {x c : Int32} (hc : 0 ≤ c.toInt) (h : ¬ inB x 0 (c - 1) = 0) : iN c.toInt x := by
  obtain ⟨h1, h2⟩ := inB_y h
  have z0 : (0 : Int32).toInt = 0 := rfl
  rw [cnt1 hc] at h2
  exact ⟨by omega, by omega⟩
theorem isr_n {x c : Int32} (hc : 0 ≤ c.toInt) (h : inB x 0 (c - 1) = 0) : ¬ iN c.toInt x := fun ⟨h1, h2⟩ => inB_n h (by
  have z0 : (0 : Int32).toInt = 0 := rfl
  rw [cnt1 hc]
  omega)
/-- the class' rule is sworn: its cell is P, its fields; the number of rules -/
def RM (h h2 : List zC) (P : Nat) (cnt p m c a b s r : Int32) : Prop := (∀ q k, ¬ q = P → ¬ (q = 28 ∧ k = 2) → gF h2 q k = gF h q k) ∧ gF h2 28 2 = some (.int (cnt + 1)) ∧ (gF h2 P 0 = some (.int p) ∧ gF h2 P 1 = some (.int m) ∧ gF h2 P 2 = some (.int c) ∧ gF h2 P 3 = some (.int a) ∧ gF h2 P 4 = some (.int b) ∧ gF h2 P 5 = some (.int s) ∧ gF h2 P 6 = some (.int r)) ∧
  gF h2 P 10 = some (.int (10 * bcO (a ||| b) + r)) ∧ gF h2 P 9 = gF h 16 0 ∧ gF h2 P 7 = gF h P 7 ∧ gF h2 P 8 = gF h P 8 ∧ h2.length = h.length ∧ ∀ p, gT h2 p = gT h p ∧ gN h2 p = gN h p
/-- a new rule of the reference's: its cell is q -/
def IM (h h2 : List zC) (q : Nat) (p m c a b s r d : Int32) : Prop := (∀ x k, ¬ x = q → gF h2 x k = gF h x k) ∧ (gF h2 q 0 = some (.int p) ∧ gF h2 q 1 = some (.int m) ∧ gF h2 q 2 = some (.int c) ∧ gF h2 q 3 = some (.int a) ∧ gF h2 q 4 = some (.int b) ∧ gF h2 q 5 = some (.int s) ∧ gF h2 q 6 = some (.int r) ∧ gF h2 q 7 = some (.int d)) ∧
  gF h2 q 8 = gF h q 8 ∧ gF h2 q 9 = some (.int 999) ∧ h2.length = h.length ∧ ∀ p, gT h2 p = gT h p ∧ gN h2 p = gN h p
theorem Stc.rm {h h2 : List zC} {P : Nat} {cnt p m c a b s r : Int32} (hS : Stc h) (hP : 31 ≤ P ∧ P < 71) (g : RM h h2 P cnt p m c a b s r) : Stc h2 := by
  obtain ⟨g1, -, -, -, -, -, -, g2, -⟩ := g
  refine ⟨by rw [g2]; exact hS.1, fun e he => ?_⟩
  have q := List.all_eq_true.mp (show stL.all (fun e => !(decide (31 ≤ e.1 ∧ e.1 < 71)) && !(e.1 == 28 && e.2.1 == 2)) = true by decide +kernel) e he
  obtain ⟨q1, q2⟩ := Bool.and_eq_true_iff.mp q
  have q1 : ¬ (31 ≤ e.1 ∧ e.1 < 71) := by simpa only [Bool.not_eq_true', decide_eq_false_iff_not] using q1
  rw [g1 _ _ (fun z => q1 (by omega)) (fun z => by simp [z.1, z.2] at q2)]
  exact hS.2 e he
/-- the reference's rule is sworn: a new cell q at the end of its list -/
def MM (h h2 : List zC) (el : Nat) (cnt p m c a b s r d : Int32) : Prop := ∃ q el' : Nat, h.length ≤ q ∧ gF h2 223 1 = some (.ref el') ∧ gF h2 223 2 = some (.int (cnt + 1)) ∧ (∀ k, k < cnt.toNatClampNeg → gF h2 el' k = gF h el k) ∧ gF h2 el' cnt.toNatClampNeg = some (.ref q) ∧ (el' = el ∨ h.length ≤ el') ∧ ¬ q = el' ∧
  (gF h2 q 0 = some (.int p) ∧ gF h2 q 1 = some (.int m) ∧ gF h2 q 2 = some (.int c) ∧ gF h2 q 3 = some (.int a) ∧ gF h2 q 4 = some (.int b) ∧ gF h2 q 5 = some (.int s) ∧ gF h2 q 6 = some (.int r) ∧ gF h2 q 7 = some (.int d)) ∧ gF h2 q 8 = some (.int 0) ∧ gF h2 q 9 = some (.int 999) ∧
  ¬ cnt < 0 ∧ ∀ x k, x < h.length → ¬ x = 223 → ¬ x = el → ¬ (x = 213 ∧ k = 0) → gF h2 x k = gF h x k
theorem zDef17 : (zDef 17)[8]? = some (.int 0) := by decide +kernel
theorem mm_end {h k0 k1 i1 h2 : List zC} {el : Nat} {cnt p m c a b s r d : Int32} {v : Value} (hl : 239 ≤ h.length) (hel : el < h.length) (h213 : ¬ el = 213) (t0 : hPut h k0 213 0 v) (g : vNew k0 k1 (17, zDef 17)) (im : IM k1 i1 k0.length p m c a b s r d) (ad : lAdd i1 h2 223 el cnt k0.length) : MM h h2 el cnt p m c a b s r d := by
  obtain ⟨a1, a2, a3, el', a4, a5, a6, a7, a8, a9, a10⟩ := ad
  obtain ⟨i2, i3, i4, i5, i6, i7⟩ := im
  have l0 := t0.1
  have l1 := g.len
  have key : ∀ x k, x < h.length → gF i1 x k = if x = 213 ∧ k = 0 then some v else gF h x k := fun x k hx => by
    rw [i2 x k (by omega), g.ext.fld (by omega), t0.2.1]
  have fq : ∀ k, gF h2 k0.length k = gF i1 k0.length k := fun k => a9 _ (by omega) (by omega) (by omega) k
  refine ⟨k0.length, el', by omega, a4, a5, fun k hk => ?_, a7, ?_, ?_, ?_, ?_, ?_, a1, fun x k hx x1 x2 x3 => ?_⟩
  · rw [a6 k hk, key el k hel, if_neg (fun z => h213 z.1)]
  · rcases a8 with a8 | a8
    · exact Or.inl a8
    · exact Or.inr (by omega)
  · rcases a8 with a8 | a8 <;> omega
  · simp only [fq]
    exact i3
  · rw [fq, i4, g.fld]
    exact zDef17
  · rw [fq]
    exact i5
  · rw [a9 x (by omega) x1 x2, key x k hx, if_neg x3]
/-! ===== values: the text of a draft, read ===== -/
theorem ofNat_succ1 (k : Nat) : Int32.ofNat k + 1 = Int32.ofNat (k + 1) := by
  rw [Int32.ofNat_add]
  rfl
theorem st_183_0 {h : List zC} (hS : Stc h) : gF h 183 0 = some (.ref 184) := hS.2 (183, 0, 184) (by decide +kernel)
/-- behind the blanks from p on -/
def skF (T : Nat → Int32) (L : Nat) : Nat → Nat → Nat
  | 0, p => p
  | n + 1, p => if p < L ∧ T p = 32 then skF T L n (p + 1) else p
def skp (T : Nat → Int32) (L p : Nat) : Nat := skF T L (L - p) p
theorem skp_y {T : Nat → Int32} {L p : Nat} (h1 : p < L) (h2 : T p = 32) : skp T L p = skp T L (p + 1) := by
  unfold skp
  rw [show L - p = (L - (p + 1)) + 1 by omega]
  conv => lhs; unfold skF
  rw [if_pos ⟨h1, h2⟩]
theorem skp_n {T : Nat → Int32} {L p : Nat} (h : ¬ (p < L ∧ T p = 32)) : skp T L p = p := by
  unfold skp
  cases e : L - p with
  | zero => rfl
  | succ n =>
    unfold skF
    rw [if_neg h]
theorem skp_b {T : Nat → Int32} {L : Nat} : ∀ (n p : Nat), L - p = n → p ≤ L → p ≤ skp T L p ∧ skp T L p ≤ L ∧ ¬ (skp T L p < L ∧ T (skp T L p) = 32)
  | 0, p, h, hp => by
    rw [skp_n (by omega)]
    exact ⟨Nat.le_refl _, hp, by omega⟩
  | n + 1, p, h, hp => by
    by_cases z : T p = 32
    · rw [skp_y (by omega) z]
      obtain ⟨a, b, c⟩ := skp_b (T := T) (L := L) n (p + 1) (by omega) (by omega)
      exact ⟨by omega, b, c⟩
    · rw [skp_n (fun w => z w.2)]
      exact ⟨Nat.le_refl _, hp, fun w => z w.2⟩
/-- the next sign that is no blank, or -1 -/
def sg (T : Nat → Int32) (L p : Nat) : Int32 := if skp T L p < L then T (skp T L p) else -1
/-- the class' draft: its text, its place -/
def DT (h : List zC) (T : Nat → Int32) (L p : Nat) : Prop := Stc h ∧ gF h 183 1 = some (.int (Int32.ofNat L)) ∧ gF h 183 2 = some (.int (Int32.ofNat p)) ∧ p ≤ L ∧ L ≤ 60 ∧ ∀ i, i < L → gF h 184 i = some (.int (T i))
/-- nothing but the place is another -/
def PL (h h2 : List zC) (p : Nat) : Prop := h2.length = h.length ∧ (∀ x k, ¬ (x = 183 ∧ k = 2) → gF h2 x k = gF h x k) ∧ gF h2 183 2 = some (.int (Int32.ofNat p)) ∧ ∀ x, gT h2 x = gT h x ∧ gN h2 x = gN h x
theorem PL.refl {h : List zC} {p : Nat} (e : gF h 183 2 = some (.int (Int32.ofNat p))) : PL h h p := ⟨rfl, fun _ _ _ => rfl, e, fun _ => ⟨rfl, rfl⟩⟩
theorem PL.trans {h h1 h2 : List zC} {p q : Nat} (a : PL h h1 p) (b : PL h1 h2 q) : PL h h2 q := ⟨by rw [b.1, a.1], fun x k z => by rw [b.2.1 x k z, a.2.1 x k z], b.2.2.1, fun x => by rw [(b.2.2.2 x).1, (b.2.2.2 x).2]; exact a.2.2.2 x⟩
theorem PL.put {h h1 h2 : List zC} {p q : Nat} (a : PL h h1 p) (g : hPut h1 h2 183 2 (.int (Int32.ofNat q))) : PL h h2 q := ⟨by rw [g.1, a.1], fun x k z => by rw [g.2.1, if_neg z, a.2.1 x k z], by rw [g.2.1, if_pos ⟨rfl, rfl⟩], fun x => by rw [g.2.2.1, g.2.2.2]; exact a.2.2.2 x⟩
theorem DT.pl {h h2 : List zC} {T : Nat → Int32} {L p q : Nat} (d : DT h T L p) (a : PL h h2 q) (hq : q ≤ L) : DT h2 T L q := by
  obtain ⟨d1, d2, d3, d4, d5, d6⟩ := d
  refine ⟨⟨by rw [a.1]; exact d1.1, fun e he => ?_⟩, ?_, a.2.2.1, hq, d5, fun i hi => ?_⟩
  · have q := List.all_eq_true.mp (show stL.all (fun e => !(e.1 == 183 && e.2.1 == 2)) = true by decide +kernel) e he
    rw [a.2.1 _ _ (fun z => by simp [z.1, z.2] at q)]
    exact d1.2 e he
  · rw [a.2.1 _ _ (by omega)]
    exact d2
  · rw [a.2.1 _ _ (by omega)]
    exact d6 i hi
theorem on_lt {a b : Nat} (ha : a < 2147483648) (hb : b < 2147483648) : (Int32.ofNat a < Int32.ofNat b ↔ a < b) ∧ (Int32.ofNat a ≤ Int32.ofNat b ↔ a ≤ b) := by
  rw [i32_lt, i32_le, (toNat_ofNat ha).2, (toNat_ofNat hb).2]
  constructor <;> constructor <;> intro h <;> omega
def tkS (T : Nat → Int32) (L : Nat) (c : Int32) (p : Nat) : Int32 × Nat := if sg T L p = c then (1, skp T L p + 1) else (0, skp T L p)
def tkD (T : Nat → Int32) (L : Nat) (m : Int32) (p : Nat) : Int32 × Nat := if sg T L p < 48 ∨ 48 + m ≤ sg T L p then (-1, skp T L p) else (sg T L p - 48, skp T L p + 1)
theorem sg_lt {T : Nat → Int32} {L p : Nat} (h : ¬ sg T L p = -1) : skp T L p < L := by
  unfold sg at h
  by_cases z : skp T L p < L
  · exact z
  · rw [if_neg z] at h
    exact absurd rfl h
theorem tkS_b {T : Nat → Int32} {L p : Nat} {c : Int32} (hp : p ≤ L) (hc : ¬ c = -1) : (tkS T L c p).2 ≤ L ∧ p ≤ (tkS T L c p).2 := by
  obtain ⟨a, b, -⟩ := skp_b (T := T) (L := L) _ p rfl hp
  unfold tkS
  by_cases z : sg T L p = c
  · rw [if_pos z]
    have := sg_lt (T := T) (L := L) (p := p) (by rw [z]; exact hc)
    exact ⟨this, by omega⟩
  · rw [if_neg z]
    exact ⟨b, a⟩
theorem tkD_b {T : Nat → Int32} {L p : Nat} {m : Int32} (hp : p ≤ L) : (tkD T L m p).2 ≤ L ∧ p ≤ (tkD T L m p).2 := by
  obtain ⟨a, b, -⟩ := skp_b (T := T) (L := L) _ p rfl hp
  unfold tkD
  by_cases z : sg T L p < 48 ∨ 48 + m ≤ sg T L p
  · rw [if_pos z]
    exact ⟨b, a⟩
  · rw [if_neg z]
    have := sg_lt (T := T) (L := L) (p := p) (fun w => z (Or.inl (by rw [w]; decide)))
    exact ⟨this, by omega⟩
/-- a number's further digits -/
def nuF (T : Nat → Int32) (L : Nat) : Nat → Int32 × Nat → Int32 × Nat
  | 0, x => x
  | n + 1, x => if x.1 = -1 ∨ L ≤ x.2 ∨ T x.2 = 32 then x else if (tkD T L 10 x.2).1 = -1 then (x.1, (tkD T L 10 x.2).2) else nuF T L n (x.1 * 10 + (tkD T L 10 x.2).1, (tkD T L 10 x.2).2)
theorem nuF_s {T : Nat → Int32} {L n : Nat} {x : Int32 × Nat} (h : x.1 = -1 ∨ L ≤ x.2 ∨ T x.2 = 32) : nuF T L (n + 1) x = x := by
  unfold nuF
  rw [if_pos h]
theorem nuF_n {T : Nat → Int32} {L n : Nat} {x : Int32 × Nat} (h : ¬ (x.1 = -1 ∨ L ≤ x.2 ∨ T x.2 = 32)) (d : (tkD T L 10 x.2).1 = -1) : nuF T L (n + 1) x = (x.1, (tkD T L 10 x.2).2) := by
  unfold nuF
  rw [if_neg h, if_pos d]
theorem nuF_y {T : Nat → Int32} {L n : Nat} {x : Int32 × Nat} (h : ¬ (x.1 = -1 ∨ L ≤ x.2 ∨ T x.2 = 32)) (d : ¬ (tkD T L 10 x.2).1 = -1) : nuF T L (n + 1) x = nuF T L n (x.1 * 10 + (tkD T L 10 x.2).1, (tkD T L 10 x.2).2) := by
  conv => lhs; unfold nuF
  rw [if_neg h, if_neg d]
theorem nuF_b {T : Nat → Int32} {L : Nat} : ∀ (n : Nat) (x : Int32 × Nat), x.2 ≤ L → (nuF T L n x).2 ≤ L ∧ x.2 ≤ (nuF T L n x).2
  | 0, _, h => ⟨h, Nat.le_refl _⟩
  | n + 1, x, h => by
    by_cases a : x.1 = -1 ∨ L ≤ x.2 ∨ T x.2 = 32
    · rw [nuF_s a]
      exact ⟨h, Nat.le_refl _⟩
    · obtain ⟨b, c⟩ := tkD_b (T := T) (m := 10) h
      by_cases d : (tkD T L 10 x.2).1 = -1
      · rw [nuF_n a d]
        exact ⟨b, c⟩
      · rw [nuF_y a d]
        obtain ⟨e, f⟩ := nuF_b n (x.1 * 10 + (tkD T L 10 x.2).1, (tkD T L 10 x.2).2) b
        exact ⟨e, Nat.le_trans c f⟩
def tkN (T : Nat → Int32) (L : Nat) (most : Int32) (p : Nat) : Int32 × Nat := (if most < (nuF T L 2 (tkD T L 10 p)).1 then -1 else (nuF T L 2 (tkD T L 10 p)).1, (nuF T L 2 (tkD T L 10 p)).2)
theorem tkN_b {T : Nat → Int32} {L p : Nat} {m : Int32} (hp : p ≤ L) : (tkN T L m p).2 ≤ L ∧ p ≤ (tkN T L m p).2 := by
  obtain ⟨b, c⟩ := tkD_b (T := T) (m := 10) hp
  obtain ⟨e, f⟩ := nuF_b (T := T) 2 (tkD T L 10 p) b
  exact ⟨e, Nat.le_trans c f⟩
def mnI (a b : Int32) : Int32 := if b < a then b else a
def mxI (a b : Int32) : Int32 := if a < b then b else a
/-! ===== values: a text read into a clause ===== -/
def upF (F : Nat → Int32) (k : Nat) (x : Int32) : Nat → Int32 := fun i => if i = k then x else F i
theorem upF_eq {F : Nat → Int32} {k : Nat} {x : Int32} : upF F k x k = x := by
  unfold upF
  rw [if_pos rfl]
theorem upF_ne {F : Nat → Int32} {k j : Nat} {x : Int32} (h : ¬ j = k) : upF F k x j = F j := by
  unfold upF
  rw [if_neg h]
/-- a clause's cells: its numbers F 0 .. F 8, its limits' signs F 9, F 10 and numbers F 11, F 12 -/
def CZ (C LS LN : Nat) (h : List zC) (F : Nat → Int32) : Prop := (∀ k, k < 9 → gF h C k = some (.int (F k))) ∧ gF h C 9 = some (.ref LS) ∧ gF h C 10 = some (.ref LN) ∧ (∀ k, k < 2 → gF h LS k = some (.int (F (9 + k)))) ∧ (∀ k, k < 2 → gF h LN k = some (.int (F (11 + k)))) ∧ 239 ≤ C ∧ 239 ≤ LS ∧ 239 ≤ LN ∧ ¬ C = LS ∧ ¬ C = LN ∧ ¬ LS = LN
theorem CZ.oth {C LS LN : Nat} {h h2 : List zC} {F : Nat → Int32} (z : CZ C LS LN h F) (e : ∀ x k, 239 ≤ x → gF h2 x k = gF h x k) : CZ C LS LN h2 F := by
  obtain ⟨z1, z2, z3, z4, z5, a, b, c, n1, n2, n3⟩ := z
  exact ⟨fun j hj => by rw [e _ _ a]; exact z1 j hj, by rw [e _ _ a]; exact z2, by rw [e _ _ a]; exact z3, fun j hj => by rw [e _ _ b]; exact z4 j hj, fun j hj => by rw [e _ _ c]; exact z5 j hj, a, b, c, n1, n2, n3⟩
theorem CZ.put {C LS LN : Nat} {h h2 : List zC} {F : Nat → Int32} {k : Nat} {x : Int32} (z : CZ C LS LN h F) (hk : k < 9) (g : hPut h h2 C k (.int x)) : CZ C LS LN h2 (upF F k x) := by
  obtain ⟨z1, z2, z3, z4, z5, a, b, c, n1, n2, n3⟩ := z
  refine ⟨fun j hj => ?_, ?_, ?_, fun j hj => ?_, fun j hj => ?_, a, b, c, n1, n2, n3⟩
  · rw [g.2.1]
    by_cases e : j = k
    · subst e
      rw [if_pos ⟨rfl, rfl⟩, upF_eq]
    · rw [if_neg (fun w => e w.2), z1 j hj, upF_ne e]
  · rw [g.2.1, if_neg (by omega)]
    exact z2
  · rw [g.2.1, if_neg (by omega)]
    exact z3
  · rw [g.2.1, if_neg (fun w => n1 w.1.symm), z4 j hj, upF_ne (by omega)]
  · rw [g.2.1, if_neg (fun w => n2 w.1.symm), z5 j hj, upF_ne (by omega)]
theorem CZ.putS {C LS LN : Nat} {h h2 : List zC} {F : Nat → Int32} {i : Nat} {x : Int32} (z : CZ C LS LN h F) (hi : i < 2) (g : hPut h h2 LS i (.int x)) : CZ C LS LN h2 (upF F (9 + i) x) := by
  obtain ⟨z1, z2, z3, z4, z5, a, b, c, n1, n2, n3⟩ := z
  refine ⟨fun j hj => ?_, ?_, ?_, fun j hj => ?_, fun j hj => ?_, a, b, c, n1, n2, n3⟩
  · rw [g.2.1, if_neg (fun w => n1 w.1), z1 j hj, upF_ne (by omega)]
  · rw [g.2.1, if_neg (fun w => n1 w.1)]
    exact z2
  · rw [g.2.1, if_neg (fun w => n1 w.1)]
    exact z3
  · rw [g.2.1]
    by_cases e : j = i
    · subst e
      rw [if_pos ⟨rfl, rfl⟩, upF_eq]
    · rw [if_neg (fun w => e w.2), z4 j hj, upF_ne (by omega)]
  · rw [g.2.1, if_neg (fun w => n3 w.1.symm), z5 j hj, upF_ne (by omega)]
theorem CZ.putN {C LS LN : Nat} {h h2 : List zC} {F : Nat → Int32} {i : Nat} {x : Int32} (z : CZ C LS LN h F) (hi : i < 2) (g : hPut h h2 LN i (.int x)) : CZ C LS LN h2 (upF F (11 + i) x) := by
  obtain ⟨z1, z2, z3, z4, z5, a, b, c, n1, n2, n3⟩ := z
  refine ⟨fun j hj => ?_, ?_, ?_, fun j hj => ?_, fun j hj => ?_, a, b, c, n1, n2, n3⟩
  · rw [g.2.1, if_neg (fun w => n2 w.1), z1 j hj, upF_ne (by omega)]
  · rw [g.2.1, if_neg (fun w => n2 w.1)]
    exact z2
  · rw [g.2.1, if_neg (fun w => n2 w.1)]
    exact z3
  · rw [g.2.1, if_neg (fun w => n3 w.1), z4 j hj, upF_ne (by omega)]
  · rw [g.2.1]
    by_cases e : j = i
    · subst e
      rw [if_pos ⟨rfl, rfl⟩, upF_eq]
    · rw [if_neg (fun w => e w.2), z5 j hj, upF_ne (by omega)]
theorem stL_239 : stL.all (fun e => decide (e.1 < 239)) = true := by decide +kernel
theorem DT.oth {h h2 : List zC} {T : Nat → Int32} {L p : Nat} (d : DT h T L p) (hl : h2.length = h.length) (e : ∀ x k, x < 239 → gF h2 x k = gF h x k) : DT h2 T L p := by
  obtain ⟨d1, d2, d3, d4, d5, d6⟩ := d
  refine ⟨⟨by rw [hl]; exact d1.1, fun x hx => ?_⟩, by rw [e 183 1 (by omega)]; exact d2, by rw [e 183 2 (by omega)]; exact d3, d4, d5, fun i hi => by rw [e 184 i (by omega)]; exact d6 i hi⟩
  have q := List.all_eq_true.mp stL_239 x hx
  rw [e _ _ (of_decide_eq_true q)]
  exact d1.2 x hx
theorem DT.le {h : List zC} {T : Nat → Int32} {L p : Nat} (d : DT h T L p) : p ≤ L := d.2.2.2.1
theorem DT.at {h : List zC} {T : Nat → Int32} {L p : Nat} (d : DT h T L p) : gF h 183 2 = some (.int (Int32.ofNat p)) := d.2.2.1
/-- nothing but the place and the clause's cells is another -/
def FrC (C LS LN : Nat) (h h2 : List zC) : Prop := h2.length = h.length ∧ (∀ x k, ¬ (x = 183 ∧ k = 2) → ¬ x = C → ¬ x = LS → ¬ x = LN → gF h2 x k = gF h x k) ∧ ∀ x, gT h2 x = gT h x ∧ gN h2 x = gN h x
theorem FrC.refl {C LS LN : Nat} (h : List zC) : FrC C LS LN h h := ⟨rfl, fun _ _ _ _ _ _ => rfl, fun _ => ⟨rfl, rfl⟩⟩
theorem FrC.trans {C LS LN : Nat} {h h1 h2 : List zC} (a : FrC C LS LN h h1) (b : FrC C LS LN h1 h2) : FrC C LS LN h h2 := ⟨by rw [b.1, a.1], fun x k n1 n2 n3 n4 => by rw [b.2.1 x k n1 n2 n3 n4, a.2.1 x k n1 n2 n3 n4], fun x => by rw [(b.2.2 x).1, (b.2.2 x).2]; exact a.2.2 x⟩
theorem FrC.put {C LS LN : Nat} {h h2 : List zC} {q k : Nat} {v : Value} (g : hPut h h2 q k v) (hq : (q = 183 ∧ k = 2) ∨ q = C ∨ q = LS ∨ q = LN) : FrC C LS LN h h2 := ⟨g.1, fun x j n1 n2 n3 n4 => by
  rw [g.2.1, if_neg (fun w => ?_)]
  rcases hq with ⟨y1, y2⟩ | y | y | y
  · exact n1 ⟨w.1.trans y1, w.2.trans y2⟩
  · exact n2 (w.1.trans y)
  · exact n3 (w.1.trans y)
  · exact n4 (w.1.trans y), fun x => ⟨g.2.2.1 x, g.2.2.2 x⟩⟩
def PS (T : Nat → Int32) (L C LS LN : Nat) (h : List zC) (p : Nat) (F : Nat → Int32) : Prop := DT h T L p ∧ CZ C LS LN h F
section PSs
variable {T : Nat → Int32} {L C LS LN p q k i : Nat} {h h2 : List zC} {F : Nat → Int32} {x : Int32}
theorem PS.fld (d : PS T L C LS LN h p F) (hk : k < 9) (e : F k = x) : gF h C k = some (.int x) := by
  rw [← e]
  exact d.2.1 k hk
theorem PS.pl (d : PS T L C LS LN h p F) (a : PL h h2 q) (hq : q ≤ L) : PS T L C LS LN h2 q F ∧ FrC C LS LN h h2 := ⟨⟨d.1.pl a hq, d.2.oth (fun x k hx => a.2.1 x k (by omega))⟩, a.1, fun x k n1 _ _ _ => a.2.1 x k n1, a.2.2.2⟩
theorem PS.put (d : PS T L C LS LN h p F) (hk : k < 9) (g : hPut h h2 C k (.int x)) : PS T L C LS LN h2 p (upF F k x) ∧ FrC C LS LN h h2 := ⟨⟨d.1.oth g.1 (fun y j hy => by rw [g.2.1, if_neg (fun w => by have := d.2.2.2.2.2.2.1; omega)]), d.2.put hk g⟩, FrC.put g (Or.inr (Or.inl rfl))⟩
theorem PS.putS (d : PS T L C LS LN h p F) (hi : i < 2) (g : hPut h h2 LS i (.int x)) : PS T L C LS LN h2 p (upF F (9 + i) x) ∧ FrC C LS LN h h2 := ⟨⟨d.1.oth g.1 (fun y j hy => by rw [g.2.1, if_neg (fun w => by have := d.2.2.2.2.2.2.2.1; omega)]), d.2.putS hi g⟩, FrC.put g (Or.inr (Or.inr (Or.inl rfl)))⟩
theorem PS.putN (d : PS T L C LS LN h p F) (hi : i < 2) (g : hPut h h2 LN i (.int x)) : PS T L C LS LN h2 p (upF F (11 + i) x) ∧ FrC C LS LN h h2 := ⟨⟨d.1.oth g.1 (fun y j hy => by rw [g.2.1, if_neg (fun w => by have := d.2.2.2.2.2.2.2.2.1; omega)]), d.2.putN hi g⟩, FrC.put g (Or.inr (Or.inr (Or.inr rfl)))⟩
end PSs
/-- what a take answers, and what it leaves -/
def RD (T : Nat → Int32) (L C LS LN : Nat) (h2 : List zC) (r : Option (Nat × (Nat → Int32))) (b : Int32) : Prop := (b = 0 ∧ r = none) ∨ (b = 1 ∧ ∃ y : Nat × (Nat → Int32), r = some y ∧ PS T L C LS LN h2 y.1 y.2)
def RS (T : Nat → Int32) (L C LS LN : Nat) (h h2 : List zC) (r : Option (Nat × (Nat → Int32))) (o : Sum (Option Value) Nat) : Prop := FrC C LS LN h h2 ∧ ∃ b : Int32, o = .inl (some (.int b)) ∧ RD T L C LS LN h2 r b
section RSs
variable {T : Nat → Int32} {L C LS LN p : Nat} {h h1 h2 : List zC} {r : Option (Nat × (Nat → Int32))} {b : Int32} {o : Sum (Option Value) Nat}
theorem RD.y (d : RD T L C LS LN h2 r b) (e : ¬ b = 0) : ∃ y : Nat × (Nat → Int32), r = some y ∧ PS T L C LS LN h2 y.1 y.2 := by
  rcases d with ⟨z, -⟩ | ⟨-, z⟩
  · exact absurd z e
  · exact z
theorem RD.n (d : RD T L C LS LN h2 r b) (e : b = 0) : r = none := by
  rcases d with ⟨-, z⟩ | ⟨z, -⟩
  · exact z
  · rw [e] at z
    exact absurd z (by decide)
theorem RS.pre (q : RS T L C LS LN h1 h2 r o) (f : FrC C LS LN h h1) : RS T L C LS LN h h2 r o := ⟨f.trans q.1, q.2⟩
theorem RS.no (f : FrC C LS LN h h2) (e : r = none) : RS T L C LS LN h h2 r (.inl (some (.int 0))) := ⟨f, 0, rfl, Or.inl ⟨rfl, e⟩⟩
theorem RS.ok {F : Nat → Int32} (f : FrC C LS LN h h2) (e : r = some (p, F)) (d : PS T L C LS LN h2 p F) : RS T L C LS LN h h2 r (.inl (some (.int 1))) := ⟨f, 1, rfl, Or.inr ⟨rfl, _, e, d⟩⟩
end RSs
def pMat (T : Nat → Int32) (L p : Nat) (F : Nat → Int32) : Option (Nat × (Nat → Int32)) := if (tkS T L 109 p).1 = 0 then none else if (tkD T L 4 (tkS T L 109 p).2).1 = -1 then none else some ((tkD T L 4 (tkS T L 109 p).2).2, upF F 0 (tkD T L 4 (tkS T L 109 p).2).1)
def clF (T : Nat → Int32) (L : Nat) : Nat → Int32 → Nat → (Nat → Int32) → Option (Nat × (Nat → Int32))
  | 0, last, p, F => if last = -1 then none else some (p, F)
  | n + 1, last, p, F => if (tkD T L 4 p).1 = -1 then (if last = -1 then none else some ((tkD T L 4 p).2, F)) else if (tkD T L 4 p).1 ≤ last then none else clF T L n (tkD T L 4 p).1 (tkD T L 4 p).2 (upF F 1 (F 1 ||| (1 <<< ((tkD T L 4 p).1 &&& 31))))
theorem clF_0 {T : Nat → Int32} {L p : Nat} {last : Int32} {F : Nat → Int32} : clF T L 0 last p F = if last = -1 then none else some (p, F) := rfl
theorem clF_b {T : Nat → Int32} {L n p : Nat} {last : Int32} {F : Nat → Int32} (h : (tkD T L 4 p).1 = -1) : clF T L (n + 1) last p F = if last = -1 then none else some ((tkD T L 4 p).2, F) := by
  conv => lhs; unfold clF
  rw [if_pos h]
theorem clF_l {T : Nat → Int32} {L n p : Nat} {last : Int32} {F : Nat → Int32} (h : ¬ (tkD T L 4 p).1 = -1) (h2 : (tkD T L 4 p).1 ≤ last) : clF T L (n + 1) last p F = none := by
  conv => lhs; unfold clF
  rw [if_neg h, if_pos h2]
theorem clF_y {T : Nat → Int32} {L n p : Nat} {last : Int32} {F : Nat → Int32} (h : ¬ (tkD T L 4 p).1 = -1) (h2 : ¬ (tkD T L 4 p).1 ≤ last) : clF T L (n + 1) last p F = clF T L n (tkD T L 4 p).1 (tkD T L 4 p).2 (upF F 1 (F 1 ||| (1 <<< ((tkD T L 4 p).1 &&& 31)))) := by
  conv => lhs; unfold clF
  rw [if_neg h, if_neg h2]
def pCls (T : Nat → Int32) (L p : Nat) (F : Nat → Int32) : Option (Nat × (Nat → Int32)) := if (tkS T L 99 p).1 = 0 then none else clF T L 4 (-1) (tkS T L 99 p).2 F
def adL (F : Nat → Int32) (s x : Int32) : Nat → Int32 := upF (upF (upF F (9 + (F 8).toNatClampNeg) s) (11 + (F 8).toNatClampNeg) x) 8 (F 8 + 1)
def adF (F : Nat → Int32) (s x : Int32) : Nat → Int32 := if s = 60 then upF (adL F s x) 5 (mnI (F 5) (x - 1)) else upF (adL F s x) 4 (mxI (F 4) (x + 1))
def pCon (T : Nat → Int32) (L p : Nat) (F : Nat → Int32) : Option (Nat × (Nat → Int32)) :=
  if sg T L p = 43 ∨ sg T L p = 45 then
    (if (tkD T L 6 (skp T L p + 1)).1 = -1 then none else some ((tkD T L 6 (skp T L p + 1)).2, if sg T L p = 43 then upF F 2 (F 2 ||| (1 <<< ((tkD T L 6 (skp T L p + 1)).1 &&& 31))) else upF F 3 (F 3 ||| (1 <<< ((tkD T L 6 (skp T L p + 1)).1 &&& 31)))))
  else if sg T L p = 60 ∨ sg T L p = 62 then
    (if (tkN T L 999 (skp T L p + 1)).1 = -1 then none else if 2 ≤ F 8 then none else some ((tkN T L 999 (skp T L p + 1)).2, adF F (sg T L p) (tkN T L 999 (skp T L p + 1)).1))
  else none
def coF (T : Nat → Int32) (L : Nat) : Nat → Nat → (Nat → Int32) → Option (Nat × (Nat → Int32))
  | 0, _, _ => none
  | n + 1, p, F => if (tkS T L 61 p).1 = 0 then (match pCon T L (tkS T L 61 p).2 F with
    | none => none
    | some y => coF T L n y.1 y.2) else some ((tkS T L 61 p).2, F)
theorem coF_e {T : Nat → Int32} {L n p : Nat} {F : Nat → Int32} (h : ¬ (tkS T L 61 p).1 = 0) : coF T L (n + 1) p F = some ((tkS T L 61 p).2, F) := by
  conv => lhs; unfold coF
  rw [if_neg h]
theorem coF_n {T : Nat → Int32} {L n p : Nat} {F : Nat → Int32} (h : (tkS T L 61 p).1 = 0) (e : pCon T L (tkS T L 61 p).2 F = none) : coF T L (n + 1) p F = none := by
  conv => lhs; unfold coF
  rw [if_pos h, e]
theorem coF_y {T : Nat → Int32} {L n p : Nat} {F : Nat → Int32} {y : Nat × (Nat → Int32)} (h : (tkS T L 61 p).1 = 0) (e : pCon T L (tkS T L 61 p).2 F = some y) : coF T L (n + 1) p F = coF T L n y.1 y.2 := by
  conv => lhs; unfold coF
  rw [if_pos h, e]
def pOut (T : Nat → Int32) (L : Nat) (nb : Int32) (p : Nat) (F : Nat → Int32) : Option (Nat × (Nat → Int32)) :=
  if (tkS T L 37 p).1 = 0 then
    (if (tkS T L 64 (tkS T L 37 p).2).1 = 0 then
      (if (tkN T L 100 (tkS T L 64 (tkS T L 37 p).2).2).1 = -1 then none else some ((tkN T L 100 (tkS T L 64 (tkS T L 37 p).2).2).2, upF F 6 (tkN T L 100 (tkS T L 64 (tkS T L 37 p).2).2).1))
    else (if (tkN T L (nb - 1) (tkS T L 64 (tkS T L 37 p).2).2).1 = -1 then none else some ((tkN T L (nb - 1) (tkS T L 64 (tkS T L 37 p).2).2).2, upF F 6 (-2 - (tkN T L (nb - 1) (tkS T L 64 (tkS T L 37 p).2).2).1))))
  else some ((tkS T L 37 p).2, upF F 6 (-1))
def pExc (T : Nat → Int32) (L : Nat) (nb : Int32) (p : Nat) (F : Nat → Int32) : Option (Nat × (Nat → Int32)) :=
  if (tkS T L 120 p).1 = 0 then some ((tkS T L 120 p).2, F) else if (tkN T L (nb - 1) (tkS T L 120 p).2).1 = -1 then none else some ((tkN T L (nb - 1) (tkS T L 120 p).2).2, upF F 7 (tkN T L (nb - 1) (tkS T L 120 p).2).1)
def pRead (T : Nat → Int32) (L : Nat) (nb : Int32) (F : Nat → Int32) : Option (Nat × (Nat → Int32)) :=
  (pMat T L 0 F).bind (fun a => (pCls T L a.1 a.2).bind (fun b => (coF T L 60 b.1 b.2).bind (fun c => (pOut T L nb c.1 c.2).bind (fun d => (pExc T L nb d.1 d.2).bind (fun e => if sg T L e.1 = -1 then some (skp T L e.1, e.2) else none)))))
/-- before a text is read: its place is of no account -/
def DZ (T : Nat → Int32) (L C LS LN : Nat) (h : List zC) (F : Nat → Int32) : Prop := Stc h ∧ gF h 183 1 = some (.int (Int32.ofNat L)) ∧ L ≤ 60 ∧ (∀ i, i < L → gF h 184 i = some (.int (T i))) ∧ CZ C LS LN h F
theorem DZ.start {T : Nat → Int32} {L C LS LN : Nat} {h h2 : List zC} {F : Nat → Int32} (d : DZ T L C LS LN h F) (g : hPut h h2 183 2 (.int 0)) : PS T L C LS LN h2 0 F ∧ FrC C LS LN h h2 := by
  obtain ⟨d1, d2, d3, d4, d5⟩ := d
  refine ⟨⟨⟨⟨by rw [g.1]; exact d1.1, fun e he => ?_⟩, ?_, ?_, Nat.zero_le _, d3, fun i hi => ?_⟩, d5.oth (fun x k hx => by rw [g.2.1, if_neg (by omega)])⟩, FrC.put g (Or.inl ⟨rfl, rfl⟩)⟩
  · have q := List.all_eq_true.mp (show stL.all (fun e => !(e.1 == 183 && e.2.1 == 2)) = true by decide +kernel) e he
    rw [g.2.1, if_neg (fun z => by simp [z.1, z.2] at q)]
    exact d1.2 e he
  · rw [g.2.1, if_neg (by omega)]
    exact d2
  · rw [g.2.1, if_pos ⟨rfl, rfl⟩]
    rfl
  · rw [g.2.1, if_neg (by omega)]
    exact d4 i hi
/-! ===== values: the text that is fed, on the reference's side ===== -/
theorem st_len {h : List zC} {p k l : Nat} {v : Value} (e : gF h p k = some v) (n : gN h p = some l) : k < l := by
  unfold gF at e
  unfold gN at n
  cases c : h[p]? with
  | none => rw [c] at e; cases e
  | some x =>
    rw [c] at e n
    cases n
    exact (List.getElem?_eq_some_iff.mp e).1
theorem ch_tab : ∀ n, n < 128 → ((Int32.ofNat n &&& 255).toUInt32 % 65536).toInt32 = Int32.ofNat n := by decide +kernel
theorem ch_id {x : Int32} (h : rI 32 126 x) : ((x &&& 255).toUInt32 % 65536).toInt32 = x := by
  obtain ⟨h1, h2⟩ := h
  have z1 : (32 : Int32).toInt = 32 := rfl
  have z2 : (126 : Int32).toInt = 126 := rfl
  have e : x = Int32.ofNat x.toInt.toNat := Int32.toInt_inj.mp (by
    rw [Int32.toInt_ofNat_of_lt (by omega)]
    omega)
  rw [e]
  exact ch_tab _ (by omega)
theorem sh0_tab : ∀ n, n < 61 → Int32.ofNat n >>> ((0 : Int32) &&& 31) = Int32.ofNat n := by decide +kernel
/-- a string's cells: s, and its bytes b -/
def SB (T : Nat → Int32) (L s b : Nat) (h : List zC) : Prop := gF h s 0 = some (.ref b) ∧ gF h s 1 = some (.int 0) ∧ gN h b = some L ∧ L ≤ 60 ∧ (∀ i, i < L → gF h b i = some (.int (T i)) ∧ rI 32 126 (T i)) ∧ ¬ s = 213 ∧ ¬ b = 213
/-- the reference's text, its place a, and whether it is bad -/
def MB (T : Nat → Int32) (L s b : Nat) (h : List zC) (a bd : Int32) : Prop := Stc h ∧ SB T L s b h ∧ gF h 213 10 = some (.ref s) ∧ gF h 213 16 = some (.int a) ∧ gF h 213 17 = some (.int bd) ∧ (bd = 0 ∨ bd = 1)
/-- nothing but the place and the flag is another -/
def FM (h h2 : List zC) : Prop := h2.length = h.length ∧ (∀ x k, ¬ (x = 213 ∧ (k = 16 ∨ k = 17)) → gF h2 x k = gF h x k) ∧ ∀ x, gT h2 x = gT h x ∧ gN h2 x = gN h x
theorem FM.refl (h : List zC) : FM h h := ⟨rfl, fun _ _ _ => rfl, fun _ => ⟨rfl, rfl⟩⟩
theorem FM.trans {h h1 h2 : List zC} (a : FM h h1) (b : FM h1 h2) : FM h h2 := ⟨by rw [b.1, a.1], fun x k n => by rw [b.2.1 x k n, a.2.1 x k n], fun x => by rw [(b.2.2 x).1, (b.2.2 x).2]; exact a.2.2 x⟩
theorem FM.put {h h2 : List zC} {k : Nat} {v : Value} (g : hPut h h2 213 k v) (hk : k = 16 ∨ k = 17) : FM h h2 := ⟨g.1, fun x j n => by
  rw [g.2.1, if_neg (fun w => n ⟨w.1, by omega⟩)], fun x => ⟨g.2.2.1 x, g.2.2.2 x⟩⟩
theorem SB.same {T : Nat → Int32} {L s b : Nat} {h h2 : List zC} (d : SB T L s b h) (e : ∀ x k, ¬ x = 213 → gF h2 x k = gF h x k) (n : gN h2 b = gN h b) : SB T L s b h2 := by
  obtain ⟨d1, d2, d3, d4, d5, d6, d7⟩ := d
  exact ⟨by rw [e s 0 d6]; exact d1, by rw [e s 1 d6]; exact d2, by rw [n]; exact d3, d4, fun i hi => ⟨by rw [e b i d7]; exact (d5 i hi).1, (d5 i hi).2⟩, d6, d7⟩
theorem Stc.fm {h h2 : List zC} (hS : Stc h) (f : FM h h2) : Stc h2 := ⟨by rw [f.1]; exact hS.1, fun e he => by
  have q := List.all_eq_true.mp (show stL.all (fun e => !(e.1 == 213 && (e.2.1 == 16 || e.2.1 == 17))) = true by decide +kernel) e he
  rw [f.2.1 _ _ (fun z => by
    rcases z.2 with y | y
    · simp [z.1, y] at q
    · simp [z.1, y] at q)]
  exact hS.2 e he⟩
section MBs
variable {T : Nat → Int32} {L s b : Nat} {h h2 : List zC} {a bd a2 bd2 : Int32}
theorem MB.fm (d : MB T L s b h a bd) (f : FM h h2) (e1 : gF h2 213 16 = some (.int a2)) (e2 : gF h2 213 17 = some (.int bd2)) (e3 : bd2 = 0 ∨ bd2 = 1) : MB T L s b h2 a2 bd2 := ⟨d.1.fm f, d.2.1.same (fun x k n => f.2.1 x k (fun z => n z.1)) (f.2.2 b).2, (f.2.1 213 10 (by omega)).trans d.2.2.1, e1, e2, e3⟩
theorem MB.at (d : MB T L s b h a bd) : gF h 213 16 = some (.int a) := d.2.2.2.1
theorem MB.fl (d : MB T L s b h a bd) : gF h 213 17 = some (.int bd) := d.2.2.2.2.1
theorem MB.fed (d : MB T L s b h a bd) : gF h 213 10 = some (.ref s) := d.2.2.1
theorem MB.or (d : MB T L s b h a bd) : bd = 0 ∨ bd = 1 := d.2.2.2.2.2
theorem MB.sb (d : MB T L s b h a bd) : SB T L s b h := d.2.1
theorem SB.l60 (d : SB T L s b h) : L ≤ 60 := d.2.2.2.1
theorem MB.putA (d : MB T L s b h a bd) (g : hPut h h2 213 16 (.int a2)) : MB T L s b h2 a2 bd ∧ FM h h2 := ⟨d.fm (FM.put g (Or.inl rfl)) (by rw [g.2.1, if_pos ⟨rfl, rfl⟩]) (by rw [g.2.1, if_neg (by omega)]; exact d.fl) d.or, FM.put g (Or.inl rfl)⟩
theorem MB.putB (d : MB T L s b h a bd) (g : hPut h h2 213 17 (.int bd2)) (e : bd2 = 0 ∨ bd2 = 1) : MB T L s b h2 a bd2 ∧ FM h h2 := ⟨d.fm (FM.put g (Or.inr rfl)) (by rw [g.2.1, if_neg (by omega)]; exact d.at) (by rw [g.2.1, if_pos ⟨rfl, rfl⟩]) e, FM.put g (Or.inr rfl)⟩
end MBs
/-- the next sign, or the end's -/
def sgM (T : Nat → Int32) (L p : Nat) : Int32 := if skp T L p < L then T (skp T L p) else 10
theorem sgM_c {T : Nat → Int32} {L p : Nat} (hT : ∀ i, i < L → rI 32 126 (T i)) {c : Int32} (h1 : ¬ c = 10) (h2 : ¬ c = -1) : sgM T L p = c ↔ sg T L p = c := by
  unfold sgM sg
  by_cases z : skp T L p < L
  · rw [if_pos z, if_pos z]
  · rw [if_neg z, if_neg z]
    exact ⟨fun e => absurd e.symm h1, fun e => absurd e.symm h2⟩
/-- whether it is a digit -/
def isD (x : Int32) : Int32 := if x < 48 then 0 else if 57 < x then 0 else 1
theorem isD_y {x : Int32} (h : ¬ isD x = 0) : rI 48 57 x := by
  unfold isD at h
  have z1 : (48 : Int32).toInt = 48 := rfl
  have z2 : (57 : Int32).toInt = 57 := rfl
  by_cases a : x < 48
  · rw [if_pos a] at h
    exact absurd rfl h
  · rw [if_neg a] at h
    by_cases b : 57 < x
    · rw [if_pos b] at h
      exact absurd rfl h
    · rw [i32_lt] at a b
      exact ⟨by omega, by omega⟩
theorem isD_n {x : Int32} (h : isD x = 0) : ¬ rI 48 57 x := fun ⟨h1, h2⟩ => by
  unfold isD at h
  rw [if_neg (fun z => by rw [i32_lt] at z; omega), if_neg (fun z => by rw [i32_lt] at z; omega)] at h
  exact absurd h (by decide)
theorem sgM_D {T : Nat → Int32} {L p : Nat} : rI 48 57 (sgM T L p) ↔ rI 48 57 (sg T L p) := by
  unfold sgM sg
  by_cases z : skp T L p < L
  · rw [if_pos z, if_pos z]
  · rw [if_neg z, if_neg z]
    exact ⟨fun e => absurd e (by decide), fun e => absurd e (by decide)⟩
theorem sgM_e {T : Nat → Int32} {L p : Nat} (h : rI 48 57 (sg T L p)) : sgM T L p = sg T L p := by
  unfold sgM sg at *
  by_cases z : skp T L p < L
  · rw [if_pos z, if_pos z]
  · rw [if_neg z] at h
    exact absurd h (by decide)
theorem z48 : (48 : Int32).toInt = 48 := rfl
theorem z57 : (57 : Int32).toInt = 57 := rfl
theorem d48 {x : Int32} (h : rI 48 57 x) : (x - 48).toInt = x.toInt - 48 := by
  obtain ⟨h1, h2⟩ := h
  have a := z48
  have b := z57
  rw [Int32.toInt_sub, a]
  exact Int.bmod_eq_of_le (by omega) (by omega)
theorem m48 {m : Int32} (h : 0 ≤ m.toInt ∧ m.toInt ≤ 10) : (48 + m).toInt = 48 + m.toInt := by
  obtain ⟨h1, h2⟩ := h
  have a := z48
  rw [Int32.toInt_add, a]
  exact Int.bmod_eq_of_le (by omega) (by omega)
section tkDs
variable {T : Nat → Int32} {L p : Nat} {m : Int32}
theorem tkD_nd (hm : 0 ≤ m.toInt ∧ m.toInt ≤ 10) (h : ¬ rI 48 57 (sg T L p)) : tkD T L m p = (-1, skp T L p) := by
  unfold tkD
  rw [if_pos]
  rw [i32_lt, i32_le, m48 hm]
  have a := z48
  have b := z57
  by_cases z : (sg T L p).toInt < 48
  · exact Or.inl (by omega)
  · refine Or.inr ?_
    have : ¬ (sg T L p).toInt ≤ 57 := fun y => h ⟨by omega, by omega⟩
    omega
theorem tkD_ge (hm : 0 ≤ m.toInt ∧ m.toInt ≤ 10) (h : rI 48 57 (sg T L p)) (h2 : ¬ sg T L p - 48 < m) : tkD T L m p = (-1, skp T L p) := by
  unfold tkD
  rw [if_pos]
  rw [i32_lt, d48 h] at h2
  refine Or.inr ?_
  rw [i32_le, m48 hm]
  omega
theorem tkD_ok (hm : 0 ≤ m.toInt ∧ m.toInt ≤ 10) (h : rI 48 57 (sg T L p)) (h2 : sg T L p - 48 < m) : tkD T L m p = (sg T L p - 48, skp T L p + 1) ∧ ¬ sg T L p - 48 = -1 := by
  rw [i32_lt, d48 h] at h2
  refine ⟨?_, fun z => ?_⟩
  · unfold tkD
    rw [if_neg (fun z => ?_)]
    rw [i32_lt, i32_le, m48 hm] at z
    have a := z48
    have b := h.1
    rcases z with z | z <;> omega
  · have y := d48 h
    rw [z] at y
    have a := z48
    have b := h.1
    have c : (-1 : Int32).toInt = -1 := rfl
    omega
end tkDs
/-- a number's digits as the reference takes them: up to n more -/
def nlF (T : Nat → Int32) (L : Nat) : Nat → Int32 → Nat → Int32 × Nat × Nat
  | 0, x, p => (x, p, 0)
  | n + 1, x, p => if p < L ∧ rI 48 57 (T p) then nlF T L n (10 * x + T p - 48) (p + 1) else (x, p, n + 1)
theorem nlF_y {T : Nat → Int32} {L n p : Nat} {x : Int32} (h : p < L ∧ rI 48 57 (T p)) : nlF T L (n + 1) x p = nlF T L n (10 * x + T p - 48) (p + 1) := by
  conv => lhs; unfold nlF
  rw [if_pos h]
theorem nlF_n {T : Nat → Int32} {L n p : Nat} {x : Int32} (h : ¬ (p < L ∧ rI 48 57 (T p))) : nlF T L (n + 1) x p = (x, p, n + 1) := by
  conv => lhs; unfold nlF
  rw [if_neg h]
/-- a number, as the reference reads it: of one to three digits -/
def nuS (T : Nat → Int32) (L p : Nat) : Option (Int32 × Nat) := if rI 48 57 (sg T L p) then (if (nlF T L 4 0 (skp T L p)).2.2 = 0 then none else some ((nlF T L 4 0 (skp T L p)).1, (nlF T L 4 0 (skp T L p)).2.1)) else none
theorem or01 {x y : Int32} (h : x = 0 ∨ x = 1) (h2 : y = 0 ∨ y = 1) : x ||| y = 0 ∨ x ||| y = 1 := by
  rcases h with z | z <;> rcases h2 with w | w <;> rw [z, w] <;> decide
theorem or_1 {x : Int32} (h : x = 0 ∨ x = 1) : x ||| 1 = 1 := by
  rcases h with z | z <;> rw [z] <;> decide
theorem or_0 {x : Int32} : x ||| 0 = x := by
  rw [Int32.or_zero]

/-! ===== values: a text read into an article, on the reference's side ===== -/
/-- a limit's sign, as the reference keeps it -/
def sg2 (x : Int32) : Int32 := if x = 60 then 1 else if x = 62 then 2 else 0
/-- the places of an article's numbers, and of the same in a clause -/
def aps : List (Nat × Nat) := [(0, 0), (1, 1), (2, 2), (3, 3), (6, 8), (7, 6), (8, 7)]
theorem aps_inj : ∀ e ∈ aps, ∀ f ∈ aps, (e.1 = f.1 ↔ e.2 = f.2) := by decide
theorem aps_lt : ∀ e ∈ aps, e.2 < 9 ∧ ¬ e.1 = 4 ∧ ¬ e.1 = 5 := by decide
def AZ (A AS AN : Nat) (h : List zC) (F : Nat → Int32) : Prop := (∀ e ∈ aps, gF h A e.1 = some (.int (F e.2))) ∧ gF h A 4 = some (.ref AS) ∧ gF h A 5 = some (.ref AN) ∧ (∀ k, k < 2 → gF h AS k = some (.int (sg2 (F (9 + k))))) ∧ (∀ k, k < 2 → gF h AN k = some (.int (F (11 + k)))) ∧ (F 8 = 0 ∨ F 8 = 1 ∨ F 8 = 2) ∧ 239 ≤ A ∧ 239 ≤ AS ∧ 239 ≤ AN ∧ ¬ A = AS ∧ ¬ A = AN ∧ ¬ AS = AN
section AZs
variable {A AS AN i j k : Nat} {h h2 : List zC} {F G : Nat → Int32} {x y : Int32}
theorem AZ.oth (z : AZ A AS AN h F) (e : ∀ x k, 239 ≤ x → gF h2 x k = gF h x k) : AZ A AS AN h2 F := by
  obtain ⟨z1, z2, z3, z4, z5, z6, a, b, c, n⟩ := z
  exact ⟨fun f hf => by rw [e _ _ a]; exact z1 f hf, by rw [e _ _ a]; exact z2, by rw [e _ _ a]; exact z3, fun k hk => by rw [e _ _ b]; exact z4 k hk, fun k hk => by rw [e _ _ c]; exact z5 k hk, z6, a, b, c, n⟩
theorem AZ.fm (z : AZ A AS AN h F) (f : FM h h2) : AZ A AS AN h2 F := z.oth (fun x k hx => f.2.1 x k (by omega))
theorem AZ.put (z : AZ A AS AN h F) (hm : (i, j) ∈ aps) (hx : j = 8 → x = 0 ∨ x = 1 ∨ x = 2) (g : hPut h h2 A i (.int x)) : AZ A AS AN h2 (upF F j x) := by
  obtain ⟨z1, z2, z3, z4, z5, z6, a, b, c, n1, n2, n3⟩ := z
  obtain ⟨l1, l2, l3⟩ := aps_lt _ hm
  have l1 : j < 9 := l1
  have l2 : ¬ i = 4 := l2
  have l3 : ¬ i = 5 := l3
  refine ⟨fun f hf => ?_, ?_, ?_, fun k hk => ?_, fun k hk => ?_, ?_, a, b, c, n1, n2, n3⟩
  · have q : f.1 = i ↔ f.2 = j := aps_inj f hf (i, j) hm
    rw [g.2.1]
    by_cases e : f.1 = i
    · rw [if_pos ⟨rfl, e⟩, q.mp e, upF_eq]
    · rw [if_neg (fun w => e w.2), z1 f hf, upF_ne (fun w => e (q.mpr w))]
  · rw [g.2.1, if_neg (fun w => l2 w.2.symm)]
    exact z2
  · rw [g.2.1, if_neg (fun w => l3 w.2.symm)]
    exact z3
  · rw [g.2.1, if_neg (fun w => n1 w.1.symm), z4 k hk, upF_ne (by omega)]
  · rw [g.2.1, if_neg (fun w => n2 w.1.symm), z5 k hk, upF_ne (by omega)]
  · by_cases e : j = 8
    · subst e
      rw [upF_eq]
      exact hx rfl
    · rw [upF_ne (fun w => e w.symm)]
      exact z6
theorem AZ.putS (z : AZ A AS AN h F) (hi : i < 2) (hy : x = sg2 y) (g : hPut h h2 AS i (.int x)) : AZ A AS AN h2 (upF F (9 + i) y) := by
  obtain ⟨z1, z2, z3, z4, z5, z6, a, b, c, n1, n2, n3⟩ := z
  refine ⟨fun f hf => ?_, ?_, ?_, fun k hk => ?_, fun k hk => ?_, ?_, a, b, c, n1, n2, n3⟩
  · have l1 := (aps_lt f hf).1
    rw [g.2.1, if_neg (fun w => n1 w.1), z1 f hf, upF_ne (by omega)]
  · rw [g.2.1, if_neg (fun w => n1 w.1)]
    exact z2
  · rw [g.2.1, if_neg (fun w => n1 w.1)]
    exact z3
  · rw [g.2.1]
    by_cases e : k = i
    · subst e
      rw [if_pos ⟨rfl, rfl⟩, upF_eq, hy]
    · rw [if_neg (fun w => e w.2), z4 k hk, upF_ne (by omega)]
  · rw [g.2.1, if_neg (fun w => n3 w.1.symm), z5 k hk, upF_ne (by omega)]
  · rw [upF_ne (by omega)]
    exact z6
theorem AZ.putN (z : AZ A AS AN h F) (hi : i < 2) (g : hPut h h2 AN i (.int x)) : AZ A AS AN h2 (upF F (11 + i) x) := by
  obtain ⟨z1, z2, z3, z4, z5, z6, a, b, c, n1, n2, n3⟩ := z
  refine ⟨fun f hf => ?_, ?_, ?_, fun k hk => ?_, fun k hk => ?_, ?_, a, b, c, n1, n2, n3⟩
  · have l1 := (aps_lt f hf).1
    rw [g.2.1, if_neg (fun w => n2 w.1), z1 f hf, upF_ne (by omega)]
  · rw [g.2.1, if_neg (fun w => n2 w.1)]
    exact z2
  · rw [g.2.1, if_neg (fun w => n2 w.1)]
    exact z3
  · rw [g.2.1, if_neg (fun w => n3 w.1), z4 k hk, upF_ne (by omega)]
  · rw [g.2.1]
    by_cases e : k = i
    · subst e
      rw [if_pos ⟨rfl, rfl⟩, upF_eq]
    · rw [if_neg (fun w => e w.2), z5 k hk, upF_ne (by omega)]
  · rw [upF_ne (by omega)]
    exact z6
/-- the least and the most of a clause are not among an article's cells -/
theorem AZ.lm (z : AZ A AS AN h F) (hk : k = 4 ∨ k = 5) : AZ A AS AN h (upF F k x) := by
  obtain ⟨z1, z2, z3, z4, z5, z6, n⟩ := z
  have nk : ∀ f ∈ aps, ¬ f.2 = 4 ∧ ¬ f.2 = 5 := by decide
  exact ⟨fun f hf => by have := nk f hf; rw [upF_ne (by omega)]; exact z1 f hf, z2, z3, fun j hj => by rw [upF_ne (by omega)]; exact z4 j hj, fun j hj => by rw [upF_ne (by omega)]; exact z5 j hj, by rw [upF_ne (by omega)]; exact z6, n⟩
end AZs
/-- nothing but the place, the flag and the article is another -/
def FA (A AS AN : Nat) (h h2 : List zC) : Prop := h2.length = h.length ∧ (∀ x k, ¬ (x = 213 ∧ (k = 16 ∨ k = 17)) → ¬ (x = A ∧ k < 9) → ¬ x = AS → ¬ x = AN → gF h2 x k = gF h x k) ∧ ∀ x, gT h2 x = gT h x ∧ gN h2 x = gN h x
theorem FA.fm {A AS AN : Nat} {h h2 : List zC} (f : FM h h2) : FA A AS AN h h2 := ⟨f.1, fun x k n _ _ _ => f.2.1 x k n, f.2.2⟩
theorem FA.refl {A AS AN : Nat} (h : List zC) : FA A AS AN h h := FA.fm (FM.refl h)
theorem FA.trans {A AS AN : Nat} {h h1 h2 : List zC} (a : FA A AS AN h h1) (b : FA A AS AN h1 h2) : FA A AS AN h h2 := ⟨by rw [b.1, a.1], fun x k n1 n2 n3 n4 => by rw [b.2.1 x k n1 n2 n3 n4, a.2.1 x k n1 n2 n3 n4], fun x => by rw [(b.2.2 x).1, (b.2.2 x).2]; exact a.2.2 x⟩
theorem FA.put {A AS AN : Nat} {h h2 : List zC} {q k : Nat} {v : Value} (g : hPut h h2 q k v) (hq : (q = A ∧ k < 9) ∨ q = AS ∨ q = AN) : FA A AS AN h h2 := ⟨g.1, fun x j _ n2 n3 n4 => by
  rw [g.2.1, if_neg (fun w => ?_)]
  rcases hq with ⟨y, y2⟩ | y | y
  · exact n2 ⟨w.1.trans y, by omega⟩
  · exact n3 (w.1.trans y)
  · exact n4 (w.1.trans y), fun x => ⟨g.2.2.1 x, g.2.2.2 x⟩⟩
theorem MB.putC {T : Nat → Int32} {L s b q k : Nat} {h h2 : List zC} {a bd : Int32} {v : Value} (d : MB T L s b h a bd) (g : hPut h h2 q k v) (hq : 239 ≤ q) (hs : ¬ s = q) (hb : ¬ b = q) : MB T L s b h2 a bd := by
  obtain ⟨d1, ⟨e1, e2, e3, e4, e5, e6, e7⟩, d3, d4, d5, d6⟩ := d
  refine ⟨⟨by rw [g.1]; exact d1.1, fun e he => ?_⟩, ⟨by rw [g.2.1, if_neg (fun w => hs w.1)]; exact e1, by rw [g.2.1, if_neg (fun w => hs w.1)]; exact e2, by rw [g.2.2.2]; exact e3, e4, fun i hi => ⟨by rw [g.2.1, if_neg (fun w => hb w.1)]; exact (e5 i hi).1, (e5 i hi).2⟩, e6, e7⟩, by rw [g.2.1, if_neg (by omega)]; exact d3, by rw [g.2.1, if_neg (by omega)]; exact d4, by rw [g.2.1, if_neg (by omega)]; exact d5, d6⟩
  have q := of_decide_eq_true (List.all_eq_true.mp stL_239 e he)
  rw [g.2.1, if_neg (by omega)]
  exact d1.2 e he
/-- the article's cells are not the text's -/
def NE (s b A AS AN : Nat) : Prop := (¬ s = A ∧ ¬ b = A) ∧ (¬ s = AS ∧ ¬ b = AS) ∧ ¬ s = AN ∧ ¬ b = AN
/-- how far the text is read: bad, or at a place, with these numbers -/
def GR (T : Nat → Int32) (L A AS AN : Nat) (h : List zC) (a bd : Int32) (r : Option (Nat × (Nat → Int32))) : Prop := (bd = 1 ∧ r = none) ∨ (bd = 0 ∧ ∃ (p : Nat) (F : Nat → Int32), r = some (p, F) ∧ p ≤ L ∧ a = Int32.ofNat p ∧ AZ A AS AN h F)
theorem skp_skp {T : Nat → Int32} {L p : Nat} (hp : p ≤ L) : skp T L (skp T L p) = skp T L p := skp_n (skp_b (T := T) _ p rfl hp).2.2
theorem sg_skp {T : Nat → Int32} {L p : Nat} (hp : p ≤ L) : sg T L (skp T L p) = sg T L p := by
  unfold sg
  rw [skp_skp hp]
theorem tkS_y {T : Nat → Int32} {L p : Nat} {c : Int32} (h : ¬ (tkS T L c p).1 = 0) : sg T L p = c ∧ tkS T L c p = (1, skp T L p + 1) := by
  unfold tkS at h ⊢
  by_cases z : sg T L p = c
  · rw [if_pos z]
    exact ⟨z, rfl⟩
  · rw [if_neg z] at h
    exact absurd rfl h
theorem tkS_n {T : Nat → Int32} {L p : Nat} {c : Int32} (h : (tkS T L c p).1 = 0) : ¬ sg T L p = c ∧ tkS T L c p = (0, skp T L p) := by
  unfold tkS at h ⊢
  by_cases z : sg T L p = c
  · rw [if_pos z] at h
    exact absurd (show (1 : Int32) = 0 from h) (by decide)
  · rw [if_neg z]
    exact ⟨z, rfl⟩
theorem nlF_b {T : Nat → Int32} {L : Nat} : ∀ (n : Nat) (x : Int32) (p : Nat), p ≤ L → (nlF T L n x p).2.1 ≤ L ∧ p ≤ (nlF T L n x p).2.1
  | 0, _, _, h => ⟨h, Nat.le_refl _⟩
  | n + 1, x, p, h => by
    by_cases z : p < L ∧ rI 48 57 (T p)
    · rw [nlF_y z]
      obtain ⟨a, b⟩ := nlF_b (T := T) (L := L) n (10 * x + T p - 48) (p + 1) (by omega)
      exact ⟨a, by omega⟩
    · rw [nlF_n z]
      exact ⟨h, Nat.le_refl _⟩
theorem nuS_b {T : Nat → Int32} {L p : Nat} {y : Int32 × Nat} (hp : p ≤ L) (h : nuS T L p = some y) : y.2 ≤ L ∧ p ≤ y.2 := by
  unfold nuS at h
  split at h
  · split at h
    · cases h
    · cases h
      obtain ⟨a, b, -⟩ := skp_b (T := T) _ p rfl hp
      obtain ⟨c, d⟩ := nlF_b (T := T) 4 0 (skp T L p) b
      exact ⟨c, Nat.le_trans a d⟩
  · cases h
def sLim (T : Nat → Int32) (L p : Nat) (F : Nat → Int32) : Option (Nat × (Nat → Int32)) := if sg T L p = 60 ∨ sg T L p = 62 then (if F 8 = 2 then none else match nuS T L (skp T L p + 1) with
  | none => none
  | some y => some (y.2, adF F (sg T L p) y.1)) else none
def sCon (T : Nat → Int32) (L p : Nat) (F : Nat → Int32) : Option (Nat × (Nat → Int32)) :=
  if sg T L p = 43 then (if (tkD T L 6 (skp T L p + 1)).1 = -1 then none else some ((tkD T L 6 (skp T L p + 1)).2, upF F 2 (F 2 ||| (1 <<< ((tkD T L 6 (skp T L p + 1)).1 &&& 31)))))
  else if sg T L p = 45 then (if (tkD T L 6 (skp T L p + 1)).1 = -1 then none else some ((tkD T L 6 (skp T L p + 1)).2, upF F 3 (F 3 ||| (1 <<< ((tkD T L 6 (skp T L p + 1)).1 &&& 31)))))
  else sLim T L p F
/-! ===== values: a text read, whole, on the reference's side ===== -/
theorem sgM_10 {T : Nat → Int32} {L p : Nat} (hT : ∀ i, i < L → rI 32 126 (T i)) : sgM T L p = 10 ↔ sg T L p = -1 := by
  unfold sgM sg
  by_cases z : skp T L p < L
  · rw [if_pos z, if_pos z]
    have h := hT _ z
    have z1 : (32 : Int32).toInt = 32 := rfl
    constructor
    · intro e
      rw [e] at h
      exact absurd h (by decide)
    · intro e
      rw [e] at h
      exact absurd h (by decide)
  · rw [if_neg z, if_neg z]
    exact ⟨fun _ => rfl, fun _ => rfl⟩
theorem tkD_skp {T : Nat → Int32} {L p : Nat} {m : Int32} (hp : p ≤ L) : tkD T L m (skp T L p) = tkD T L m p := by
  unfold tkD
  rw [sg_skp hp, skp_skp hp]
theorem tkD_adv {T : Nat → Int32} {L p : Nat} {m : Int32} (hp : p ≤ L) (h : ¬ (tkD T L m p).1 = -1) : p < (tkD T L m p).2 := by
  obtain ⟨a, -, -⟩ := skp_b (T := T) (L := L) _ p rfl hp
  unfold tkD at h ⊢
  by_cases z : sg T L p < 48 ∨ 48 + m ≤ sg T L p
  · rw [if_pos z] at h
    exact absurd rfl h
  · rw [if_neg z]
    show p < skp T L p + 1
    omega
def xEq (T : Nat → Int32) (L : Nat) (y : Nat × (Nat → Int32)) : Option (Nat × (Nat → Int32)) := if (tkS T L 61 y.1).1 = 0 then none else some ((tkS T L 61 y.1).2, y.2)
def sCh (T : Nat → Int32) (L : Nat) (y : Nat × (Nat → Int32)) : Option (Nat × (Nat → Int32)) := if (tkS T L 99 y.1).1 = 0 then none else some ((tkS T L 99 y.1).2, y.2)
def xEnd (T : Nat → Int32) (L : Nat) (y : Nat × (Nat → Int32)) : Option (Nat × (Nat → Int32)) := if sg T L y.1 = -1 then some (skp T L y.1, y.2) else none
def sExc (T : Nat → Int32) (L : Nat) (nb : Int32) (y : Nat × (Nat → Int32)) : Option (Nat × (Nat → Int32)) := if (tkS T L 120 y.1).1 = 0 then some ((tkS T L 120 y.1).2, y.2) else match nuS T L (tkS T L 120 y.1).2 with
  | none => none
  | some x => if nb ≤ x.1 then none else some (x.2, upF y.2 7 x.1)
def sOut (T : Nat → Int32) (L : Nat) (nb : Int32) (y : Nat × (Nat → Int32)) : Option (Nat × (Nat → Int32)) := if (tkS T L 37 y.1).1 = 0 then (if (tkS T L 64 (tkS T L 37 y.1).2).1 = 0 then (match nuS T L (tkS T L 64 (tkS T L 37 y.1).2).2 with
  | none => none
  | some x => if 100 < x.1 then none else some (x.2, upF y.2 6 x.1)) else match nuS T L (tkS T L 64 (tkS T L 37 y.1).2).2 with
  | none => none
  | some x => if nb ≤ x.1 then none else some (x.2, upF y.2 6 (-2 - x.1))) else some ((tkS T L 37 y.1).2, upF y.2 6 (-1))
def scF (T : Nat → Int32) (L : Nat) : Nat → Nat × (Nat → Int32) → Option (Nat × (Nat → Int32))
  | 0, _ => none
  | n + 1, y => if sg T L y.1 = 61 then some (skp T L y.1, y.2) else (sCon T L (skp T L y.1) y.2).bind (scF T L n)
theorem scF_y {T : Nat → Int32} {L n : Nat} {y : Nat × (Nat → Int32)} (h : sg T L y.1 = 61) : scF T L (n + 1) y = some (skp T L y.1, y.2) := by
  conv => lhs; unfold scF
  rw [if_pos h]
theorem scF_n {T : Nat → Int32} {L n : Nat} {y : Nat × (Nat → Int32)} (h : ¬ sg T L y.1 = 61) : scF T L (n + 1) y = (sCon T L (skp T L y.1) y.2).bind (scF T L n) := by
  conv => lhs; unfold scF
  rw [if_neg h]
def slF (T : Nat → Int32) (L : Nat) : Nat → Int32 → Nat × (Nat → Int32) → Option (Nat × (Nat → Int32))
  | 0, _, _ => none
  | n + 1, last, y => if rI 48 57 (sg T L y.1) ∨ last = -1 then (if (tkD T L 4 y.1).1 = -1 then none else if (tkD T L 4 y.1).1 ≤ last then none else slF T L n (tkD T L 4 y.1).1 ((tkD T L 4 y.1).2, upF y.2 1 (y.2 1 ||| (1 <<< ((tkD T L 4 y.1).1 &&& 31))))) else some (skp T L y.1, y.2)
theorem slF_e {T : Nat → Int32} {L n : Nat} {last : Int32} {y : Nat × (Nat → Int32)} (h : ¬ (rI 48 57 (sg T L y.1) ∨ last = -1)) : slF T L (n + 1) last y = some (skp T L y.1, y.2) := by
  conv => lhs; unfold slF
  rw [if_neg h]
theorem slF_b {T : Nat → Int32} {L n : Nat} {last : Int32} {y : Nat × (Nat → Int32)} (h : rI 48 57 (sg T L y.1) ∨ last = -1) (h2 : (tkD T L 4 y.1).1 = -1 ∨ (tkD T L 4 y.1).1 ≤ last) : slF T L (n + 1) last y = none := by
  conv => lhs; unfold slF
  rw [if_pos h]
  by_cases z : (tkD T L 4 y.1).1 = -1
  · rw [if_pos z]
  · rw [if_neg z, if_pos (h2.resolve_left z)]
theorem slF_y {T : Nat → Int32} {L n : Nat} {last : Int32} {y : Nat × (Nat → Int32)} (h : rI 48 57 (sg T L y.1) ∨ last = -1) (h2 : ¬ (tkD T L 4 y.1).1 = -1) (h3 : ¬ (tkD T L 4 y.1).1 ≤ last) : slF T L (n + 1) last y = slF T L n (tkD T L 4 y.1).1 ((tkD T L 4 y.1).2, upF y.2 1 (y.2 1 ||| (1 <<< ((tkD T L 4 y.1).1 &&& 31)))) := by
  conv => lhs; unfold slF
  rw [if_pos h, if_neg h2, if_neg h3]
def rd3 (T : Nat → Int32) (L : Nat) (nb : Int32) (y : Nat × (Nat → Int32)) : Option (Nat × (Nat → Int32)) := (sExc T L nb y).bind (xEnd T L)
def rd2b (T : Nat → Int32) (L : Nat) (nb : Int32) (y : Nat × (Nat → Int32)) : Option (Nat × (Nat → Int32)) := (sOut T L nb y).bind (rd3 T L nb)
def rd2 (T : Nat → Int32) (L : Nat) (nb : Int32) (y : Nat × (Nat → Int32)) : Option (Nat × (Nat → Int32)) := (xEq T L y).bind (rd2b T L nb)
def rdc (T : Nat → Int32) (L : Nat) (nb : Int32) (m : Nat) (y : Nat × (Nat → Int32)) : Option (Nat × (Nat → Int32)) := (scF T L m y).bind (rd2 T L nb)
def rdk (T : Nat → Int32) (L : Nat) (nb : Int32) (m : Nat) (last : Int32) (y : Nat × (Nat → Int32)) : Option (Nat × (Nat → Int32)) := (slF T L m last y).bind (rdc T L nb 61)
def rd0 (T : Nat → Int32) (L : Nat) (nb : Int32) (F : Nat → Int32) : Option (Nat × (Nat → Int32)) := ((pMat T L 0 F).bind (sCh T L)).bind (rdk T L nb 61 (-1))
theorem sLim_b {T : Nat → Int32} {L p : Nat} {F : Nat → Int32} {y : Nat × (Nat → Int32)} (h : sLim T L p F = some y) : p < y.1 ∧ y.1 ≤ L := by
  unfold sLim at h
  by_cases a : sg T L p = 60 ∨ sg T L p = 62
  · rw [if_pos a] at h
    have l1 : skp T L p < L := sg_lt (T := T) (by
      rcases a with z | z
      · rw [z]
        decide
      · rw [z]
        decide)
    have lp : p ≤ skp T L p := by
      rcases Nat.lt_or_ge L p with z | z
      · unfold skp
        rw [show L - p = 0 by omega]
        exact Nat.le_refl _
      · exact (skp_b (T := T) _ p rfl z).1
    by_cases b : F 8 = 2
    · rw [if_pos b] at h
      cases h
    · rw [if_neg b] at h
      cases en : nuS T L (skp T L p + 1) with
      | none => rw [en] at h; cases h
      | some x =>
        rw [en] at h
        cases h
        obtain ⟨c, d⟩ := nuS_b (show skp T L p + 1 ≤ L from l1) en
        exact ⟨by show p < x.2; omega, c⟩
  · rw [if_neg a] at h
    cases h
theorem sCon_b {T : Nat → Int32} {L p : Nat} {F : Nat → Int32} {y : Nat × (Nat → Int32)} (hp : p ≤ L) (h : sCon T L p F = some y) : p < y.1 ∧ y.1 ≤ L := by
  have lp := (skp_b (T := T) _ p rfl hp).1
  unfold sCon at h
  by_cases a : sg T L p = 43
  · rw [if_pos a] at h
    have l1 : skp T L p + 1 ≤ L := sg_lt (T := T) (by rw [a]; decide)
    have b := tkD_b (T := T) (m := 6) l1
    by_cases c : (tkD T L 6 (skp T L p + 1)).1 = -1
    · rw [if_pos c] at h
      cases h
    · rw [if_neg c] at h
      cases h
      exact ⟨by show p < (tkD T L 6 (skp T L p + 1)).2; omega, b.1⟩
  · rw [if_neg a] at h
    by_cases a2 : sg T L p = 45
    · rw [if_pos a2] at h
      have l1 : skp T L p + 1 ≤ L := sg_lt (T := T) (by rw [a2]; decide)
      have b := tkD_b (T := T) (m := 6) l1
      by_cases c : (tkD T L 6 (skp T L p + 1)).1 = -1
      · rw [if_pos c] at h
        cases h
      · rw [if_neg c] at h
        cases h
        exact ⟨by show p < (tkD T L 6 (skp T L p + 1)).2; omega, b.1⟩
    · rw [if_neg a2] at h
      exact sLim_b h
theorem GR.good {T : Nat → Int32} {L A AS AN : Nat} {h : List zC} {a bd : Int32} {r : Option (Nat × (Nat → Int32))} (g : GR T L A AS AN h a bd r) (hb : bd = 0) : ∃ (p : Nat) (F : Nat → Int32), r = some (p, F) ∧ p ≤ L ∧ a = Int32.ofNat p ∧ AZ A AS AN h F := by
  rcases g with ⟨g1, -⟩ | ⟨-, g2⟩
  · rw [hb] at g1
    exact absurd g1 (by decide)
  · exact g2
theorem GR.bad {T : Nat → Int32} {L A AS AN : Nat} {h : List zC} {a bd : Int32} {r : Option (Nat × (Nat → Int32))} (g : GR T L A AS AN h a bd r) (hb : ¬ bd = 0) : r = none := by
  rcases g with ⟨-, g1⟩ | ⟨g2, -⟩
  · exact g1
  · exact absurd g2 hb
/-- what read leaves and answers -/
def RP (T : Nat → Int32) (L s b A AS AN : Nat) (h h2 : List zC) (r : Option (Nat × (Nat → Int32))) (o : Sum (Option Value) Nat) : Prop := FA A AS AN h h2 ∧ o = .inl (some (.ref A)) ∧ ∃ a2 bd2 : Int32, MB T L s b h2 a2 bd2 ∧ GR T L A AS AN h2 a2 bd2 r
theorem RP.pre {T : Nat → Int32} {L s b A AS AN : Nat} {h h1 h2 : List zC} {r : Option (Nat × (Nat → Int32))} {o : Sum (Option Value) Nat} (q : RP T L s b A AS AN h1 h2 r o) (f : FA A AS AN h h1) : RP T L s b A AS AN h h2 r o := ⟨f.trans q.1, q.2⟩
theorem MB.hT {T : Nat → Int32} {L s b : Nat} {h : List zC} {a bd : Int32} (d : MB T L s b h a bd) : ∀ i, i < L → rI 32 126 (T i) := fun i hi => (d.sb.2.2.2.2.1 i hi).2
/-! ===== values: what the class and the reference read is the same ===== -/
theorem rI_ne {x c : Int32} (h : rI 48 57 x) (hc : ¬ rI 48 57 c) : ¬ x = c := fun e => hc (by rw [← e]; exact h)
theorem sg_at {T : Nat → Int32} {L p : Nat} (h1 : p < L) (h2 : ¬ T p = 32) : sg T L p = T p ∧ skp T L p = p := by
  have e : skp T L p = p := skp_n (fun z => h2 z.2)
  unfold sg
  rw [e, if_pos h1]
  exact ⟨rfl, rfl⟩
theorem z10 : (10 : Int32).toInt = 10 := rfl
theorem ten {x t : Int32} (hx : 0 ≤ x.toInt ∧ x.toInt ≤ 99) (ht : rI 48 57 t) : 10 * x + t - 48 = x * 10 + (t - 48) ∧ (x * 10 + (t - 48)).toInt = x.toInt * 10 + (t.toInt - 48) := by
  obtain ⟨h1, h2⟩ := hx
  have h3 := d48 ht
  obtain ⟨h4, h5⟩ := ht
  rw [z48] at h4
  rw [z57] at h5
  constructor
  · rw [Int32.mul_comm, Int32.sub_eq_add_neg, Int32.sub_eq_add_neg, Int32.add_assoc]
  · have m : (x * 10).toInt = x.toInt * 10 := by
      rw [Int32.toInt_mul, z10]
      exact Int.bmod_eq_of_le (by omega) (by omega)
    rw [Int32.toInt_add, m, h3]
    exact Int.bmod_eq_of_le (by omega) (by omega)
theorem nn1 {x : Int32} (h : 0 ≤ x.toInt) : ¬ x = -1 := fun e => by
  rw [e] at h
  exact absurd h (by decide)
def mx3 : Nat → Int
  | 0 => 999
  | 1 => 99
  | _ => 9
/-- a number's digits, on both sides -/
theorem num_go {T : Nat → Int32} {L : Nat} : ∀ (n : Nat) (x : Int32) (p : Nat), n ≤ 2 → p ≤ L → 0 ≤ x.toInt → x.toInt ≤ mx3 n →
    (¬ (nlF T L (n + 1) x p).2.2 = 0 ∧ nuF T L n (x, p) = ((nlF T L (n + 1) x p).1, (nlF T L (n + 1) x p).2.1) ∧ 0 ≤ (nlF T L (n + 1) x p).1.toInt ∧ (nlF T L (n + 1) x p).1.toInt ≤ 999) ∨ ((nlF T L (n + 1) x p).2.2 = 0 ∧ (nuF T L n (x, p)).2 ≤ L ∧ rI 48 57 (sg T L (nuF T L n (x, p)).2))
  | 0, x, p, _, hp, h0, hm => by
    have hm : x.toInt ≤ 999 := hm
    by_cases z : p < L ∧ rI 48 57 (T p)
    · right
      rw [nlF_y z]
      refine ⟨rfl, hp, ?_⟩
      show rI 48 57 (sg T L p)
      rw [(sg_at z.1 (rI_ne z.2 (by decide))).1]
      exact z.2
    · left
      rw [nlF_n z]
      exact ⟨by simp, rfl, h0, hm⟩
  | n + 1, x, p, hn, hp, h0, hm => by
    have h99 : x.toInt ≤ 99 := by
      match n, hn, hm with
      | 0, _, hm => exact hm
      | 1, _, hm =>
        have hm : x.toInt ≤ 9 := hm
        omega
    by_cases z : p < L ∧ rI 48 57 (T p)
    · obtain ⟨e1, e2⟩ := ten ⟨h0, h99⟩ z.2
      have n32 : ¬ T p = 32 := rI_ne z.2 (by decide)
      obtain ⟨s1, s2⟩ := sg_at z.1 n32
      have lt : sg T L p - 48 < 10 := by
        rw [i32_lt, s1, d48 z.2, z10]
        have := z.2.2
        rw [z57] at this
        omega
      obtain ⟨t1, t2⟩ := tkD_ok (T := T) (L := L) (p := p) (m := 10) (by decide) (by rw [s1]; exact z.2) lt
      rw [s1, s2] at t1
      rw [s1] at t2
      have st : nuF T L (n + 1) (x, p) = nuF T L n (x * 10 + (T p - 48), p + 1) := by
        rw [nuF_y (x := (x, p)) (fun w => by
          rcases w with w | w | w
          · exact nn1 h0 w
          · exact absurd w (by show ¬ L ≤ p; omega)
          · exact n32 w) (by show ¬ (tkD T L 10 p).1 = -1; rw [t1]; exact t2)]
        show nuF T L n (x * 10 + (tkD T L 10 p).1, (tkD T L 10 p).2) = _
        rw [t1]
      rw [nlF_y z, e1, st]
      have g1 := z.2.1
      have g2 := z.2.2
      rw [z48] at g1
      rw [z57] at g2
      refine num_go n _ (p + 1) (by omega) (by omega) (by rw [e2]; omega) ?_
      rw [e2]
      match n, hn, hm with
      | 0, _, hm =>
        have hm : x.toInt ≤ 99 := hm
        show _ ≤ (999 : Int)
        omega
      | 1, _, hm =>
        have hm : x.toInt ≤ 9 := hm
        show _ ≤ (99 : Int)
        omega
    · left
      rw [nlF_n z]
      refine ⟨by simp, ?_, h0, by show x.toInt ≤ 999; omega⟩
      by_cases a : L ≤ p
      · exact nuF_s (x := (x, p)) (Or.inr (Or.inl a))
      · by_cases b : T p = 32
        · exact nuF_s (x := (x, p)) (Or.inr (Or.inr b))
        · obtain ⟨s1, s2⟩ := sg_at (T := T) (show p < L by omega) b
          have nd := tkD_nd (T := T) (L := L) (p := p) (m := 10) (by decide) (by rw [s1]; exact fun w => z ⟨by omega, w⟩)
          rw [s2] at nd
          rw [nuF_n (x := (x, p)) (fun w => by
            rcases w with w | w | w
            · exact nn1 h0 w
            · exact a w
            · exact b w) (by show (tkD T L 10 p).1 = -1; rw [nd])]
          show (x, (tkD T L 10 p).2) = _
          rw [nd]
/-- a number, on both sides -/
theorem num_cmp {T : Nat → Int32} {L p : Nat} (most : Int32) (hp : p ≤ L) : (nuS T L p = none ∧ (tkN T L most p).2 ≤ L ∧ ((tkN T L most p).1 = -1 ∨ rI 48 57 (sg T L (tkN T L most p).2))) ∨ ∃ (x : Int32) (q : Nat), nuS T L p = some (x, q) ∧ q ≤ L ∧ 0 ≤ x.toInt ∧ x.toInt ≤ 999 ∧ tkN T L most p = (if most < x then -1 else x, q) := by
  obtain ⟨a, b, c⟩ := skp_b (T := T) (L := L) _ p rfl hp
  have bb := (tkN_b (T := T) (m := most) hp).1
  by_cases z : rI 48 57 (sg T L p)
  · have lt : sg T L p - 48 < 10 := by
      rw [i32_lt, d48 z, z10]
      have := z.2
      rw [z57] at this
      omega
    obtain ⟨t1, t2⟩ := tkD_ok (T := T) (m := 10) (by decide) z lt
    have l1 : skp T L p < L := sg_lt (T := T) (fun w => absurd z (by rw [w]; decide))
    have et : sg T L p = T (skp T L p) := by
      unfold sg
      rw [if_pos l1]
    have g0 := d48 z
    have g1 := z.1
    have g2 := z.2
    rw [z48] at g1
    rw [z57] at g2
    have first : nlF T L 4 0 (skp T L p) = nlF T L 3 (sg T L p - 48) (skp T L p + 1) := by
      rw [nlF_y ⟨l1, by rw [← et]; exact z⟩, ← et]
      congr 1
      rw [show (10 : Int32) * 0 = 0 by decide, Int32.zero_add]
    have key := num_go (T := T) (L := L) 2 (sg T L p - 48) (skp T L p + 1) (Nat.le_refl _) l1 (by rw [g0]; omega) (by show _ ≤ (9 : Int); rw [g0]; omega)
    rw [← first, ← t1] at key
    have en : nuS T L p = if (nlF T L 4 0 (skp T L p)).2.2 = 0 then none else some ((nlF T L 4 0 (skp T L p)).1, (nlF T L 4 0 (skp T L p)).2.1) := by
      unfold nuS
      rw [if_pos z]
    rcases key with ⟨k1, k2, k3, k4⟩ | ⟨k1, k2, k3⟩
    · right
      refine ⟨_, _, by rw [en, if_neg k1], ?_, k3, k4, ?_⟩
      · exact (nlF_b 4 0 _ b).1
      · unfold tkN
        rw [k2]
    · left
      exact ⟨by rw [en, if_pos k1], bb, Or.inr k3⟩
  · left
    refine ⟨?_, bb, Or.inl ?_⟩
    · unfold nuS
      rw [if_neg z]
    · have nd := tkD_nd (T := T) (L := L) (p := p) (m := 10) (by decide) z
      unfold tkN
      rw [nd, nuF_s (x := (-1, skp T L p)) (Or.inl rfl)]
      show (if most < -1 then (-1 : Int32) else -1) = -1
      by_cases w : most < -1
      · rw [if_pos w]
      · rw [if_neg w]
theorem nb_lt {nb x : Int32} (h : 0 ≤ nb.toInt) : (nb - 1 < x) ↔ nb ≤ x := by
  rw [i32_lt, i32_le, cnt1 h]
  constructor <;> intro h <;> omega
theorem sg_dig {T : Nat → Int32} {L p : Nat} {c : Int32} (h : rI 48 57 (sg T L p)) (hc : ¬ rI 48 57 c) : (tkS T L c p) = (0, skp T L p) := by
  unfold tkS
  rw [if_neg (rI_ne h hc)]
section rds
variable {T : Nat → Int32} {L p : Nat} {nb : Int32} {F : Nat → Int32}
/-- behind a digit that nothing takes -/
theorem doom_end {y : Nat × (Nat → Int32)} (h : rI 48 57 (sg T L y.1)) : xEnd T L y = none := by
  unfold xEnd
  rw [if_neg (rI_ne h (by decide))]
theorem doom_exc (hp : p ≤ L) (h : rI 48 57 (sg T L p)) : (pExc T L nb p F).bind (xEnd T L) = none := by
  have e := sg_dig (c := 120) h (by decide)
  unfold pExc
  rw [if_pos (by rw [e]), e]
  exact doom_end (y := (skp T L p, F)) (by show rI 48 57 (sg T L (skp T L p)); rw [sg_skp hp]; exact h)
theorem exc_eq (hp : p ≤ L) (hb : 0 ≤ nb.toInt) : (pExc T L nb p F).bind (xEnd T L) = rd3 T L nb (p, F) := by
  have tb := (tkS_b (T := T) (c := 120) hp (by decide)).1
  unfold rd3 pExc sExc
  dsimp only
  by_cases z : (tkS T L 120 p).1 = 0
  · rw [if_pos z, if_pos z]
  · rw [if_neg z, if_neg z]
    rcases num_cmp (T := T) (nb - 1) tb with ⟨n1, n2, n3⟩ | ⟨x, q, n1, n2, n3, n4, n5⟩
    · rw [n1]
      show _ = none
      by_cases w : (tkN T L (nb - 1) (tkS T L 120 p).2).1 = -1
      · rw [if_pos w]
        rfl
      · rw [if_neg w]
        exact doom_end (y := ((tkN T L (nb - 1) (tkS T L 120 p).2).2, _)) (n3.resolve_left w)
    · rw [n1, n5]
      dsimp only
      by_cases w : nb ≤ x
      · rw [if_pos ((nb_lt hb).mpr w), if_pos rfl, if_pos w]
      · rw [if_neg (fun y => w ((nb_lt hb).mp y)), if_neg (nn1 n3), if_neg w]
theorem out_eq (hp : p ≤ L) (hb : 0 ≤ nb.toInt) : (pOut T L nb p F).bind (fun d => (pExc T L nb d.1 d.2).bind (xEnd T L)) = rd2b T L nb (p, F) := by
  have t1 := (tkS_b (T := T) (c := 37) hp (by decide)).1
  have t2 := (tkS_b (T := T) (c := 64) t1 (by decide)).1
  unfold rd2b pOut sOut
  dsimp only
  by_cases z : (tkS T L 37 p).1 = 0
  · rw [if_pos z, if_pos z]
    by_cases w : (tkS T L 64 (tkS T L 37 p).2).1 = 0
    · rw [if_pos w, if_pos w]
      rcases num_cmp (T := T) 100 t2 with ⟨n1, n2, n3⟩ | ⟨x, q, n1, n2, n3, n4, n5⟩
      · rw [n1]
        show _ = none
        by_cases y : (tkN T L 100 (tkS T L 64 (tkS T L 37 p).2).2).1 = -1
        · rw [if_pos y]
          rfl
        · rw [if_neg y]
          exact doom_exc n2 (n3.resolve_left y)
      · rw [n1, n5]
        dsimp only
        by_cases y : 100 < x
        · rw [if_pos y, if_pos rfl, if_pos y]
          rfl
        · rw [if_neg y, if_neg (nn1 n3), if_neg y]
          exact exc_eq n2 hb
    · rw [if_neg w, if_neg w]
      rcases num_cmp (T := T) (nb - 1) t2 with ⟨n1, n2, n3⟩ | ⟨x, q, n1, n2, n3, n4, n5⟩
      · rw [n1]
        show _ = none
        by_cases y : (tkN T L (nb - 1) (tkS T L 64 (tkS T L 37 p).2).2).1 = -1
        · rw [if_pos y]
          rfl
        · rw [if_neg y]
          exact doom_exc n2 (n3.resolve_left y)
      · rw [n1, n5]
        dsimp only
        by_cases y : nb ≤ x
        · rw [if_pos ((nb_lt hb).mpr y), if_pos rfl, if_pos y]
          rfl
        · rw [if_neg (fun w => y ((nb_lt hb).mp w)), if_neg (nn1 n3), if_neg y]
          exact exc_eq n2 hb
  · rw [if_neg z, if_neg z]
    exact exc_eq t1 hb
def f8 (F : Nat → Int32) : Prop := F 8 = 0 ∨ F 8 = 1 ∨ F 8 = 2
theorem f8.upF {k : Nat} {x : Int32} (h : f8 F) (hk : ¬ 8 = k) : f8 (upF F k x) := by
  unfold f8
  rw [upF_ne hk]
  exact h
theorem f8.ad {s x : Int32} (h : f8 F) (h2 : ¬ F 8 = 2) : f8 (adF F s x) := by
  have a : f8 (adL F s x) := by
    unfold f8 adL
    rw [upF_eq]
    rcases h with z | z | z
    · rw [z]; decide
    · rw [z]; decide
    · exact absurd z h2
  unfold adF
  by_cases z : s = 60
  · rw [if_pos z]
    exact a.upF (by decide)
  · rw [if_neg z]
    exact a.upF (by decide)
theorem le2 (h : f8 F) : (2 ≤ F 8) ↔ F 8 = 2 := by
  rcases h with z | z | z <;> rw [z] <;> decide
theorem lim_eq (hp : p ≤ L) (h : f8 F) (hs : sg T L p = 60 ∨ sg T L p = 62) : pCon T L p F = sLim T L p F ∨ (sLim T L p F = none ∧ ∃ y, pCon T L p F = some y ∧ y.1 ≤ L ∧ rI 48 57 (sg T L y.1)) := by
  have l1 : skp T L p + 1 ≤ L := sg_lt (T := T) (by
    rcases hs with z | z
    · rw [z]
      decide
    · rw [z]
      decide)
  have n1 : ¬ (sg T L p = 43 ∨ sg T L p = 45) := by
    rcases hs with z | z <;> rw [z] <;> decide
  unfold pCon sLim
  rw [if_neg n1, if_pos hs, if_pos hs]
  by_cases b : F 8 = 2
  · left
    rw [if_pos b, if_pos ((le2 h).mpr b)]
    by_cases c : (tkN T L 999 (skp T L p + 1)).1 = -1
    · rw [if_pos c]
    · rw [if_neg c]
  · rw [if_neg b, if_neg (fun z => b ((le2 h).mp z))]
    rcases num_cmp (T := T) 999 l1 with ⟨n1, n2, n3⟩ | ⟨x, q, n1, n2, n3, n4, n5⟩
    · by_cases c : (tkN T L 999 (skp T L p + 1)).1 = -1
      · left
        rw [if_pos c, n1]
      · right
        rw [if_neg c, n1]
        exact ⟨rfl, _, rfl, n2, n3.resolve_left c⟩
    · left
      have ng : ¬ (999 : Int32) < x := by
        rw [i32_lt]
        have : (999 : Int32).toInt = 999 := rfl
        omega
      rw [n1, n5]
      dsimp only
      rw [if_neg ng, if_neg (nn1 n3)]
theorem con_eq (hp : p ≤ L) (h : f8 F) : pCon T L p F = sCon T L p F ∨ (sCon T L p F = none ∧ ∃ y, pCon T L p F = some y ∧ y.1 ≤ L ∧ rI 48 57 (sg T L y.1)) := by
  by_cases a : sg T L p = 43
  · left
    have e1 : pCon T L p F = if (tkD T L 6 (skp T L p + 1)).1 = -1 then none else some ((tkD T L 6 (skp T L p + 1)).2, upF F 2 (F 2 ||| (1 <<< ((tkD T L 6 (skp T L p + 1)).1 &&& 31)))) := by
      unfold pCon
      rw [if_pos (Or.inl a), if_pos a]
    have e2 : sCon T L p F = if (tkD T L 6 (skp T L p + 1)).1 = -1 then none else some ((tkD T L 6 (skp T L p + 1)).2, upF F 2 (F 2 ||| (1 <<< ((tkD T L 6 (skp T L p + 1)).1 &&& 31)))) := by
      unfold sCon
      rw [if_pos a]
    rw [e1, e2]
  · by_cases a2 : sg T L p = 45
    · left
      have e1 : pCon T L p F = if (tkD T L 6 (skp T L p + 1)).1 = -1 then none else some ((tkD T L 6 (skp T L p + 1)).2, upF F 3 (F 3 ||| (1 <<< ((tkD T L 6 (skp T L p + 1)).1 &&& 31)))) := by
        unfold pCon
        rw [if_pos (Or.inr a2), if_neg a]
      have e2 : sCon T L p F = if (tkD T L 6 (skp T L p + 1)).1 = -1 then none else some ((tkD T L 6 (skp T L p + 1)).2, upF F 3 (F 3 ||| (1 <<< ((tkD T L 6 (skp T L p + 1)).1 &&& 31)))) := by
        unfold sCon
        rw [if_neg a, if_pos a2]
      rw [e1, e2]
    · have es : sCon T L p F = sLim T L p F := by
        unfold sCon
        rw [if_neg a, if_neg a2]
      rw [es]
      by_cases hs : sg T L p = 60 ∨ sg T L p = 62
      · exact lim_eq hp h hs
      · left
        unfold pCon sLim
        rw [if_neg (fun z => by rcases z with z | z; exact a z; exact a2 z), if_neg hs, if_neg hs]
theorem con_8 {y : Nat × (Nat → Int32)} (h : f8 F) (e : sCon T L p F = some y) : f8 y.2 := by
  unfold sCon at e
  by_cases a : sg T L p = 43
  · rw [if_pos a] at e
    by_cases c : (tkD T L 6 (skp T L p + 1)).1 = -1
    · rw [if_pos c] at e
      cases e
    · rw [if_neg c] at e
      cases e
      exact h.upF (by decide)
  · rw [if_neg a] at e
    by_cases a2 : sg T L p = 45
    · rw [if_pos a2] at e
      by_cases c : (tkD T L 6 (skp T L p + 1)).1 = -1
      · rw [if_pos c] at e
        cases e
      · rw [if_neg c] at e
        cases e
        exact h.upF (by decide)
    · rw [if_neg a2] at e
      unfold sLim at e
      by_cases hs : sg T L p = 60 ∨ sg T L p = 62
      · rw [if_pos hs] at e
        by_cases b : F 8 = 2
        · rw [if_pos b] at e
          cases e
        · rw [if_neg b] at e
          cases en : nuS T L (skp T L p + 1) with
          | none => rw [en] at e; cases e
          | some x =>
            rw [en] at e
            cases e
            exact h.ad b
      · rw [if_neg hs] at e
        cases e
theorem doom_con {n : Nat} (hp : p ≤ L) (h : rI 48 57 (sg T L p)) : coF T L n p F = none := by
  cases n with
  | zero => rfl
  | succ n =>
    have e := sg_dig (c := 61) h (by decide)
    have s : sg T L (skp T L p) = sg T L p := sg_skp hp
    refine coF_n (by rw [e]) ?_
    rw [e]
    unfold pCon
    rw [s, if_neg (fun z => by rcases z with z | z; exact rI_ne h (by decide) z; exact rI_ne h (by decide) z), if_neg (fun z => by rcases z with z | z; exact rI_ne h (by decide) z; exact rI_ne h (by decide) z)]
end rds
theorem scF_skp {T : Nat → Int32} {L p m : Nat} {F : Nat → Int32} (hp : p ≤ L) : scF T L (m + 1) (skp T L p, F) = scF T L (m + 1) (p, F) := by
  unfold scF
  dsimp only
  rw [sg_skp hp, skp_skp hp]
theorem con_go {T : Nat → Int32} {L : Nat} {G H : Nat × (Nat → Int32) → Option (Nat × (Nat → Int32))} (hg : ∀ (p : Nat) (F : Nat → Int32), p ≤ L → G (p, F) = H (p, F)) : ∀ (n m p : Nat) (F : Nat → Int32), p ≤ L → f8 F → L - p < n → L - p < m → (coF T L n p F).bind G = (scF T L m (p, F)).bind (fun y => (xEq T L y).bind H)
  | 0, _, _, _, _, _, h, _ => absurd h (Nat.not_lt_zero _)
  | _ + 1, 0, _, _, _, _, _, h => absurd h (Nat.not_lt_zero _)
  | n + 1, m + 1, p, F, hp, h8, hn, hm => by
    have sl := skp_b (T := T) (L := L) _ p rfl hp
    by_cases z : sg T L p = 61
    · have e1 : tkS T L 61 p = (1, skp T L p + 1) := by
        unfold tkS
        rw [if_pos z]
      have e2 : tkS T L 61 (skp T L p) = (1, skp T L p + 1) := by
        unfold tkS
        rw [sg_skp hp, skp_skp hp, if_pos z]
      rw [coF_e (by rw [e1]; show ¬ (1 : Int32) = 0; decide), scF_y (y := (p, F)) z, e1]
      show G (skp T L p + 1, F) = (xEq T L (skp T L p, F)).bind H
      unfold xEq
      dsimp only
      rw [e2]
      show G (skp T L p + 1, F) = (if (1 : Int32) = 0 then none else some (skp T L p + 1, F)).bind H
      rw [if_neg (by decide)]
      exact hg _ _ (sg_lt (T := T) (by rw [z]; decide))
    · have e1 : tkS T L 61 p = (0, skp T L p) := by
        unfold tkS
        rw [if_neg z]
      rw [scF_n (y := (p, F)) z]
      dsimp only
      rcases con_eq (T := T) sl.2.1 h8 with c | ⟨c1, y, c2, c3, c4⟩
      · cases en : sCon T L (skp T L p) F with
        | none =>
          rw [coF_n (by rw [e1]) (by rw [e1]; exact c.trans en)]
          rfl
        | some y =>
          rw [coF_y (by rw [e1]) (by rw [e1]; exact c.trans en)]
          have b := sCon_b sl.2.1 en
          exact con_go hg n m y.1 y.2 b.2 (con_8 h8 en) (by omega) (by omega)
      · rw [coF_y (by rw [e1]) (by rw [e1]; exact c2), c1, doom_con c3 c4]
        rfl
theorem tkD4 {T : Nat → Int32} {L p : Nat} (h : ¬ (tkD T L 4 p).1 = -1) : rI 48 57 (sg T L p) ∧ (tkD T L 4 p).1 = sg T L p - 48 ∧ 0 ≤ (tkD T L 4 p).1.toInt ∧ (tkD T L 4 p).1.toInt ≤ 3 := by
  unfold tkD at h ⊢
  by_cases z : sg T L p < 48 ∨ 48 + 4 ≤ sg T L p
  · rw [if_pos z] at h
    exact absurd rfl h
  · rw [if_neg z]
    have a : ¬ sg T L p < 48 := fun w => z (Or.inl w)
    have b : ¬ 48 + 4 ≤ sg T L p := fun w => z (Or.inr w)
    have e52 : (48 + 4 : Int32).toInt = 52 := by decide
    rw [i32_lt, z48] at a
    rw [i32_le, e52] at b
    have r : rI 48 57 (sg T L p) := ⟨by rw [z48]; omega, by rw [z57]; omega⟩
    refine ⟨r, rfl, ?_, ?_⟩
    · show 0 ≤ (sg T L p - 48).toInt
      rw [d48 r]
      omega
    · show (sg T L p - 48).toInt ≤ 3
      rw [d48 r]
      omega
theorem cls_go {T : Nat → Int32} {L : Nat} {G H : Nat × (Nat → Int32) → Option (Nat × (Nat → Int32))} (hd : ∀ (p : Nat) (F : Nat → Int32), p ≤ L → rI 48 57 (sg T L p) → G (p, F) = none) (hg : ∀ (p : Nat) (F : Nat → Int32), 1 ≤ p → p ≤ L → f8 F → ¬ rI 48 57 (sg T L p) → G (p, F) = H (skp T L p, F)) : ∀ (n m : Nat) (last : Int32) (p : Nat) (F : Nat → Int32), 1 ≤ p → p ≤ L → f8 F → -1 ≤ last.toInt → (3 : Int) - n ≤ last.toInt → L - p < m → (clF T L n last p F).bind G = (slF T L m last (p, F)).bind H
  | _, 0, _, _, _, _, _, _, _, _, h => absurd h (Nat.not_lt_zero _)
  | 0, m + 1, last, p, F, h1, hp, h8, hl, hk, hm => by
    have nl : ¬ last = -1 := nn1 (by omega)
    rw [clF_0, if_neg nl]
    show G (p, F) = _
    by_cases z : rI 48 57 (sg T L p)
    · rw [hd p F hp z, slF_b (y := (p, F)) (Or.inl z) ?_]
      · rfl
      · by_cases w : (tkD T L 4 p).1 = -1
        · exact Or.inl w
        · right
          rw [i32_le]
          have := (tkD4 w).2.2.2
          show (tkD T L 4 p).1.toInt ≤ _
          omega
    · rw [hg p F h1 hp h8 z, slF_e (y := (p, F)) (fun w => by
        rcases w with w | w
        · exact z w
        · exact nl w)]
      rfl
  | n + 1, m + 1, last, p, F, h1, hp, h8, hl, hk, hm => by
    have sl := skp_b (T := T) (L := L) _ p rfl hp
    by_cases w : (tkD T L 4 p).1 = -1
    · have e2 : (tkD T L 4 p).2 = skp T L p := by
        unfold tkD at w ⊢
        by_cases y : sg T L p < 48 ∨ 48 + 4 ≤ sg T L p
        · rw [if_pos y]
        · rw [if_neg y] at w
          exfalso
          have a : ¬ sg T L p < 48 := fun z => y (Or.inl z)
          have b : ¬ 48 + 4 ≤ sg T L p := fun z => y (Or.inr z)
          have e52 : (48 + 4 : Int32).toInt = 52 := by decide
          rw [i32_lt, z48] at a
          rw [i32_le, e52] at b
          have r : rI 48 57 (sg T L p) := ⟨by rw [z48]; omega, by rw [z57]; omega⟩
          refine nn1 (x := sg T L p - 48) ?_ w
          rw [d48 r]
          omega
      rw [clF_b w, e2]
      by_cases l : last = -1
      · rw [if_pos l, slF_b (y := (p, F)) (Or.inr l) (Or.inl w)]
        rfl
      · rw [if_neg l]
        show G (skp T L p, F) = _
        by_cases z : rI 48 57 (sg T L p)
        · rw [slF_b (y := (p, F)) (Or.inl z) (Or.inl w), hd _ _ sl.2.1 (by rw [sg_skp hp]; exact z)]
          rfl
        · rw [slF_e (y := (p, F)) (fun w => by
            rcases w with w | w
            · exact z w
            · exact l w), hg _ _ (Nat.le_trans h1 sl.1) sl.2.1 h8 (by rw [sg_skp hp]; exact z), skp_skp hp]
          rfl
    · obtain ⟨r1, r2, r3, r4⟩ := tkD4 w
      by_cases l : (tkD T L 4 p).1 ≤ last
      · rw [clF_l w l, slF_b (y := (p, F)) (Or.inl r1) (Or.inr l)]
        rfl
      · have l2 := l
        rw [i32_le] at l2
        have ad := tkD_adv hp w
        have b := (tkD_b (T := T) (m := 4) hp).1
        rw [clF_y w l, slF_y (y := (p, F)) (Or.inl r1) w l]
        exact cls_go hd hg n m _ _ _ (by omega) b (h8.upF (by decide)) (by omega) (by omega) (by omega)
/-- the same is read -/
theorem read_eq {T : Nat → Int32} {L : Nat} {nb : Int32} {F : Nat → Int32} (hL : L ≤ 60) (hb : 0 ≤ nb.toInt) (h8 : f8 F) : pRead T L nb F = rd0 T L nb F := by
  unfold pRead rd0
  rw [Option.bind_assoc]
  cases en : pMat T L 0 F with
  | none => rfl
  | some a =>
    show (pCls T L a.1 a.2).bind _ = (sCh T L a).bind (rdk T L nb 61 (-1))
    have ab : a.1 ≤ L ∧ f8 a.2 := by
      unfold pMat at en
      by_cases x : (tkS T L 109 0).1 = 0
      · rw [if_pos x] at en
        cases en
      · rw [if_neg x] at en
        by_cases y : (tkD T L 4 (tkS T L 109 0).2).1 = -1
        · rw [if_pos y] at en
          cases en
        · rw [if_neg y] at en
          cases en
          exact ⟨(tkD_b (T := T) (m := 4) (tkS_b (T := T) (c := 109) (Nat.zero_le L) (by decide)).1).1, h8.upF (by decide)⟩
    have tb := (tkS_b (T := T) (c := 99) ab.1 (by decide)).1
    unfold pCls sCh
    by_cases z : (tkS T L 99 a.1).1 = 0
    · rw [if_pos z, if_pos z]
      rfl
    · rw [if_neg z, if_neg z]
      show _ = rdk T L nb 61 (-1) ((tkS T L 99 a.1).2, a.2)
      unfold rdk
      have e1 := (tkS_y (T := T) (c := 99) z).2
      have p1 : 1 ≤ (tkS T L 99 a.1).2 := by
        rw [e1]
        show 1 ≤ skp T L a.1 + 1
        omega
      refine cls_go (G := fun b => (coF T L 60 b.1 b.2).bind (fun c => (pOut T L nb c.1 c.2).bind (fun d => (pExc T L nb d.1 d.2).bind (xEnd T L)))) (H := rdc T L nb 61) (fun p F hp hd => ?_) (fun p F h1 hp h8 _ => ?_) 4 61 (-1) _ a.2 p1 tb ab.2 (by decide) (by decide) (by omega)
      · show (coF T L 60 p F).bind _ = none
        rw [doom_con hp hd]
        rfl
      · show (coF T L 60 p F).bind _ = (scF T L 61 (skp T L p, F)).bind (rd2 T L nb)
        rw [con_go (H := rd2b T L nb) (fun p F hp => out_eq hp hb) 60 61 p F hp h8 (by omega) (by omega), scF_skp (m := 60) hp]
        rfl

/-! ===== values: a text taken ===== -/
/-- a clause's numbers before a text is read into it -/
def Fz : Nat → Int32 := fun k => if k = 5 then 999 else if k = 7 then -1 else 0
theorem two_k {k : Nat} (hk : k < 2) : k = 0 ∨ k = 1 := by omega
theorem zDef15 : ∀ k, k < 12 → ¬ (k = 4 ∨ k = 5) → (zDef 15)[k]? = some (.int 0) := by decide +kernel
theorem zDef4 : ∀ k, k < 9 → (zDef 4)[k]? = some (.int 0) := by decide +kernel
theorem MB.start {T : Nat → Int32} {L s b : Nat} {h h1 h2 : List zC} {bd : Int32} (hS : Stc h) (sb : SB T L s b h) (e1 : gF h 213 10 = some (.ref s)) (e2 : gF h 213 17 = some (.int bd)) (e3 : bd = 0 ∨ bd = 1) (hl : h.length ≤ h1.length) (fr : ∀ x k, x < h.length → gF h1 x k = gF h x k) (fn : ∀ x, x < h.length → gN h1 x = gN h x) (g : hPut h1 h2 213 16 (.int 0)) : MB T L s b h2 0 bd := by
  have h0 := hS.1
  have key : ∀ x k, x < h.length → ¬ x = 213 → gF h2 x k = gF h x k := fun x k hx n => by
    rw [g.2.1, if_neg (fun w => n w.1), fr x k hx]
  obtain ⟨d1, d2, d3, d4, d5, d6, d7⟩ := sb
  have ls := gF_lt d1
  have lb := gN_lt d3
  refine ⟨⟨by rw [g.1]; omega, fun e he => ?_⟩, ⟨by rw [key s 0 ls d6]; exact d1, by rw [key s 1 ls d6]; exact d2, by rw [g.2.2.2, fn b lb]; exact d3, d4, fun i hi => ⟨by rw [key b i lb d7]; exact (d5 i hi).1, (d5 i hi).2⟩, d6, d7⟩, ?_, ?_, ?_, e3⟩
  · have q := List.all_eq_true.mp (show stL.all (fun e => !(e.1 == 213 && e.2.1 == 16)) = true by decide +kernel) e he
    have le := gF_lt (hS.2 e he)
    rw [g.2.1, if_neg (fun z => by simp [z.1, z.2] at q), fr _ _ le]
    exact hS.2 e he
  · rw [g.2.1, if_neg (by omega), fr _ _ (by omega)]
    exact e1
  · rw [g.2.1, if_pos ⟨rfl, rfl⟩]
  · rw [g.2.1, if_neg (by omega), fr _ _ (by omega)]
    exact e2
theorem st_71_0 {h : List zC} (hS : Stc h) : gF h 71 0 = some (.ref 72) := hS.2 (71, 0, 72) (by decide +kernel)
theorem st_16_12 {h : List zC} (hS : Stc h) : gF h 16 12 = some (.ref 183) := hS.2 (16, 12, 183) (by decide +kernel)
theorem st_16_10 {h : List zC} (hS : Stc h) : gF h 16 10 = some (.ref 71) := hS.2 (16, 10, 71) (by decide +kernel)
theorem st_art {h : List zC} (hS : Stc h) {i : Nat} (hi : i < 24) : gF h 72 i = some (.ref (73 + 4 * i)) := hS.2 (72, i, 73 + 4 * i) (by
  have : ∀ i, i < 24 → (72, i, 73 + 4 * i) ∈ stL := by decide +kernel
  exact this i hi)
theorem lt24 {x c : Int32} (hx : ¬ x < 0) (h : x < c) (hc : c.toInt ≤ 24) : x.toNatClampNeg < 24 := by
  have z0 : (0 : Int32).toInt = 0 := rfl
  rw [i32_lt] at hx h
  show x.toInt.toNat < 24
  omega
/-- what sortOut leaves -/
def FS (h h2 : List zC) : Prop := h2.length = h.length ∧ (∀ x k, ¬ (x = 71 ∧ (k = 3 ∨ k = 4)) → ¬ (73 ≤ x ∧ x < 169 ∧ k = 5) → gF h2 x k = gF h x k) ∧ ∀ x, gT h2 x = gT h x ∧ gN h2 x = gN h x
theorem FS.refl (h : List zC) : FS h h := ⟨rfl, fun _ _ _ _ => rfl, fun _ => ⟨rfl, rfl⟩⟩
theorem FS.trans {h h1 h2 : List zC} (a : FS h h1) (b : FS h1 h2) : FS h h2 := ⟨by rw [b.1, a.1], fun x k n1 n2 => by rw [b.2.1 x k n1 n2, a.2.1 x k n1 n2], fun x => by rw [(b.2.2 x).1, (b.2.2 x).2]; exact a.2.2 x⟩
theorem FS.put {h h2 : List zC} {q k : Nat} {v : Value} (g : hPut h h2 q k v) (hq : (q = 71 ∧ (k = 3 ∨ k = 4)) ∨ (73 ≤ q ∧ q < 169 ∧ k = 5)) : FS h h2 := ⟨g.1, fun x j n1 n2 => by
  rw [g.2.1, if_neg (fun w => ?_)]
  rcases hq with ⟨y1, y2⟩ | ⟨y1, y2, y3⟩
  · exact n1 ⟨w.1.trans y1, by omega⟩
  · exact n2 ⟨by omega, by omega, by omega⟩, fun x => ⟨g.2.2.1 x, g.2.2.2 x⟩⟩
theorem FS.stc {h h2 : List zC} (f : FS h h2) (hS : Stc h) : Stc h2 := ⟨by rw [f.1]; exact hS.1, fun e he => by
  have q := List.all_eq_true.mp (show stL.all (fun e => !(e.1 == 71 && (e.2.1 == 3 || e.2.1 == 4)) && !(decide (73 ≤ e.1 ∧ e.1 < 169) && e.2.1 == 5)) = true by decide +kernel) e he
  obtain ⟨q1, q2⟩ := Bool.and_eq_true_iff.mp q
  rw [f.2.1 _ _ (fun z => by
    rcases z.2 with y | y
    · simp [z.1, y] at q1
    · simp [z.1, y] at q1) (fun z => by
    have a : decide (73 ≤ e.1 ∧ e.1 < 169) = true := decide_eq_true ⟨z.1, z.2.1⟩
    simp [a, z.2.2] at q2)]
  exact hS.2 e he⟩
theorem FrC.stc {C LS LN : Nat} {h h2 : List zC} (f : FrC C LS LN h h2) (hS : Stc h) (c1 : 239 ≤ C) (c2 : 239 ≤ LS) (c3 : 239 ≤ LN) : Stc h2 := ⟨by rw [f.1]; exact hS.1, fun e he => by
  have q := List.all_eq_true.mp (show stL.all (fun e => !(e.1 == 183 && e.2.1 == 2) && decide (e.1 < 239)) = true by decide +kernel) e he
  obtain ⟨q1, q2⟩ := Bool.and_eq_true_iff.mp q
  have q2 := of_decide_eq_true q2
  rw [f.2.1 _ _ (fun z => by simp [z.1, z.2] at q1) (by omega) (by omega) (by omega)]
  exact hS.2 e he⟩
theorem Stc.fld {h h2 : List zC} {q b : Nat} {v : Value} (hS : Stc h) (g : hPut h h2 q b v) (hn : stL.all (fun e => !(e.1 == q && e.2.1 == b)) = true) : Stc h2 := hS.put g (stL_no2 hn)
/-- what put leaves: the clause C stands at the number k, and there are c2 articles -/
def PT (h h2 : List zC) (k C : Nat) (c2 : Int32) : Prop := h2.length = h.length ∧ gF h2 (73 + 4 * k) 1 = some (.ref C) ∧ gF h2 71 2 = some (.int c2) ∧ (∀ x j, ¬ (x = 73 + 4 * k ∧ j = 1) → ¬ (x = 71 ∧ (j = 2 ∨ j = 3 ∨ j = 4)) → ¬ (73 ≤ x ∧ x < 169 ∧ j = 5) → gF h2 x j = gF h x j) ∧ ∀ x, gT h2 x = gT h x ∧ gN h2 x = gN h x
theorem art_st {k : Nat} (hk : k < 24) : ∀ e ∈ stL, ¬ (e.1 = 73 + 4 * k ∧ e.2.1 = 1) := fun e he z => by
  have q := of_decide_eq_true (List.all_eq_true.mp (show stL.all (fun e => decide (¬ (73 ≤ e.1 ∧ e.1 < 169))) = true by decide +kernel) e he)
  omega
theorem nb1 {c nb : Int32} (h1 : 0 ≤ nb.toInt) (h2 : nb.toInt < 24) (hc : c.toInt ≤ 24) : (nb + 1).toInt = nb.toInt + 1 ∧ (mxI c (nb + 1)).toInt ≤ 24 := by
  have e : (nb + 1).toInt = nb.toInt + 1 := by
    rw [Int32.toInt_add]
    have z1 : (1 : Int32).toInt = 1 := rfl
    rw [z1]
    exact Int.bmod_eq_of_le (by omega) (by omega)
  refine ⟨e, ?_⟩
  unfold mxI
  by_cases z : c < nb + 1
  · rw [if_pos z]
    omega
  · rw [if_neg z]
    exact hc
/-- what takeDraft leaves and answers -/
def TD (T : Nat → Int32) (L : Nat) (nb cnt : Int32) (h h2 : List zC) (o : Sum (Option Value) Nat) : Prop := h2.length = h.length + 3 ∧ gF h2 183 1 = some (.int 0) ∧ (∀ x k, x < h.length → ¬ (x = 183 ∧ (k = 1 ∨ k = 2)) → ¬ (x = 73 + 4 * nb.toNatClampNeg ∧ k = 1) → ¬ (x = 71 ∧ (k = 2 ∨ k = 3 ∨ k = 4)) → ¬ (73 ≤ x ∧ x < 169 ∧ k = 5) → gF h2 x k = gF h x k) ∧ (∀ x, x < h.length → gT h2 x = gT h x ∧ gN h2 x = gN h x) ∧ ∃ b : Int32, o = .inl (some (.int b)) ∧
  ((b = 0 ∧ pRead T L nb Fz = none ∧ gF h2 (73 + 4 * nb.toNatClampNeg) 1 = gF h (73 + 4 * nb.toNatClampNeg) 1 ∧ gF h2 71 2 = gF h 71 2) ∨ (b = 1 ∧ ∃ (p : Nat) (F : Nat → Int32), pRead T L nb Fz = some (p, F) ∧ CZ h.length (h.length + 1) (h.length + 2) h2 F ∧ gF h2 (73 + 4 * nb.toNatClampNeg) 1 = some (.ref h.length) ∧ gF h2 71 2 = some (.int (mxI cnt (nb + 1)))))
/-- what read leaves, from the text's begin -/
def QRd (T : Nat → Int32) (L s b : Nat) (nb : Int32) (h h2 : List zC) : Prop := h2.length = h.length + 3 ∧ (∀ x k, x < h.length → ¬ (x = 213 ∧ (k = 16 ∨ k = 17)) → gF h2 x k = gF h x k) ∧ (∀ x, x < h.length → gT h2 x = gT h x ∧ gN h2 x = gN h x) ∧ (gF h2 h.length 9 = some (.int 0) ∧ gF h2 h.length 10 = some (.int (-1)) ∧ gF h2 h.length 11 = some (.int (-1))) ∧ gT h2 h.length = some 15 ∧ ∃ a2 bd2 : Int32, MB T L s b h2 a2 bd2 ∧ GR T L h.length (h.length + 1) (h.length + 2) h2 a2 bd2 (rd0 T L nb Fz)
theorem n24_of {nb : Int32} (h1 : 0 ≤ nb.toInt) (h2 : nb.toInt < 24) : nb.toNatClampNeg < 24 := by
  show nb.toInt.toNat < 24
  omega
theorem rd1 {T : Nat → Int32} {L C LS LN : Nat} {h2 : List zC} {r : Option (Nat × (Nat → Int32))} {b : Int32} (d : RD T L C LS LN h2 r b) (e : ¬ b = 0) : b = 1 := by
  rcases d with ⟨z, -⟩ | ⟨z, -⟩
  · exact absurd z e
  · exact z
/-! ===== values: a text made longer ===== -/
/-- all cells below m are as they were -/
def KP (m : Nat) (h h2 : List zC) : Prop := h.length ≤ h2.length ∧ ∀ x, x < m → (∀ k, gF h2 x k = gF h x k) ∧ gT h2 x = gT h x ∧ gN h2 x = gN h x
theorem KP.refl (m : Nat) (h : List zC) : KP m h h := ⟨Nat.le_refl _, fun _ _ => ⟨fun _ => rfl, rfl, rfl⟩⟩
theorem KP.trans {m : Nat} {h h1 h2 : List zC} (a : KP m h h1) (b : KP m h1 h2) : KP m h h2 := ⟨Nat.le_trans a.1 b.1, fun x hx => ⟨fun k => ((b.2 x hx).1 k).trans ((a.2 x hx).1 k), (b.2 x hx).2.1.trans (a.2 x hx).2.1, (b.2 x hx).2.2.trans (a.2 x hx).2.2⟩⟩
theorem KP.put {m : Nat} {h h2 : List zC} {q b : Nat} {v : Value} (g : hPut h h2 q b v) (hq : m ≤ q) : KP m h h2 := ⟨by rw [g.1]; exact Nat.le_refl _, fun x hx => ⟨fun k => by rw [g.2.1, if_neg (by omega)], g.2.2.1 x, g.2.2.2 x⟩⟩
theorem KP.new {m : Nat} {h h2 : List zC} {c : zC} (g : vNew h h2 c) (hm : m ≤ h.length) : KP m h h2 := ⟨by rw [g.len]; omega, fun x hx => ⟨fun k => g.ext.fld (by omega) k, (g.ext.T (by omega)).1, (g.ext.T (by omega)).2⟩⟩
theorem KP.cpy {m : Nat} {h h2 : List zC} {q sp d dp n : Nat} (g : hCpy h h2 q sp d dp n) (hd : m ≤ d) : KP m h h2 := ⟨by rw [g.1]; exact Nat.le_refl _, fun x hx => ⟨fun k => by rw [g.2.1, if_neg (by omega)], g.2.2.1 x, g.2.2.2 x⟩⟩
theorem SB.kp {T : Nat → Int32} {L s b m : Nat} {h h2 : List zC} (d : SB T L s b h) (f : KP m h h2) (hs : s < m) (hb : b < m) : SB T L s b h2 := by
  obtain ⟨d1, d2, d3, d4, d5, d6, d7⟩ := d
  exact ⟨((f.2 s hs).1 0).trans d1, ((f.2 s hs).1 1).trans d2, (f.2 b hb).2.2.trans d3, d4, fun i hi => ⟨((f.2 b hb).1 i).trans (d5 i hi).1, (d5 i hi).2⟩, d6, d7⟩
/-- a builder of texts: its row W of the length cap, n signs f in it; all at m or behind -/
def BX (m : Nat) (h : List zC) (B W cap n : Nat) (f : Nat → Int32) : Prop := gF h B 0 = some (.ref W) ∧ gF h B 1 = some (.int 0) ∧ gF h B 3 = some (.int (Int32.ofNat n)) ∧ gN h W = some cap ∧ gT h W = some 101 ∧ n ≤ cap ∧ cap ≤ 400 ∧ (∀ i, i < n → gF h W i = some (.int (f i))) ∧ m ≤ B ∧ m ≤ W ∧ ¬ B = W
theorem sh0' : ∀ n, n < 1001 → Int32.ofNat n >>> ((0 : Int32) &&& 31) = Int32.ofNat n ∧ Int32.ofNat n <<< ((0 : Int32) &&& 31) = Int32.ofNat n := by decide +kernel
theorem on_eq {a b : Nat} (ha : a < 2147483648) (hb : b < 2147483648) : Int32.ofNat a = Int32.ofNat b ↔ a = b := by
  constructor
  · intro e
    have := congrArg Int32.toInt e
    rw [(toNat_ofNat ha).2, (toNat_ofNat hb).2] at this
    omega
  · intro e
    rw [e]
theorem on_sub {a b : Nat} (ha : a < 1000) (hb : b < 1000) : (Int32.ofNat a - Int32.ofNat b).toInt = (a : Int) - b := by
  rw [Int32.toInt_sub, (toNat_ofNat (show a < 2147483648 by omega)).2, (toNat_ofNat (show b < 2147483648 by omega)).2]
  exact Int.bmod_eq_of_le (by omega) (by omega)
theorem ncap_tab : ∀ a, a < 61 → ∀ b, b < 62 → a < b → Int32.ofNat a + mxI (Int32.ofNat b - Int32.ofNat a) (Int32.ofNat a + ((2 : Int32) <<< ((0 : Int32) &&& 31))) = Int32.ofNat (a + max (b - a) (a + 2)) := by decide +kernel
theorem ch_tab2 : ∀ n, n < 128 → ((Int32.ofNat n).toInt8.toInt32).toInt8.toInt32 = Int32.ofNat n ∧ ((Int32.ofNat n).toUInt32 % 65536).toInt32 = Int32.ofNat n := by decide +kernel
theorem ch_of {x : Int32} (h : rI 32 126 x) : (x.toInt8.toInt32).toInt8.toInt32 = x ∧ (x.toUInt32 % 65536).toInt32 = x := by
  obtain ⟨h1, h2⟩ := h
  have z1 : (32 : Int32).toInt = 32 := rfl
  have z2 : (126 : Int32).toInt = 126 := rfl
  have e : x = Int32.ofNat x.toInt.toNat := Int32.toInt_inj.mp (by
    rw [Int32.toInt_ofNat_of_lt (by omega)]
    omega)
  rw [e]
  exact ch_tab2 _ (by omega)
theorem on0_add (n : Nat) : Int32.ofNat 0 + Int32.ofNat n = Int32.ofNat n := by
  rw [← Int32.ofNat_add, Nat.zero_add]
theorem BX.kp {m M B W cap n : Nat} {f : Nat → Int32} {h h2 : List zC} (bx : BX m h B W cap n f) (kp : KP M h h2) (hB : B < M) (hW : W < M) : BX m h2 B W cap n f := by
  obtain ⟨b1, b2, b3, b4, b5, b6, b7, b8, b9, b10, b11⟩ := bx
  exact ⟨((kp.2 B hB).1 0).trans b1, ((kp.2 B hB).1 1).trans b2, ((kp.2 B hB).1 3).trans b3, (kp.2 W hW).2.2.trans b4, (kp.2 W hW).2.1.trans b5, b6, b7, fun i hi => ((kp.2 W hW).1 i).trans (b8 i hi), b9, b10, b11⟩
theorem KP.mono {m M : Nat} {h h2 : List zC} (k : KP M h h2) (hm : m ≤ M) : KP m h h2 := ⟨k.1, fun x hx => k.2 x (by omega)⟩
/-- nothing but what was thrown is another -/
def FD213 (h h2 : List zC) (k : Int32) : Prop := h2.length = h.length ∧ gF h2 213 0 = some (.int k) ∧ (∀ x j, ¬ (x = 213 ∧ j = 0) → gF h2 x j = gF h x j) ∧ ∀ x, gT h2 x = gT h x ∧ gN h2 x = gN h x
theorem FD213.mk2 {h h1 h2 : List zC} {v : Value} {k : Int32} (a : hPut h h1 213 0 v) (b : hPut h1 h2 213 0 (.int k)) : FD213 h h2 k := ⟨by rw [b.1, a.1], by rw [b.2.1, if_pos ⟨rfl, rfl⟩], fun x j n => by rw [b.2.1, if_neg n, a.2.1, if_neg n], fun x => ⟨(b.2.2.1 x).trans (a.2.2.1 x), (b.2.2.2 x).trans (a.2.2.2 x)⟩⟩
theorem hf_of {T : Nat → Int32} {L b : Nat} {c : Int32} {h : List zC} (d : ∀ i, i < L → gF h b i = some (.int (T i)) ∧ rI 32 126 (T i)) (hc : rI 32 126 c) : ∀ i, i < L + 1 → rI 32 126 (if i = L then c else T i) := fun i hi => by
  by_cases e : i = L
  · rw [if_pos e]
    exact hc
  · rw [if_neg e]
    exact (d i (by omega)).2
theorem zDef0 : (zDef 0)[0]? = some .null ∧ (zDef 1)[3]? = some (.int 0) := by decide +kernel
/-! ===== values: feed, write, amend ===== -/
theorem s184 {i : Nat} : ∀ e ∈ stL, ¬ (e.1 = 184 ∧ e.2.1 = i) := stL_no (fun p => p == 184) (by decide +kernel) rfl
theorem st_213_9 {h : List zC} (hS : Stc h) : gF h 213 9 = some (.ref 225) := hS.2 (213, 9, 225) (by decide +kernel)
theorem n24i {c x : Int32} (h : iN c.toInt x) (hc : c.toInt ≤ 24) : x.toNatClampNeg < 24 := by
  obtain ⟨h1, h2⟩ := h
  show x.toInt.toNat < 24
  omega
theorem add1s {c : Int32} : c + 1 - 1 = c := by
  rw [Int32.sub_eq_add_neg, Int32.add_assoc, Int32.add_right_neg, Int32.add_zero]
theorem td_o {T : Nat → Int32} {L : Nat} {nb cnt : Int32} {h h2 : List zC} {o : Sum (Option Value) Nat} (d : TD T L nb cnt h h2 o) : ∃ b : Int32, o = .inl (some (.int b)) := by
  obtain ⟨-, -, -, -, b, e, -⟩ := d
  exact ⟨b, e⟩
theorem td_y {T : Nat → Int32} {L : Nat} {nb cnt b : Int32} {h h2 : List zC} (hl : 239 ≤ h.length) (d : TD T L nb cnt h h2 (.inl (some (.int b)))) (hb : ¬ b = 0) : ∃ (p : Nat) (F : Nat → Int32), pRead T L nb Fz = some (p, F) ∧ CZ h.length (h.length + 1) (h.length + 2) h2 F ∧ (gF h2 (73 + 4 * nb.toNatClampNeg) 1 = some (.ref h.length) ∧ gF h2 16 10 = gF h 16 10) ∧ gF h2 71 2 = some (.int (mxI cnt (nb + 1))) := by
  obtain ⟨d1, d2, d3, d4, b', e, d5⟩ := d
  cases e
  rcases d5 with ⟨z, -⟩ | ⟨-, p, F, f1, f2, f3, f4⟩
  · exact absurd z hb
  · exact ⟨p, F, f1, f2, ⟨f3, d3 16 10 (by omega) (by omega) (by omega) (by omega) (by omega)⟩, f4⟩
/-- what write of the reference leaves: a text read, the text empty, and then -/
def QWr (T : Nat → Int32) (L s b : Nat) (nb : Int32) (h h1 h3 : List zC) : Prop := QRd T L s b nb h h1 ∧ hPut h1 h3 213 10 (.ref 1)
theorem QWr.len {T : Nat → Int32} {L s b : Nat} {nb : Int32} {h h1 h3 : List zC} (q : QWr T L s b nb h h1 h3) : h3.length = h.length + 3 := by rw [q.2.1]; exact q.1.1
theorem QWr.old {T : Nat → Int32} {L s b : Nat} {nb : Int32} {h h1 h3 : List zC} (q : QWr T L s b nb h h1 h3) : ∀ x k, x < h.length → ¬ (x = 213 ∧ (k = 10 ∨ k = 16 ∨ k = 17)) → gF h3 x k = gF h x k := fun x k hx n => by
  rw [q.2.2.1, if_neg (by omega)]
  exact q.1.2.1 x k hx (by omega)
theorem QWr.oldT {T : Nat → Int32} {L s b : Nat} {nb : Int32} {h h1 h3 : List zC} (q : QWr T L s b nb h h1 h3) : ∀ x, x < h.length → gT h3 x = gT h x ∧ gN h3 x = gN h x := fun x hx => by
  rw [q.2.2.2.1, q.2.2.2.2]
  exact q.1.2.2.1 x hx
theorem QWr.stc {T : Nat → Int32} {L s b : Nat} {nb : Int32} {h h1 h3 : List zC} (q : QWr T L s b nb h h1 h3) : Stc h3 := by
  obtain ⟨⟨-, -, -, -, -, a2, bd2, d, -⟩, g⟩ := q
  exact d.1.fld g (by decide +kernel)
/-- the flag, and what was read -/
theorem QWr.res {T : Nat → Int32} {L s b : Nat} {nb : Int32} {h h1 h3 : List zC} (q : QWr T L s b nb h h1 h3) (hl : 239 ≤ h.length) : ∃ a2 bd2 : Int32, gF h3 213 16 = some (.int a2) ∧ gF h3 213 17 = some (.int bd2) ∧ ((bd2 = 1 ∧ rd0 T L nb Fz = none) ∨ (bd2 = 0 ∧ ∃ (p : Nat) (F : Nat → Int32), rd0 T L nb Fz = some (p, F) ∧ AZ h.length (h.length + 1) (h.length + 2) h3 F)) := by
  obtain ⟨⟨-, -, -, -, -, a2, bd2, d, gr⟩, g⟩ := q
  refine ⟨a2, bd2, ?_, ?_, ?_⟩
  · rw [g.2.1, if_neg (by omega)]
    exact d.2.2.2.1
  · rw [g.2.1, if_neg (by omega)]
    exact d.fl
  · rcases gr with g1 | ⟨g1, p, F, g2, g3, g4, g5⟩
    · exact Or.inl g1
    · exact Or.inr ⟨g1, p, F, g2, g5.oth (fun x k hx => by rw [g.2.1, if_neg (by omega)])⟩
/-! ===== values: the houses ===== -/
theorem st_16_11 {h : List zC} (hS : Stc h) : gF h 16 11 = some (.ref 169) := hS.2 (16, 11, 169) (by decide +kernel)
theorem st_169_0 {h : List zC} (hS : Stc h) : gF h 169 0 = some (.ref 170) := hS.2 (169, 0, 170) (by decide +kernel)
theorem st_fac {h : List zC} (hS : Stc h) {i : Nat} (hi : i < 4) : gF h 170 i = some (.ref (171 + 3 * i)) := hS.2 (170, i, 171 + 3 * i) (by
  have : ∀ i, i < 4 → (170, i, 171 + 3 * i) ∈ stL := by decide +kernel
  exact this i hi)
theorem st_fm {h : List zC} (hS : Stc h) {i : Nat} (hi : i < 4) : gF h (171 + 3 * i) 0 = some (.ref (172 + 3 * i)) := hS.2 (171 + 3 * i, 0, 172 + 3 * i) (by
  have : ∀ i, i < 4 → (171 + 3 * i, 0, 172 + 3 * i) ∈ stL := by decide +kernel
  exact this i hi)
theorem st_fs {h : List zC} (hS : Stc h) {i : Nat} (hi : i < 4) : gF h (171 + 3 * i) 1 = some (.ref (173 + 3 * i)) := hS.2 (171 + 3 * i, 1, 173 + 3 * i) (by
  have : ∀ i, i < 4 → (171 + 3 * i, 1, 173 + 3 * i) ∈ stL := by decide +kernel
  exact this i hi)
theorem st_213_11 {h : List zC} (hS : Stc h) : gF h 213 11 = some (.ref 226) := hS.2 (213, 11, 226) (by decide +kernel)
theorem st_213_12 {h : List zC} (hS : Stc h) : gF h 213 12 = some (.ref 230) := hS.2 (213, 12, 230) (by decide +kernel)
theorem st_213_13 {h : List zC} (hS : Stc h) : gF h 213 13 = some (.ref 235) := hS.2 (213, 13, 235) (by decide +kernel)
theorem st_213_14 {h : List zC} (hS : Stc h) : gF h 213 14 = some (.ref 236) := hS.2 (213, 14, 236) (by decide +kernel)
theorem st_hs {h : List zC} (hS : Stc h) {i : Nat} (hi : i < 3) : gF h 226 i = some (.ref (227 + i)) := hS.2 (226, i, 227 + i) (by
  have : ∀ i, i < 3 → (226, i, 227 + i) ∈ stL := by decide +kernel
  exact this i hi)
theorem st_mr {h : List zC} (hS : Stc h) {i : Nat} (hi : i < 4) : gF h 230 i = some (.ref (231 + i)) := hS.2 (230, i, 231 + i) (by
  have : ∀ i, i < 4 → (230, i, 231 + i) ∈ stL := by decide +kernel
  exact this i hi)
/-- how a faction likes an outcome of a matter -/
def lk (md ts oc : Int32) : Int32 := if oc < 0 then md else md + ts * (oc - 50) / 25
def lkC (h : List zC) (f C : Nat) : Int32 := lk (iv h (172 + 3 * f) (iv h C 0).toNatClampNeg) (iv h (171 + 3 * f) 2) (iv h C 6)
def lkM (h : List zC) (f A : Nat) : Int32 := lk (iv h (231 + f) (iv h A 0).toNatClampNeg) (iv h 235 f) (iv h A 7)
def cmpI (a b : Int32) : Int32 := if a < b then -1 else if a = b then 0 else 1
def sideC (rep pl num l : Int32) : Int32 := if rep = 0 then (if pl = num then 1 else cmpI l 0) else -(cmpI l 0)
def byM (rep pl num l : Int32) : Int32 := if rep = 0 then (if pl = num then 1 else l) else -l
def bCs (S sd : Nat → Int32) : Nat → Int32
  | 0 => 0
  | k + 1 => bCs S sd k + S k * sd k
def sgn (x s : Int32) : Int32 := if 0 < x then s else if x < 0 then -s else 0
def bMs (S b : Nat → Int32) : Nat → Int32
  | 0 => 0
  | k + 1 => bMs S b k + sgn (b k) (S k)
def hcF (B : Nat → Int32) : Nat → Int32
  | 0 => 0
  | k + 1 => if 0 < B k then hcF B k + 1 else hcF B k
theorem hcF_y {B : Nat → Int32} {k : Nat} (h : 0 < B k) : hcF B (k + 1) = hcF B k + 1 := by
  conv => lhs; unfold hcF
  rw [if_pos h]
theorem hcF_n {B : Nat → Int32} {k : Nat} (h : ¬ 0 < B k) : hcF B (k + 1) = hcF B k := by
  conv => lhs; unfold hcF
  rw [if_neg h]
theorem hcF_same {B D : Nat → Int32} {n : Nat} (h : ∀ k, k < n → B k = D k) : ∀ k, k ≤ n → hcF B k = hcF D k
  | 0, _ => rfl
  | k + 1, hk => by
    unfold hcF
    rw [hcF_same h k (by omega), h k (by omega)]
theorem z0I : (0 : Int32).toInt = 0 := rfl
theorem neg_lt0 {x : Int32} (h : -1000 ≤ x.toInt ∧ x.toInt ≤ 1000) : (0 < -x ↔ x < 0) ∧ (-x < 0 ↔ 0 < x) := by
  have e : (-x).toInt = -x.toInt := by
    rw [Int32.toInt_neg]
    exact Int.bmod_eq_of_le (by omega) (by omega)
  rw [i32_lt, i32_lt, i32_lt, i32_lt, e, z0I]
  constructor <;> constructor <;> intro h <;> omega
theorem mul_side (s x : Int32) : s * cmpI x 0 = sgn x s := by
  unfold cmpI sgn
  by_cases a : x < 0
  · have b : ¬ 0 < x := fun z => by rw [i32_lt, z0I] at a z; omega
    rw [if_pos a, if_neg b, if_pos a, Int32.mul_neg, Int32.mul_one]
  · rw [if_neg a]
    by_cases c : x = 0
    · have b : ¬ 0 < x := fun z => by rw [c] at z; exact absurd z (by decide)
      rw [if_pos c, if_neg b, if_neg a, Int32.mul_zero]
    · have b : 0 < x := by
        rw [i32_lt, z0I]
        rw [i32_lt, z0I] at a
        have : ¬ x.toInt = 0 := fun z => c (Int32.toInt_inj.mp z)
        omega
      rw [if_neg c, if_pos b, Int32.mul_one]
theorem side_eq {rep pl num l s : Int32} (h : -1000 ≤ l.toInt ∧ l.toInt ≤ 1000) : s * sideC rep pl num l = sgn (byM rep pl num l) s := by
  unfold sideC byM
  by_cases a : rep = 0
  · rw [if_pos a, if_pos a]
    by_cases b : pl = num
    · rw [if_pos b, if_pos b, Int32.mul_one]
      unfold sgn
      rw [if_pos (by decide)]
    · rw [if_neg b, if_neg b]
      exact mul_side s l
  · rw [if_neg a, if_neg a, Int32.mul_neg, mul_side]
    obtain ⟨n1, n2⟩ := neg_lt0 h
    unfold sgn
    by_cases p : 0 < l
    · have q : ¬ l < 0 := fun z => by rw [i32_lt, z0I] at p z; omega
      rw [if_pos p, if_neg (fun z => q (n1.mp z)), if_pos (n2.mpr p)]
    · by_cases q : l < 0
      · rw [if_neg p, if_pos q, if_pos (n1.mpr q), Int32.neg_neg]
      · rw [if_neg p, if_neg q, if_neg (fun z => q (n1.mp z)), if_neg (fun z => p (n2.mp z))]
        rfl
theorem bal_eq {S D sd b : Nat → Int32} {n : Nat} (h1 : ∀ k, k < n → S k = D k) (h2 : ∀ k, k < n → D k * sd k = sgn (b k) (D k)) : ∀ k, k ≤ n → bCs S sd k = bMs D b k
  | 0, _ => rfl
  | k + 1, hk => by
    unfold bCs bMs
    rw [bal_eq h1 h2 k (by omega), h1 k (by omega), h2 k (by omega)]
theorem lk_tab : ∀ t : Nat, t < 7 → ∀ o : Nat, o < 101 → -6 ≤ ((Int32.ofInt ((t : Int) - 3)) * (Int32.ofNat o - 50) / 25).toInt ∧ ((Int32.ofInt ((t : Int) - 3)) * (Int32.ofNat o - 50) / 25).toInt ≤ 6 := by decide +kernel
theorem lk_b {md ts oc : Int32} (h1 : -5 ≤ md.toInt ∧ md.toInt ≤ 5) (h2 : -3 ≤ ts.toInt ∧ ts.toInt ≤ 3) (h3 : oc.toInt ≤ 100) : -1000 ≤ (lk md ts oc).toInt ∧ (lk md ts oc).toInt ≤ 1000 := by
  unfold lk
  by_cases a : oc < 0
  · rw [if_pos a]
    omega
  · rw [if_neg a]
    rw [i32_lt, z0I] at a
    have e1 : ts = Int32.ofInt (((ts.toInt + 3).toNat : Int) - 3) := by
      rw [show (((ts.toInt + 3).toNat : Int) - 3) = ts.toInt by omega, Int32.ofInt_toInt]
    have e2 : oc = Int32.ofNat oc.toInt.toNat := Int32.toInt_inj.mp (by
      rw [Int32.toInt_ofNat_of_lt (by omega)]
      omega)
    have t := lk_tab (ts.toInt + 3).toNat (by omega) oc.toInt.toNat (by omega)
    rw [← e1, ← e2] at t
    rw [Int32.toInt_add, Int.bmod_eq_of_le (by omega) (by omega)]
    omega
/-! ===== values: the houses written ===== -/
def asC (S : Nat → Int32) : Nat → Int32
  | 0 => 0
  | k + 1 => asC S k + S k
theorem asC_same {S D : Nat → Int32} {n : Nat} (h : ∀ k, k < n → S k = D k) : ∀ k, k ≤ n → asC S k = asC D k
  | 0, _ => rfl
  | k + 1, hk => by
    unfold asC
    rw [asC_same h k (by omega), h k (by omega)]
theorem asC4 {S : Nat → Int32} : asC S 4 = S 0 + S 1 + S 2 + S 3 := by
  show 0 + S 0 + S 1 + S 2 + S 3 = _
  rw [Int32.zero_add]
/-- cells of rows (moods, seats) are not among the pointers -/
theorem row_st {q k : Nat} (h : (172 ≤ q ∧ q < 183 ∧ ¬ q = 174 ∧ ¬ q = 177 ∧ ¬ q = 180) ∨ (227 ≤ q ∧ q < 230) ∨ (231 ≤ q ∧ q < 237)) : ∀ e ∈ stL, ¬ (e.1 = q ∧ e.2.1 = k) := fun e he z => by
  have w := of_decide_eq_true (List.all_eq_true.mp (show stL.all (fun e => decide (¬ ((172 ≤ e.1 ∧ e.1 < 183 ∧ ¬ e.1 = 174 ∧ ¬ e.1 = 177 ∧ ¬ e.1 = 180) ∨ (227 ≤ e.1 ∧ e.1 < 230) ∨ (231 ≤ e.1 ∧ e.1 < 237)))) = true by decide +kernel) e he)
  rw [z.1] at w
  exact w h
theorem fac_st {f k : Nat} (h : k = 2 ∨ k = 3) : ∀ e ∈ stL, ¬ (e.1 = 171 + 3 * f ∧ e.2.1 = k) := fun e he z => by
  have w := of_decide_eq_true (List.all_eq_true.mp (show stL.all (fun e => decide (171 ≤ e.1 → e.1 < 183 → e.2.1 < 2)) = true by decide +kernel) e he)
  have b := of_decide_eq_true (List.all_eq_true.mp (show stL.all (fun e => decide (¬ (183 ≤ e.1 ∧ e.1 % 3 = 0 ∧ (e.2.1 = 2 ∨ e.2.1 = 3)))) = true by decide +kernel) e he)
  omega
theorem iN3 {x : Int32} (h : iN 3 x) : x.toNatClampNeg < 3 := iN_lt (m := 3) h
theorem iN4 {x : Int32} (h : iN 4 x) : x.toNatClampNeg < 4 := iN_lt (m := 4) h
/-! ===== values: pledge, vote, repeal ===== -/
theorem mxI_comm (a b : Int32) : mxI a b = mxI b a := by
  unfold mxI
  by_cases x : a < b
  · rw [if_pos x, if_neg (fun z => by rw [i32_lt] at x z; omega)]
  · by_cases y : b < a
    · rw [if_neg x, if_pos y]
    · rw [if_neg x, if_neg y]
      exact Int32.toInt_inj.mp (by rw [i32_lt] at x y; omega)
def pcF (P : Nat → Int32) (b : Int32) : Nat → Int32
  | 0 => 0
  | k + 1 => if P k = b then pcF P b k + 1 else pcF P b k
theorem pcF_y {P : Nat → Int32} {b : Int32} {k : Nat} (h : P k = b) : pcF P b (k + 1) = pcF P b k + 1 := by
  conv => lhs; unfold pcF
  rw [if_pos h]
theorem pcF_n {P : Nat → Int32} {b : Int32} {k : Nat} (h : ¬ P k = b) : pcF P b (k + 1) = pcF P b k := by
  conv => lhs; unfold pcF
  rw [if_neg h]
theorem pcF_same {P Q : Nat → Int32} {b : Int32} {n : Nat} (h : ∀ k, k < n → P k = Q k) : ∀ k, k ≤ n → pcF P b k = pcF Q b k
  | 0, _ => rfl
  | k + 1, hk => by
    unfold pcF
    rw [pcF_same h k (by omega), h k (by omega)]
/-- pledges to num are taken back, and moods go down: of the first n factions -/
def rLs (pq pk mq : Nat → Nat) (mt : Nat) (h h2 : List zC) (num : Int32) (n : Nat) : Prop := h2.length = h.length ∧ (∀ f, f < n → iv h (pq f) (pk f) = num → gF h2 (pq f) (pk f) = some (.int (-1)) ∧ gF h2 (mq f) mt = some (.int (mxI (iv h (mq f) mt - 1) (-5)))) ∧ (∀ x j, (∀ f, f < n → iv h (pq f) (pk f) = num → ¬ (x = pq f ∧ j = pk f) ∧ ¬ (x = mq f ∧ j = mt)) → gF h2 x j = gF h x j) ∧ ∀ x, gT h2 x = gT h x ∧ gN h2 x = gN h x
section RLs
variable {pq pk mq : Nat → Nat} {mt k : Nat} {h h1 h2 h3 : List zC} {num : Int32}
theorem rLs.refl : rLs pq pk mq mt h h num 0 := ⟨rfl, fun f hf => absurd hf (Nat.not_lt_zero f), fun _ _ _ => rfl, fun _ => ⟨rfl, rfl⟩⟩
theorem rLs.skip (r : rLs pq pk mq mt h h1 num k) (hn : ¬ iv h (pq k) (pk k) = num) : rLs pq pk mq mt h h1 num (k + 1) := by
  obtain ⟨r1, r2, r3, r4⟩ := r
  refine ⟨r1, fun f hf e => ?_, fun x j n => r3 x j (fun f hf e => n f (by omega) e), r4⟩
  by_cases z : f = k
  · subst z
    exact absurd e hn
  · exact r2 f (by omega) e
theorem rLs.step (r : rLs pq pk mq mt h h1 num k) (hn : iv h (pq k) (pk k) = num) (g1 : hPut h1 h2 (pq k) (pk k) (.int (-1))) {v : Int32} (g2 : hPut h2 h3 (mq k) mt (.int v)) (hv : v = mxI (iv h (mq k) mt - 1) (-5)) (i1 : ∀ f, f < k → ¬ (pq f = pq k ∧ pk f = pk k)) (i2 : ∀ f g, f ≤ k → g ≤ k → ¬ pq f = mq g) (i3 : ∀ f, f < k → ¬ mq f = mq k) : rLs pq pk mq mt h h3 num (k + 1) := by
  obtain ⟨r1, r2, r3, r4⟩ := r
  have key : ∀ x j, ¬ (x = pq k ∧ j = pk k) → ¬ (x = mq k ∧ j = mt) → gF h3 x j = gF h1 x j := fun x j a b => by
    rw [g2.2.1, if_neg b, g1.2.1, if_neg a]
  refine ⟨by rw [g2.1, g1.1, r1], fun f hf e => ?_, fun x j n => ?_, fun x => ?_⟩
  · by_cases z : f = k
    · subst z
      refine ⟨?_, ?_⟩
      · rw [g2.2.1, if_neg (fun w => i2 f f (Nat.le_refl _) (Nat.le_refl _) w.1), g1.2.1, if_pos ⟨rfl, rfl⟩]
      · rw [g2.2.1, if_pos ⟨rfl, rfl⟩, hv]
    · have hf2 : f < k := by omega
      obtain ⟨a, b⟩ := r2 f hf2 e
      exact ⟨(key _ _ (i1 f hf2) (fun w => i2 f k (by omega) (Nat.le_refl _) w.1)).trans a, (key _ _ (fun w => i2 k f (Nat.le_refl _) (by omega) w.1.symm) (fun w => i3 f hf2 w.1)).trans b⟩
  · obtain ⟨a, b⟩ := n k (by omega) hn
    rw [key x j a b]
    exact r3 x j (fun f hf e => n f (by omega) e)
  · rw [g2.2.2.1, g2.2.2.2, g1.2.2.1, g1.2.2.2]
    exact r4 x
end RLs
abbrev rLC (mt : Nat) (h h2 : List zC) (num : Int32) (n : Nat) : Prop := rLs (fun f => 171 + 3 * f) (fun _ => 3) (fun f => 172 + 3 * f) mt h h2 num n
abbrev rLM (mt : Nat) (h h2 : List zC) (num : Int32) (n : Nat) : Prop := rLs (fun _ => 236) (fun f => f) (fun f => 231 + f) mt h h2 num n
theorem rLs.stc {pq pk mq : Nat → Nat} {mt k : Nat} {h h2 : List zC} {num : Int32} (r : rLs pq pk mq mt h h2 num k) (hS : Stc h) (hp : ∀ f, f < k → ∀ e ∈ stL, ¬ (e.1 = pq f ∧ e.2.1 = pk f)) (hm : ∀ f, f < k → ∀ e ∈ stL, ¬ (e.1 = mq f ∧ e.2.1 = mt)) : Stc h2 := ⟨by rw [r.1]; exact hS.1, fun e he => by
  rw [r.2.2.1 _ _ (fun f hf _ => ⟨fun z => hp f hf e he z, fun z => hm f hf e he z⟩)]
  exact hS.2 e he⟩
theorem art_st2 {k j : Nat} (hk : k < 24) : ∀ e ∈ stL, ¬ (e.1 = 73 + 4 * k ∧ e.2.1 = j) := fun e he z => by
  have a := of_decide_eq_true (List.all_eq_true.mp (show stL.all (fun e => decide (¬ (73 ≤ e.1 ∧ e.1 < 169))) = true by decide +kernel) e he)
  omega
theorem new_st {A k : Nat} (hA : 239 ≤ A) : ∀ e ∈ stL, ¬ (e.1 = A ∧ e.2.1 = k) := fun e he z => by
  have a := of_decide_eq_true (List.all_eq_true.mp (show stL.all (fun e => decide (e.1 < 239)) = true by decide +kernel) e he)
  omega
/-! ===== values: liking, ofFaction, wouldVote ===== -/
/-- what a faction is asked, on both sides -/
def ofC (h : List zC) (f w : Nat) : Int32 := if w < 4 then iv h (172 + 3 * f) w else if w = 4 then iv h (171 + 3 * f) 2 else if w = 5 then iv h (171 + 3 * f) 3 else iv h (173 + 3 * f) (w - 6)
def ofM (h : List zC) (f w : Nat) : Int32 := if w < 4 then iv h (231 + f) w else if w = 4 then iv h 235 f else if w = 5 then iv h 236 f else iv h (227 + (w - 6)) f
theorem w_nat {w : Int32} {c : Nat} (h : w.toInt = c) : w.toNatClampNeg = c := by
  show w.toInt.toNat = c
  rw [h]
  rfl
