/-! ===== values: lists ===== -/
/-- all cells of h are as they were, but that of p -/
def hOne (h h2 : List zC) (p : Nat) : Prop := h.length ≤ h2.length ∧ ∀ q, q < h.length → ¬ q = p → h2[q]? = h[q]?
theorem toNat_ofNat {m : Nat} (hm : m < 2147483648) : (Int32.ofNat m).toNatClampNeg = m ∧ (Int32.ofNat m).toInt = m := by
  have h1 : (Int32.ofNat m).toInt = m := Int32.toInt_ofNat_of_lt (by omega)
  refine ⟨?_, h1⟩
  show (Int32.ofNat m).toInt.toNat = m
  omega
theorem hPut.len {h h2 : List zC} {q b : Nat} {v : Value} (g : hPut h h2 q b v) : h2.length = h.length := g.1
/-- what add does: the row el' of the list L holds one more -/
def lAdd (h h2 : List zC) (L el : Nat) (s : Int32) (e : Nat) : Prop := ¬ s < 0 ∧ h.length ≤ h2.length ∧ ¬ L = el ∧ ∃ el' : Nat, gF h2 L 1 = some (.ref el') ∧ gF h2 L 2 = some (.int (s + 1)) ∧ (∀ k, k < s.toNatClampNeg → gF h2 el' k = gF h el k) ∧ gF h2 el' s.toNatClampNeg = some (.ref e) ∧ (el' = el ∨ h.length ≤ el') ∧
  (∀ p, p < h.length → ¬ p = L → ¬ p = el → ∀ k, gF h2 p k = gF h p k) ∧ ∀ p, p < h.length → gT h2 p = gT h p ∧ gN h2 p = gN h p
/-- what grow does: a longer row for the list L -/
def lGrow (h h2 : List zC) (L el l : Nat) (r : Value) : Prop := ∃ m : Nat, r = .ref h.length ∧ gF h2 L 1 = some (.ref h.length) ∧ gN h2 h.length = some m ∧ gT h2 h.length = some 105 ∧ (∀ k, k < m → k < l → gF h2 h.length k = gF h el k) ∧ h2.length = h.length + 1 ∧ (∀ p, p < h.length → ∀ k, ¬ (p = L ∧ k = 1) → gF h2 p k = gF h p k) ∧ ∀ p, p < h.length → gT h2 p = gT h p ∧ gN h2 p = gN h p
def lCopy (h h2 : List zC) (q l : Nat) (m : Int32) : Prop := hExt h h2 ∧ h2.length = h.length + 1 ∧ ¬ m < 0 ∧ gN h2 h.length = some m.toNatClampNeg ∧ gT h2 h.length = some 105 ∧ ∀ k, k < m.toNatClampNeg → k < l → gF h2 h.length k = gF h q k
theorem gN_lt {h : List zC} {p m : Nat} (e : gN h p = some m) : p < h.length := by
  unfold gN at e
  split at e
  · rename_i c hc
    exact (List.getElem?_eq_some_iff.mp hc).1
  · cases e
theorem gT_lt {h : List zC} {p m : Nat} (e : gT h p = some m) : p < h.length := by
  unfold gT at e
  split at e
  · rename_i c hc
    exact (List.getElem?_eq_some_iff.mp hc).1
  · cases e
theorem copy_end {h h1 h2 : List zC} {q l l' : Nat} {m : Int32} (hq : gN h q = some l) (hl2 : l < 2147483648) (hm : ¬ m < 0) (g : vNew h h1 (105, List.replicate m.toNatClampNeg .null)) (hl : gN h1 q = some l') (c : hCpy h1 h2 q (0 : Int32).toNatClampNeg h.length (0 : Int32).toNatClampNeg (if m < Int32.ofNat l' then m else Int32.ofNat l').toNatClampNeg) : lCopy h h2 q l m := by
  have hq2 := gN_lt hq
  rw [(g.ext.T hq2).2, hq] at hl
  cases hl
  obtain ⟨c1, c2, c3, c4⟩ := c
  have z0 : (0 : Int32).toNatClampNeg = 0 := rfl
  rw [z0] at c2
  refine ⟨fun p hp => ?_, by rw [c1, g.len], hm, ?_, by rw [c3, g.cn.2], fun k k1 k2 => ?_⟩
  · have e1 : ∀ k, gF h2 p k = gF h p k := fun k => by
      rw [c2, if_neg (fun z => by omega), g.ext.fld hp]
    have e2 := c3 p
    have e3 := c4 p
    rw [(g.ext.T hp).1] at e2
    rw [(g.ext.T hp).2] at e3
    exact cell_eq e1 e2 e3
  · rw [c4, g.cn.1, List.length_replicate]
  · have h3 : k < (if m < Int32.ofNat l then m else Int32.ofNat l).toNatClampNeg := by
      split
      · exact k1
      · rw [(toNat_ofNat hl2).1]
        exact k2
    rw [c2, if_pos ⟨rfl, by omega, by omega⟩, g.ext.fld hq2]
    simp
theorem grow_end {h h1 h2 : List zC} {L el l m : Nat} (hL : gF h L 1 = some (.ref el)) (x : hExt h h1) (xl : h1.length = h.length + 1) (n : gN h1 h.length = some m) (t : gT h1 h.length = some 105) (c : ∀ k, k < m → k < l → gF h1 h.length k = gF h el k) (g : hPut h1 h2 L 1 (.ref h.length)) : lGrow h h2 L el l (.ref h.length) := by
  have hl := gF_lt hL
  refine ⟨m, rfl, by rw [g.2.1, if_pos ⟨rfl, rfl⟩], by rw [g.2.2.2]; exact n, by rw [g.2.2.1]; exact t, fun k k1 k2 => ?_, by rw [g.1, xl], fun p hp k hk => ?_, fun p hp => ?_⟩
  · rw [g.2.1, if_neg (by omega)]
    exact c k k1 k2
  · rw [g.2.1, if_neg hk, x.fld hp]
  · rw [g.2.2.1, g.2.2.2]
    exact x.T hp
theorem add_end1 {h h1 h2 : List zC} {L el e : Nat} {s : Int32} (hL : gF h L 1 = some (.ref el)) (tL : gT h1 L = some 2) (tE : ∃ t, gT h el = some t ∧ 105 ≤ t) (ns : ¬ s < 0) (g1 : hPut h h1 el s.toNatClampNeg (.ref e)) (g2 : hPut h1 h2 L 2 (.int (s + 1))) : lAdd h h2 L el s e := by
  have ne : ¬ L = el := fun z => by
    subst z
    obtain ⟨t, t1, t2⟩ := tE
    rw [g1.2.2.1, t1] at tL
    cases tL
    omega
  refine ⟨ns, by rw [g2.1, g1.1]; exact Nat.le_refl _, ne, el, ?_, ?_, fun k hk => ?_, ?_, Or.inl rfl, fun p hp p1 p2 k => ?_, fun p hp => ?_⟩
  · rw [g2.2.1, if_neg (by omega), g1.2.1, if_neg (fun z => ne z.1)]
    exact hL
  · rw [g2.2.1, if_pos ⟨rfl, rfl⟩]
  · rw [g2.2.1, if_neg (fun z => ne z.1.symm), g1.2.1, if_neg (by omega)]
  · rw [g2.2.1, if_neg (fun z => ne z.1.symm), g1.2.1, if_pos ⟨rfl, rfl⟩]
  · rw [g2.2.1, if_neg (fun z => p1 z.1), g1.2.1, if_neg (fun z => p2 z.1)]
  · rw [g2.2.2.1, g1.2.2.1, g2.2.2.2, g1.2.2.2]
    exact ⟨rfl, rfl⟩
theorem add_end2 {h h0 h1 h2 : List zC} {L el e l r : Nat} {s : Int32} (hL : gF h L 1 = some (.ref el)) (hn : gN h el = some l) (hl2 : l < 2147483648) (hs : s = Int32.ofNat l) (gr : lGrow h h0 L el l (.ref r)) (tL : gT h1 L = some 2) (tE : ∃ t, gT h el = some t ∧ 93 ≤ t) (bd : ∃ m, gN h0 r = some m ∧ s.toNatClampNeg < m) (ns : ¬ s < 0) (g1 : hPut h0 h1 r s.toNatClampNeg (.ref e)) (g2 : hPut h1 h2 L 2 (.int (s + 1))) : lAdd h h2 L el s e := by
  obtain ⟨m, e1, e2, e3, e4, e5, e6, e7, e8⟩ := gr
  cases e1
  obtain ⟨m', b1, b2⟩ := bd
  rw [e3] at b1
  cases b1
  have hl := gF_lt hL
  have hq := gN_lt hn
  have sl : s.toNatClampNeg = l := by rw [hs]; exact (toNat_ofNat hl2).1
  have ne : ¬ L = el := fun z => by
    subst z
    obtain ⟨t, t1, t2⟩ := tE
    rw [g1.2.2.1, (e8 _ hl).1, t1] at tL
    cases tL
    omega
  refine ⟨ns, by rw [g2.1, g1.1, e6]; omega, ne, h.length, ?_, ?_, fun k hk => ?_, ?_, Or.inr (Nat.le_refl _), fun p hp p1 p2 k => ?_, fun p hp => ?_⟩
  · rw [g2.2.1, if_neg (by omega), g1.2.1, if_neg (by omega)]
    exact e2
  · rw [g2.2.1, if_pos ⟨rfl, rfl⟩]
  · rw [g2.2.1, if_neg (by omega), g1.2.1, if_neg (by omega)]
    exact e5 k (by omega) (by omega)
  · rw [g2.2.1, if_neg (by omega), g1.2.1, if_pos ⟨rfl, rfl⟩]
  · rw [g2.2.1, if_neg (fun z => p1 z.1), g1.2.1, if_neg (by omega), e7 p hp k (fun z => p1 z.1)]
  · rw [g2.2.2.1, g1.2.2.1, g2.2.2.2, g1.2.2.2]
    exact e8 p hp
theorem lAdd.pre {h k h2 : List zC} {L el e : Nat} {s : Int32} {v : Value} (g : hPut h k L 0 v) (a : lAdd k h2 L el s e) : lAdd h h2 L el s e := by
  obtain ⟨a1, a2, a3, el', a4, a5, a6, a7, a8, a9, a10⟩ := a
  rw [g.1] at a2 a8 a9 a10
  refine ⟨a1, a2, a3, el', a4, a5, fun i hi => ?_, a7, a8, fun p hp p1 p2 i => ?_, fun p hp => ?_⟩
  · rw [a6 i hi, g.2.1, if_neg (fun z => a3 z.1.symm)]
  · rw [a9 p hp p1 p2 i, g.2.1, if_neg (fun z => p1 z.1)]
  · rw [(a10 p hp).1, (a10 p hp).2, g.2.2.1, g.2.2.2]
    exact ⟨rfl, rfl⟩
/-! ===== values: the rules ===== -/
theorem st_16_9 {h : List zC} (hS : Stc h) : gF h 16 9 = some (.ref 28) := hS.2 (16, 9, 28) (by decide +kernel)
theorem st_28_0 {h : List zC} (hS : Stc h) : gF h 28 0 = some (.ref 29) := hS.2 (28, 0, 29) (by decide +kernel)
theorem st_213_7 {h : List zC} (hS : Stc h) : gF h 213 7 = some (.ref 223) := hS.2 (213, 7, 223) (by decide +kernel)
theorem st_rule {h : List zC} (hS : Stc h) {i : Nat} (hi : i < 40) : gF h 29 i = some (.ref (31 + i)) := hS.2 (29, i, 31 + i) (by
  have : ∀ i, i < 40 → (29, i, 31 + i) ∈ stL := by decide +kernel
  exact this i hi)
/-- x from lo to hi -/
abbrev rI (lo hi x : Int32) : Prop := lo.toInt ≤ x.toInt ∧ x.toInt ≤ hi.toInt
def okR (p m c a b s r cnt : Int32) : Prop := (iN 6 p ∧ iN 4 m) ∧ (rI 1 15 c ∧ rI 0 63 a ∧ rI 0 63 b ∧ rI 0 0 (a &&& b) ∧ rI 0 100 s ∧ rI 1 5 r) ∧ cnt.toInt < 40
theorem in_y {x hi : Int32} {m : Int} (e : hi.toInt = m - 1) (h : ¬ inB x 0 hi = 0) : iN m x := by
  obtain ⟨h1, h2⟩ := inB_y h
  have z0 : (0 : Int32).toInt = 0 := rfl
  exact ⟨by omega, by omega⟩
theorem in_n {x hi : Int32} {m : Int} (e : hi.toInt = m - 1) (h : inB x 0 hi = 0) : ¬ iN m x := fun ⟨h1, h2⟩ => inB_n h (by
  have z0 : (0 : Int32).toInt = 0 := rfl
  omega)
theorem rI0 {x : Int32} : rI 0 0 x ↔ x = 0 := by
  have z0 : (0 : Int32).toInt = 0 := rfl
  constructor
  · intro ⟨h1, h2⟩
    exact Int32.toInt_inj.mp (by omega)
  · intro e
    subst e
    exact ⟨Int.le_refl _, Int.le_refl _⟩
theorem n40 {c : Int32} (h : c.toInt < 40) : c.toNatClampNeg < 40 := by
  show c.toInt.toNat < 40
  omega
/-- the bits of x, as Integer.bitCount counts them -/
def sh32 (x k : Int32) : Int32 := (x.toUInt32 >>> (k.toUInt32 &&& Int32.toUInt32 31)).toInt32
def bcO (i0 : Int32) : Int32 :=
  let i1 := i0 - (sh32 i0 1 &&& Int32.ofNat 1431655765)
  let i2 := (i1 &&& Int32.ofNat 858993459) + (sh32 i1 2 &&& Int32.ofNat 858993459)
  let i3 := (i2 + sh32 i2 4) &&& Int32.ofNat 252645135
  let i4 := i3 + sh32 i3 8
  (i4 + sh32 i4 16) &&& 63
/-- how many bits x has, as the reference counts them -/
def szO : Nat → Int32 → Option Int32
  | 0, _ => none
  | k + 1, x => if 0 < x then (szO k (x / 2)).map (fun s => (x - x / 2 * 2) + s) else some 0
def Psz (x s : Int32) : Prop := ∃ k, szO k x = some s
theorem Psz0 {x : Int32} (h : ¬ 0 < x) : Psz x 0 := ⟨1, by unfold szO; rw [if_neg h]⟩
theorem PszS {x s : Int32} (h : 0 < x) (q : Psz (x / 2) s) : Psz x ((x - x / 2 * 2) + s) := by
  obtain ⟨k, e⟩ := q
  exact ⟨k + 1, by unfold szO; rw [if_pos h, e]; rfl⟩
theorem szO_up : ∀ (k : Nat) (x s : Int32), szO k x = some s → szO (k + 1) x = some s
  | 0, _, _, h => by cases h
  | k + 1, x, s, h => by
    unfold szO at h ⊢
    by_cases z : 0 < x
    · rw [if_pos z] at h ⊢
      cases e : szO k (x / 2) with
      | none => rw [e] at h; cases h
      | some y =>
        rw [e] at h
        rw [szO_up k _ _ e]
        exact h
    · rw [if_neg z] at h ⊢
      exact h
theorem szO_le {k l : Nat} {x s : Int32} (h : k ≤ l) (e : szO k x = some s) : szO l x = some s := by
  obtain ⟨d, rfl⟩ := Nat.exists_eq_add_of_le h
  clear h
  induction d with
  | zero => exact e
  | succ d ih => exact szO_up _ _ _ ih
theorem Psz_det {x s t : Int32} (h1 : Psz x s) (h2 : Psz x t) : s = t := by
  obtain ⟨k, a⟩ := h1
  obtain ⟨l, b⟩ := h2
  have a := szO_le (Nat.le_max_left k l) a
  have b := szO_le (Nat.le_max_right k l) b
  rw [a] at b
  exact Option.some.inj b
def szF (x : Int32) : Int32 := (szO 7 x).getD 0
theorem szF_tab : ∀ a, a < 64 → szO 7 (Int32.ofNat a) = some (szF (Int32.ofNat a)) := by decide +kernel
theorem bc_tab : ∀ a, a < 64 → ∀ b, b < 64 → Int32.ofNat a &&& Int32.ofNat b = 0 → bcO (Int32.ofNat a ||| Int32.ofNat b) = szF (Int32.ofNat a) + szF (Int32.ofNat b) := by decide +kernel
theorem bc_sz {a b s t : Int32} (ha : rI 0 63 a) (hb : rI 0 63 b) (hab : rI 0 0 (a &&& b)) (h1 : Psz a s) (h2 : Psz b t) : bcO (a ||| b) = s + t := by
  have key : ∀ x : Int32, rI 0 63 x → ∃ n : Nat, n < 64 ∧ x = Int32.ofNat n := fun x hx => by
    obtain ⟨h3, h4⟩ := hx
    have z0 : (0 : Int32).toInt = 0 := rfl
    have z1 : (63 : Int32).toInt = 63 := rfl
    refine ⟨x.toInt.toNat, by omega, Int32.toInt_inj.mp ?_⟩
    rw [Int32.toInt_ofNat_of_lt (by omega)]
    omega
  obtain ⟨m, m1, rfl⟩ := key a ha
  obtain ⟨n, n1, rfl⟩ := key b hb
  rw [Psz_det h1 ⟨7, szF_tab m m1⟩, Psz_det h2 ⟨7, szF_tab n n1⟩]
  exact bc_tab m m1 n n1 (rI0.mp hab)
theorem cnt1 {c : Int32} (h : 0 ≤ c.toInt) : (c - 1).toInt = c.toInt - 1 := by
  have h2 := c.toInt_lt
  rw [Int32.toInt_sub]
  have z1 : (1 : Int32).toInt = 1 := rfl
  rw [z1]
  exact Int.bmod_eq_of_le (by omega) (by omega)
theorem isr_y {x c : Int32} (hc : 0 ≤ c.toInt) (h : ¬ inB x 0 (c - 1) = 0) : iN c.toInt x := by
  obtain ⟨h1, h2⟩ := inB_y h
  have z0 : (0 : Int32).toInt = 0 := rfl
  rw [cnt1 hc] at h2
  exact ⟨by omega, by omega⟩
theorem isr_n {x c : Int32} (hc : 0 ≤ c.toInt) (h : inB x 0 (c - 1) = 0) : ¬ iN c.toInt x := fun ⟨h1, h2⟩ => inB_n h (by
  have z0 : (0 : Int32).toInt = 0 := rfl
  rw [cnt1 hc]
  omega)
/-- the class' rule is sworn: its cell is P, its fields; the number of rules -/
def RM (h h2 : List zC) (P : Nat) (cnt p m c a b s r : Int32) : Prop := (∀ q k, ¬ q = P → ¬ (q = 28 ∧ k = 2) → gF h2 q k = gF h q k) ∧ gF h2 28 2 = some (.int (cnt + 1)) ∧ (gF h2 P 0 = some (.int p) ∧ gF h2 P 1 = some (.int m) ∧ gF h2 P 2 = some (.int c) ∧ gF h2 P 3 = some (.int a) ∧ gF h2 P 4 = some (.int b) ∧ gF h2 P 5 = some (.int s) ∧ gF h2 P 6 = some (.int r)) ∧
  gF h2 P 10 = some (.int (10 * bcO (a ||| b) + r)) ∧ gF h2 P 9 = gF h 16 0 ∧ gF h2 P 7 = gF h P 7 ∧ gF h2 P 8 = gF h P 8 ∧ h2.length = h.length ∧ ∀ p, gT h2 p = gT h p ∧ gN h2 p = gN h p
/-- a new rule of the reference's: its cell is q -/
def IM (h h2 : List zC) (q : Nat) (p m c a b s r d : Int32) : Prop := (∀ x k, ¬ x = q → gF h2 x k = gF h x k) ∧ (gF h2 q 0 = some (.int p) ∧ gF h2 q 1 = some (.int m) ∧ gF h2 q 2 = some (.int c) ∧ gF h2 q 3 = some (.int a) ∧ gF h2 q 4 = some (.int b) ∧ gF h2 q 5 = some (.int s) ∧ gF h2 q 6 = some (.int r) ∧ gF h2 q 7 = some (.int d)) ∧
  gF h2 q 8 = gF h q 8 ∧ gF h2 q 9 = some (.int 999) ∧ h2.length = h.length ∧ ∀ p, gT h2 p = gT h p ∧ gN h2 p = gN h p
theorem Stc.rm {h h2 : List zC} {P : Nat} {cnt p m c a b s r : Int32} (hS : Stc h) (hP : 31 ≤ P ∧ P < 71) (g : RM h h2 P cnt p m c a b s r) : Stc h2 := by
  obtain ⟨g1, -, -, -, -, -, -, g2, -⟩ := g
  refine ⟨by rw [g2]; exact hS.1, fun e he => ?_⟩
  have q := List.all_eq_true.mp (show stL.all (fun e => !(decide (31 ≤ e.1 ∧ e.1 < 71)) && !(e.1 == 28 && e.2.1 == 2)) = true by decide +kernel) e he
  obtain ⟨q1, q2⟩ := Bool.and_eq_true_iff.mp q
  have q1 : ¬ (31 ≤ e.1 ∧ e.1 < 71) := by simpa only [Bool.not_eq_true', decide_eq_false_iff_not] using q1
  rw [g1 _ _ (fun z => q1 (by omega)) (fun z => by simp [z.1, z.2] at q2)]
  exact hS.2 e he
/-- the reference's rule is sworn: a new cell q at the end of its list -/
def MM (h h2 : List zC) (el : Nat) (cnt p m c a b s r d : Int32) : Prop := ∃ q el' : Nat, h.length ≤ q ∧ gF h2 223 1 = some (.ref el') ∧ gF h2 223 2 = some (.int (cnt + 1)) ∧ (∀ k, k < cnt.toNatClampNeg → gF h2 el' k = gF h el k) ∧ gF h2 el' cnt.toNatClampNeg = some (.ref q) ∧ (el' = el ∨ h.length ≤ el') ∧ ¬ q = el' ∧
  (gF h2 q 0 = some (.int p) ∧ gF h2 q 1 = some (.int m) ∧ gF h2 q 2 = some (.int c) ∧ gF h2 q 3 = some (.int a) ∧ gF h2 q 4 = some (.int b) ∧ gF h2 q 5 = some (.int s) ∧ gF h2 q 6 = some (.int r) ∧ gF h2 q 7 = some (.int d)) ∧ gF h2 q 8 = some (.int 0) ∧ gF h2 q 9 = some (.int 999) ∧
  ¬ cnt < 0 ∧ ∀ x k, x < h.length → ¬ x = 223 → ¬ x = el → ¬ (x = 213 ∧ k = 0) → gF h2 x k = gF h x k
theorem zDef17 : (zDef 17)[8]? = some (.int 0) := by decide +kernel
theorem mm_end {h k0 k1 i1 h2 : List zC} {el : Nat} {cnt p m c a b s r d : Int32} {v : Value} (hl : 239 ≤ h.length) (hel : el < h.length) (h213 : ¬ el = 213) (t0 : hPut h k0 213 0 v) (g : vNew k0 k1 (17, zDef 17)) (im : IM k1 i1 k0.length p m c a b s r d) (ad : lAdd i1 h2 223 el cnt k0.length) : MM h h2 el cnt p m c a b s r d := by
  obtain ⟨a1, a2, a3, el', a4, a5, a6, a7, a8, a9, a10⟩ := ad
  obtain ⟨i2, i3, i4, i5, i6, i7⟩ := im
  have l0 := t0.1
  have l1 := g.len
  have key : ∀ x k, x < h.length → gF i1 x k = if x = 213 ∧ k = 0 then some v else gF h x k := fun x k hx => by
    rw [i2 x k (by omega), g.ext.fld (by omega), t0.2.1]
  have fq : ∀ k, gF h2 k0.length k = gF i1 k0.length k := fun k => a9 _ (by omega) (by omega) (by omega) k
  refine ⟨k0.length, el', by omega, a4, a5, fun k hk => ?_, a7, ?_, ?_, ?_, ?_, ?_, a1, fun x k hx x1 x2 x3 => ?_⟩
  · rw [a6 k hk, key el k hel, if_neg (fun z => h213 z.1)]
  · rcases a8 with a8 | a8
    · exact Or.inl a8
    · exact Or.inr (by omega)
  · rcases a8 with a8 | a8 <;> omega
  · simp only [fq]
    exact i3
  · rw [fq, i4, g.fld]
    exact zDef17
  · rw [fq]
    exact i5
  · rw [a9 x (by omega) x1 x2, key x k hx, if_neg x3]
/-! ===== values: what a parish's customs tell ===== -/
/-- a rule (its fields by the class' places) is for a case: matter, rank, facts, amount, day -/
abbrev okP (R : Nat → Int32) (m r f a d : Int32) : Prop := m = R 1 ∧ R 2 >>> (r &&& 31) &&& 1 = 1 ∧ f &&& R 3 = R 3 ∧ f &&& R 4 = 0 ∧ R 7 ≤ a ∧ a ≤ R 8 ∧ R 9 ≤ d
/-- told and strength, rule by rule: the class' way, the reference's way -/
def stC (x : Int32 × Int32) : Option (Int32 × Int32) → Int32 × Int32
  | none => x
  | some (st, sh) => if x.2 < st then (sh, st) else if st = x.2 ∧ ¬ x.1 = sh then (-2, x.2) else x
def stM (x : Int32 × Int32) : Option (Int32 × Int32) → Int32 × Int32
  | none => x
  | some (st, sh) => if st < x.2 then x else (if x.2 < st ∨ x.1 = sh then sh else -2, st)
def cuC (D : Nat → Option (Int32 × Int32)) : Nat → Int32 × Int32
  | 0 => (-1, 0)
  | k + 1 => stC (cuC D k) (D k)
def cuM (D : Nat → Option (Int32 × Int32)) : Nat → Int32 × Int32
  | 0 => (-1, -1)
  | k + 1 => stM (cuM D k) (D k)
/-- both ways tell the same, where strengths are above 0 -/
theorem cu_eq {D : Nat → Option (Int32 × Int32)} {n : Nat} (hD : ∀ k, k < n → ∀ st sh, D k = some (st, sh) → 0 < st.toInt) : ∀ k, k ≤ n → (cuC D k).1 = (cuM D k).1 ∧ ((cuC D k).2 = (cuM D k).2 ∧ 0 < (cuC D k).2.toInt ∨ (cuC D k) = (-1, 0) ∧ cuM D k = (-1, -1))
  | 0, _ => ⟨rfl, Or.inr ⟨rfl, rfl⟩⟩
  | k + 1, hk => by
    obtain ⟨e1, e2⟩ := cu_eq hD k (by omega)
    unfold cuC cuM
    cases e : D k with
    | none => exact ⟨e1, e2⟩
    | some y =>
      obtain ⟨st, sh⟩ := y
      have hp := hD k (by omega) st sh e
      unfold stC stM
      dsimp only
      have z0 : (0 : Int32).toInt = 0 := rfl
      have z1 : (-1 : Int32).toInt = -1 := rfl
      rcases e2 with ⟨e2, e3⟩ | ⟨e2, e3⟩
      · rw [← e2, ← e1]
        simp only [i32_lt]
        by_cases a : (cuC D k).2.toInt < st.toInt
        · rw [if_pos a, if_neg (by omega), if_pos (Or.inl a)]
          exact ⟨rfl, Or.inl ⟨rfl, hp⟩⟩
        · rw [if_neg a]
          by_cases b : st.toInt < (cuC D k).2.toInt
          · rw [if_pos b, if_neg (fun z => by rw [z.1] at b; omega)]
            exact ⟨e1, Or.inl ⟨e2, e3⟩⟩
          · have c : st = (cuC D k).2 := Int32.toInt_inj.mp (by omega)
            rw [if_neg b]
            by_cases d : (cuC D k).1 = sh
            · rw [if_neg (fun z => z.2 d), if_pos (Or.inr d)]
              exact ⟨d, Or.inl ⟨c.symm, e3⟩⟩
            · rw [if_pos ⟨c, d⟩, if_neg (fun z => by rcases z with z | z; exact a z; exact d z)]
              exact ⟨rfl, Or.inl ⟨c.symm, e3⟩⟩
      · rw [e2, e3]
        dsimp only
        simp only [i32_lt, z0, z1]
        rw [if_pos hp, if_neg (by omega), if_pos (Or.inl (by omega))]
        exact ⟨rfl, Or.inl ⟨rfl, hp⟩⟩
theorem cu_same {D E : Nat → Option (Int32 × Int32)} {n : Nat} (h : ∀ k, k < n → D k = E k) : ∀ k, k ≤ n → cuM D k = cuM E k
  | 0, _ => rfl
  | k + 1, hk => by
    unfold cuM
    rw [cu_same h k (by omega), h k (by omega)]
/-- the class' rule k for a parish and a case -/
def dC (h : List zC) (p m r f a d : Int32) (k : Nat) : Option (Int32 × Int32) := if iv h (31 + k) 0 = p ∧ okP (iv h (31 + k)) m r f a d then some (iv h (31 + k) 10, iv h (31 + k) 5) else none
theorem dC_n {h : List zC} {p m r f a d : Int32} {k : Nat} (z : ¬ (iv h (31 + k) 0 = p ∧ okP (iv h (31 + k)) m r f a d)) {D : Nat → Option (Int32 × Int32)} (e : D = dC h p m r f a d) : cuC D (k + 1) = cuC D k := by
  subst e
  conv => lhs; unfold cuC
  unfold dC
  rw [if_neg z]
  rfl
theorem dC_y {h : List zC} {p m r f a d : Int32} {k : Nat} (z : iv h (31 + k) 0 = p ∧ okP (iv h (31 + k)) m r f a d) : cuC (dC h p m r f a d) (k + 1) = stC (cuC (dC h p m r f a d) k) (some (iv h (31 + k) 10, iv h (31 + k) 5)) := by
  conv => lhs; unfold cuC
  conv => lhs; arg 2; unfold dC
  rw [if_pos z]
/-- the fields of a rule, of a case, are numbers -/
def RI (h : List zC) (x : Nat) : Prop := ∀ j, j < 10 → ∃ z : Int32, gF h x j = some (.int z)
def CI (h : List zC) (x : Nat) : Prop := ∀ j, j < 7 → ∃ z : Int32, gF h x j = some (.int z)
theorem RI.at {h : List zC} {x j : Nat} (r : RI h x) (hj : j < 10) : gF h x j = some (.int (iv h x j)) := by
  obtain ⟨z, e⟩ := r j hj
  rw [iv_of e]
  exact e
theorem CI.at {h : List zC} {x j : Nat} (r : CI h x) (hj : j < 7) : gF h x j = some (.int (iv h x j)) := by
  obtain ⟨z, e⟩ := r j hj
  rw [iv_of e]
  exact e
theorem RI.same {h h' : List zC} {x : Nat} (r : RI h x) (e : ∀ j, j < 10 → gF h' x j = gF h x j) : RI h' x := fun j hj => by
  obtain ⟨z, e1⟩ := r j hj
  exact ⟨z, (e j hj).trans e1⟩
theorem CI.same {h h' : List zC} {x : Nat} (r : CI h x) (e : ∀ j, j < 7 → gF h' x j = gF h x j) : CI h' x := fun j hj => by
  obtain ⟨z, e1⟩ := r j hj
  exact ⟨z, (e j hj).trans e1⟩
theorem RI.lt {h : List zC} {x : Nat} (r : RI h x) : x < h.length := by
  obtain ⟨z, e⟩ := r 0 (by omega)
  exact gF_lt e
/-- a reference's rule by the class' places -/
def mR (h : List zC) (q k : Nat) : Int32 := if k = 7 then iv h q 8 else if k = 8 then iv h q 9 else if k = 9 then iv h q 7 else iv h q k
def rf (h : List zC) (el k : Nat) : Nat := match gF h el k with
  | some (.ref q) => q
  | _ => 0
theorem rf_of {h : List zC} {el k q : Nat} (e : gF h el k = some (.ref q)) : rf h el k = q := by
  unfold rf
  rw [e]
def stV (h : List zC) (q : Nat) : Int32 := 10 * (szF (iv h q 3) + szF (iv h q 4)) + iv h q 6
def dM (h : List zC) (el : Nat) (p m r f a d : Int32) (k : Nat) : Option (Int32 × Int32) := if iv h (rf h el k) 0 = p ∧ okP (mR h (rf h el k)) m r f a d then some (stV h (rf h el k), iv h (rf h el k) 5) else none
theorem dM_n {h : List zC} {el : Nat} {p m r f a d : Int32} {k : Nat} (z : ¬ (iv h (rf h el k) 0 = p ∧ okP (mR h (rf h el k)) m r f a d)) : cuM (dM h el p m r f a d) (k + 1) = cuM (dM h el p m r f a d) k := by
  conv => lhs; unfold cuM
  conv => lhs; arg 2; unfold dM
  rw [if_neg z]
  rfl
theorem dM_y {h : List zC} {el : Nat} {p m r f a d : Int32} {k : Nat} (z : iv h (rf h el k) 0 = p ∧ okP (mR h (rf h el k)) m r f a d) : cuM (dM h el p m r f a d) (k + 1) = stM (cuM (dM h el p m r f a d) k) (some (stV h (rf h el k), iv h (rf h el k) 5)) := by
  conv => lhs; unfold cuM
  conv => lhs; arg 2; unfold dM
  rw [if_pos z]
theorem psz_f {a s : Int32} (ha : rI 0 63 a) (h : Psz a s) : s = szF a := by
  obtain ⟨h3, h4⟩ := ha
  have z0 : (0 : Int32).toInt = 0 := rfl
  have z1 : (63 : Int32).toInt = 63 := rfl
  have e : a = Int32.ofNat a.toInt.toNat := Int32.toInt_inj.mp (by
    rw [Int32.toInt_ofNat_of_lt (by omega)]
    omega)
  rw [e] at h ⊢
  exact Psz_det h ⟨7, szF_tab _ (by omega)⟩
theorem hs_y {x y : Int32} (h : ¬ (if x >>> (y &&& 31) &&& 1 = 1 then (1 : Int32) else 0) = 0) : x >>> (y &&& 31) &&& 1 = 1 := by
  by_cases z : x >>> (y &&& 31) &&& 1 = 1
  · exact z
  · rw [if_neg z] at h
    exact absurd rfl h
theorem hs_n {x y : Int32} (h : (if x >>> (y &&& 31) &&& 1 = 1 then (1 : Int32) else 0) = 0) : ¬ x >>> (y &&& 31) &&& 1 = 1 := fun z => by
  rw [if_pos z] at h
  exact absurd h (by decide)
theorem inB_b {x lo hi : Int32} (h : ¬ inB x lo hi = 0) : lo ≤ x ∧ x ≤ hi := by
  obtain ⟨h1, h2⟩ := inB_y h
  exact ⟨i32_le.mpr h1, i32_le.mpr h2⟩
theorem inB_c {x lo hi : Int32} (h : inB x lo hi = 0) : ¬ (lo ≤ x ∧ x ≤ hi) := fun z => inB_n h ⟨i32_le.mp z.1, i32_le.mp z.2⟩
/-! ===== values: the wordings ===== -/
theorem st_16_5 {h : List zC} (hS : Stc h) : gF h 16 5 = some (.ref 18) := hS.2 (16, 5, 18) (by decide +kernel)
theorem st_213_5 {h : List zC} (hS : Stc h) : gF h 213 5 = some (.ref 215) := hS.2 (213, 5, 215) (by decide +kernel)
theorem st_row {h : List zC} (hS : Stc h) {i : Nat} (hi : i < 6) : gF h 18 i = some (.ref (19 + i)) := hS.2 (18, i, 19 + i) (by
  have : ∀ i, i < 6 → (18, i, 19 + i) ∈ stL := by decide
  exact this i hi)
theorem st_mrow {h : List zC} (hS : Stc h) {i : Nat} (hi : i < 6) : gF h 215 i = some (.ref (216 + i)) := hS.2 (215, i, 216 + i) (by
  have : ∀ i, i < 6 → (215, i, 216 + i) ∈ stL := by decide
  exact this i hi)
theorem Stc.row {h h' : List zC} (hS : Stc h) {i b : Nat} {v : Value} (hi : i < 6) (H : hPut h h' (19 + i) b v) : Stc h' := hS.put H (stL_no (fun p => decide (19 ≤ p) && decide (p < 25)) (by decide) (by simp; omega))
theorem Stc.mrow {h h' : List zC} (hS : Stc h) {i b : Nat} {v : Value} (hi : i < 6) (H : hPut h h' (216 + i) b v) : Stc h' := hS.put H (stL_no (fun p => decide (216 ≤ p) && decide (p < 222)) (by decide) (by simp; omega))
/-- one swap in the row q -/
abbrev wSw (h h2 : List zC) (q a b : Nat) (r : Value) : Prop := ∃ (x y z : Int32) (h1 : List zC), gF h q a = some (.int x) ∧ gF h q b = some (.int y) ∧ hPut h h1 q a (.int y) ∧ hPut h1 h2 q b (.int x) ∧ gF h2 q a = some (.int z) ∧ r = .int z
theorem in6_y {x : Int32} (h : ¬ inB x 0 5 = 0) : iN 6 x := by
  obtain ⟨h1, h2⟩ := inB_y h
  have z5 : (5 : Int32).toInt = 5 := rfl
  have z0 : (0 : Int32).toInt = 0 := rfl
  exact ⟨by omega, by omega⟩
theorem in6_n {x : Int32} (h : inB x 0 5 = 0) : ¬ iN 6 x := fun ⟨h1, h2⟩ => inB_n h (by
  have z5 : (5 : Int32).toInt = 5 := rfl
  have z0 : (0 : Int32).toInt = 0 := rfl
  omega)
/-! ===== values: disputes, days ===== -/
/-- the facts as they are, of those that are said (k of them looked at) -/
def rfF (w : Nat → Int32) (f : Int32) : Nat → Int32
  | 0 => 0
  | k + 1 => if f >>> (Int32.ofNat k &&& 31) &&& 1 = 1 then rfF w f k ||| 1 <<< (w k &&& 31) else rfF w f k
theorem rfF_same {w v : Nat → Int32} {f : Int32} {n : Nat} (h : ∀ k, k < n → w k = v k) : ∀ k, k ≤ n → rfF w f k = rfF v f k
  | 0, _ => rfl
  | k + 1, hk => by
    unfold rfF
    rw [rfF_same h k (by omega), h k (by omega)]
theorem rfF_y {w : Nat → Int32} {f : Int32} {k : Nat} (h : f >>> (Int32.ofNat k &&& 31) &&& 1 = 1) : rfF w f (k + 1) = rfF w f k ||| 1 <<< (w k &&& 31) := by
  conv => lhs; unfold rfF
  rw [if_pos h]
theorem rfF_n {w : Nat → Int32} {f : Int32} {k : Nat} (h : ¬ f >>> (Int32.ofNat k &&& 31) &&& 1 = 1) : rfF w f (k + 1) = rfF w f k := by
  conv => lhs; unfold rfF
  rw [if_neg h]
theorem st_16_8 {h : List zC} (hS : Stc h) : gF h 16 8 = some (.ref 27) := hS.2 (16, 8, 27) (by decide +kernel)
theorem st_213_8 {h : List zC} (hS : Stc h) : gF h 213 8 = some (.ref 224) := hS.2 (213, 8, 224) (by decide +kernel)
theorem st_case {h : List zC} (hS : Stc h) {i : Nat} (hi : i < 24) : gF h 27 i = some (.ref (189 + i)) := hS.2 (27, i, 189 + i) (by
  have : ∀ i, i < 24 → (27, i, 189 + i) ∈ stL := by decide +kernel
  exact this i hi)
/-- but one cell without pointers is written -/
theorem Stc.one {h h2 : List zC} {P : Nat} (hS : Stc h) (hl : h2.length = h.length) (e : ∀ q k, ¬ q = P → gF h2 q k = gF h q k) (hP : stL.all (fun e => !(e.1 == P)) = true) : Stc h2 := by
  refine ⟨by rw [hl]; exact hS.1, fun x hx => ?_⟩
  have q := List.all_eq_true.mp hP x hx
  have q : ¬ x.1 = P := by simpa using q
  rw [e _ _ q]
  exact hS.2 x hx
theorem stL_case {i : Nat} (hi : i < 24) : stL.all (fun e => !(e.1 == 189 + i)) = true := by
  have : ∀ i, i < 24 → stL.all (fun e => !(e.1 == 189 + i)) = true := by decide +kernel
  exact this i hi
def okD (p q r m f a g day cnt : Int32) : Prop := (iN 6 p ∧ iN 6 q ∧ iN 4 r ∧ iN 4 m) ∧ (rI 0 63 f ∧ rI 0 999 a ∧ rI 0 day g) ∧ cnt.toInt < 24
/-- a dispute of the class' is told: its cell is P -/
def DM (h h2 : List zC) (P : Nat) (cnt p q r m f a d : Int32) : Prop := (∀ x k, ¬ x = P → ¬ (x = 16 ∧ k = 3) → gF h2 x k = gF h x k) ∧ gF h2 16 3 = some (.int (cnt + 1)) ∧ (gF h2 P 0 = some (.int p) ∧ gF h2 P 1 = some (.int q) ∧ gF h2 P 2 = some (.int r) ∧ gF h2 P 3 = some (.int m) ∧ gF h2 P 4 = some (.int f) ∧ gF h2 P 5 = some (.int a) ∧ gF h2 P 6 = some (.int d)) ∧
  gF h2 P 7 = gF h P 7 ∧ gF h2 P 8 = gF h P 8 ∧ h2.length = h.length ∧ ∀ x, gT h2 x = gT h x ∧ gN h2 x = gN h x
/-- a new case of the reference's -/
def IC (h h2 : List zC) (q : Nat) (p q2 r m f a d : Int32) : Prop := (∀ x k, ¬ x = q → gF h2 x k = gF h x k) ∧ (gF h2 q 0 = some (.int p) ∧ gF h2 q 1 = some (.int q2) ∧ gF h2 q 2 = some (.int r) ∧ gF h2 q 3 = some (.int m) ∧ gF h2 q 4 = some (.int f) ∧ gF h2 q 5 = some (.int a) ∧ gF h2 q 6 = some (.int d) ∧ gF h2 q 7 = some (.int (-1)) ∧ gF h2 q 8 = some (.int (-1))) ∧
  h2.length = h.length ∧ ∀ x, gT h2 x = gT h x ∧ gN h2 x = gN h x
/-- the reference's list of cases has one more -/
def MC (h h2 : List zC) (lc : Nat) (cnt p q2 r m f a d : Int32) : Prop := ∃ q lc' : Nat, h.length ≤ q ∧ gF h2 224 1 = some (.ref lc') ∧ gF h2 224 2 = some (.int (cnt + 1)) ∧ (∀ k, k < cnt.toNatClampNeg → gF h2 lc' k = gF h lc k) ∧ gF h2 lc' cnt.toNatClampNeg = some (.ref q) ∧ (lc' = lc ∨ h.length ≤ lc') ∧ ¬ q = lc' ∧
  (gF h2 q 0 = some (.int p) ∧ gF h2 q 1 = some (.int q2) ∧ gF h2 q 2 = some (.int r) ∧ gF h2 q 3 = some (.int m) ∧ gF h2 q 4 = some (.int f) ∧ gF h2 q 5 = some (.int a) ∧ gF h2 q 6 = some (.int d) ∧ gF h2 q 7 = some (.int (-1)) ∧ gF h2 q 8 = some (.int (-1))) ∧
  ¬ cnt < 0 ∧ ∀ x k, x < h.length → ¬ x = 224 → ¬ x = lc → ¬ (x = 213 ∧ k = 0) → gF h2 x k = gF h x k
theorem mc_end {h k0 k1 i1 h2 : List zC} {lc : Nat} {cnt p q2 r m f a d : Int32} {v : Value} {cc : zC} (hl : 239 ≤ h.length) (hel : lc < h.length) (h213 : ¬ lc = 213) (t0 : hPut h k0 213 0 v) (g : vNew k0 k1 cc) (im : IC k1 i1 k0.length p q2 r m f a d) (ad : lAdd i1 h2 224 lc cnt k0.length) : MC h h2 lc cnt p q2 r m f a d := by
  obtain ⟨a1, a2, a3, el', a4, a5, a6, a7, a8, a9, a10⟩ := ad
  obtain ⟨i2, i3, i6, i7⟩ := im
  have l0 := t0.1
  have l1 := g.len
  have key : ∀ x k, x < h.length → gF i1 x k = if x = 213 ∧ k = 0 then some v else gF h x k := fun x k hx => by
    rw [i2 x k (by omega), g.ext.fld (by omega), t0.2.1]
  have fq : ∀ k, gF h2 k0.length k = gF i1 k0.length k := fun k => a9 _ (by omega) (by omega) (by omega) k
  refine ⟨k0.length, el', by omega, a4, a5, fun k hk => ?_, a7, ?_, ?_, ?_, a1, fun x k hx x1 x2 x3 => ?_⟩
  · rw [a6 k hk, key lc k hel, if_neg (fun z => h213 z.1)]
  · rcases a8 with a8 | a8
    · exact Or.inl a8
    · exact Or.inr (by omega)
  · rcases a8 with a8 | a8 <;> omega
  · simp only [fq]
    exact i3
  · rw [a9 x (by omega) x1 x2, key x k hx, if_neg x3]
/-! ===== values: what is held ===== -/
theorem st_16_4 {h : List zC} (hS : Stc h) : gF h 16 4 = some (.ref 17) := hS.2 (16, 4, 17) (by decide +kernel)
theorem st_16_7 {h : List zC} (hS : Stc h) : gF h 16 7 = some (.ref 26) := hS.2 (16, 7, 26) (by decide +kernel)
theorem st_16_13 {h : List zC} (hS : Stc h) : gF h 16 13 = some (.ref 185) := hS.2 (16, 13, 185) (by decide +kernel)
theorem st_185_0 {h : List zC} (hS : Stc h) : gF h 185 0 = some (.ref 186) := hS.2 (185, 0, 186) (by decide +kernel)
theorem st_213_4 {h : List zC} (hS : Stc h) : gF h 213 4 = some (.ref 214) := hS.2 (213, 4, 214) (by decide +kernel)
/-- how many people hold x -/
def pwF (t w : Nat → Int32) (x : Int32) : Nat → Int32
  | 0 => 0
  | k + 1 => if t k = x then pwF t w x k + w k else pwF t w x k
theorem pwF_y {t w : Nat → Int32} {x : Int32} {k : Nat} (h : t k = x) : pwF t w x (k + 1) = pwF t w x k + w k := by
  conv => lhs; unfold pwF
  rw [if_pos h]
theorem pwF_n {t w : Nat → Int32} {x : Int32} {k : Nat} (h : ¬ t k = x) : pwF t w x (k + 1) = pwF t w x k := by
  conv => lhs; unfold pwF
  rw [if_neg h]
/-- the most people and what they hold -/
def mhF (t w : Nat → Int32) : Nat → Int32 × Int32
  | 0 => (0, -1)
  | k + 1 => if ¬ t k < 0 ∧ ((mhF t w k).1 < pwF t w (t k) 6 ∨ pwF t w (t k) 6 = (mhF t w k).1 ∧ t k < (mhF t w k).2) then (pwF t w (t k) 6, t k) else mhF t w k
theorem mhF_y {t w : Nat → Int32} {k : Nat} (h : ¬ t k < 0 ∧ ((mhF t w k).1 < pwF t w (t k) 6 ∨ pwF t w (t k) 6 = (mhF t w k).1 ∧ t k < (mhF t w k).2)) : mhF t w (k + 1) = (pwF t w (t k) 6, t k) := by
  conv => lhs; unfold mhF
  rw [if_pos h]
theorem mhF_n {t w : Nat → Int32} {k : Nat} (h : ¬ (¬ t k < 0 ∧ ((mhF t w k).1 < pwF t w (t k) 6 ∨ pwF t w (t k) 6 = (mhF t w k).1 ∧ t k < (mhF t w k).2))) : mhF t w (k + 1) = mhF t w k := by
  conv => lhs; unfold mhF
  rw [if_neg h]
/-- the relation of the people -/
def qRp (h : List zC) : Prop := ∀ i, i < 6 → ∃ x : Int32, gF h 17 i = some (.int x) ∧ gF h 214 i = some (.int x) ∧ rI 1 99 x
/-- what a parish's customs tell, on the class' side, of a probe -/
def tCu (h : List zC) (cnt m r f a d : Int32) (i : Nat) : Int32 := (cuC (dC h (Int32.ofNat i) m r f a d) cnt.toNatClampNeg).1
theorem dC_same {h h2 : List zC} {p m r f a d : Int32} (e : ∀ k x, k < 40 → gF h2 (31 + k) x = gF h (31 + k) x) : ∀ k, k < 40 → dC h2 p m r f a d k = dC h p m r f a d k := fun k hk => by
  unfold dC
  have e2 : iv h2 (31 + k) = iv h (31 + k) := funext (fun x => iv_eq (e k x hk))
  rw [e2]
theorem cuC_same {D E : Nat → Option (Int32 × Int32)} {n : Nat} (h : ∀ k, k < n → D k = E k) : ∀ k, k ≤ n → cuC D k = cuC E k
  | 0, _ => rfl
  | k + 1, hk => by
    unfold cuC
    rw [cuC_same h k (by omega), h k (by omega)]
/-- what is asked of held: 0 what most hold, 1 how many, 2 how many clash, 3 how many have none -/
def hdF (t w : Nat → Int32) (y : Int32) : Int32 := if y.toInt = 0 then (mhF t w 6).2 else if y.toInt = 1 then (if (mhF t w 6).2 = -1 then 0 else pwF t w (mhF t w 6).2 6) else if y.toInt = 2 then pwF t w (-2) 6 else pwF t w (-1) 6
theorem stL_186 : stL.all (fun e => !(e.1 == 186)) = true := by decide +kernel
theorem stL_26 : stL.all (fun e => !(e.1 == 26)) = true := by decide +kernel
theorem v_r_lt {k : Nat} {c : Int32} (h : k < c.toNatClampNeg) (h40 : c.toInt ≤ 40) : k < 40 := by
  have h : k < c.toInt.toNat := h
  omega
def okH (m r f a y : Int32) : Prop := (iN 4 m ∧ iN 4 r) ∧ rI 0 63 f ∧ rI 0 999 a ∧ rI 0 3 y
/-- the same on the reference's side -/
def tMu (h : List zC) (el : Nat) (cnt m r f a d : Int32) (i : Nat) : Int32 := (cuM (dM h el (Int32.ofNat i) m r f a d) cnt.toNatClampNeg).1
theorem stV_eq {h k : List zC} {q : Nat} (e : ∀ x, gF k q x = gF h q x) : stV k q = stV h q := by
  unfold stV
  rw [iv_eq (e 3), iv_eq (e 4), iv_eq (e 6)]
theorem dM_same {h h2 : List zC} {el : Nat} {p m r f a d : Int32} {k : Nat} (e1 : gF h2 el k = gF h el k) (e2 : ∀ x, gF h2 (rf h el k) x = gF h (rf h el k) x) : dM h2 el p m r f a d k = dM h el p m r f a d k := by
  have e3 : rf h2 el k = rf h el k := by
    unfold rf
    rw [e1]
  have e4 : iv h2 (rf h el k) = iv h (rf h el k) := funext (fun x => iv_eq (e2 x))
  have e5 : mR h2 (rf h el k) = mR h (rf h el k) := by
    unfold mR
    rw [e4]
  unfold dM
  rw [e3, e4, e5, stV_eq e2]
/-- the row of sums -/
def byc (t w : Nat → Int32) : Nat → Nat → Int32
  | 0, _ => 0
  | k + 1, i => if (3 + t k).toNatClampNeg = i then byc t w k i + w k else byc t w k i
theorem byc_y {t w : Nat → Int32} {k i : Nat} (h : (3 + t k).toNatClampNeg = i) : byc t w (k + 1) i = byc t w k i + w k := by
  conv => lhs; unfold byc
  rw [if_pos h]
theorem byc_n {t w : Nat → Int32} {k i : Nat} (h : ¬ (3 + t k).toNatClampNeg = i) : byc t w (k + 1) i = byc t w k i := by
  conv => lhs; unfold byc
  rw [if_neg h]
/-- the first share that most hold, of those below k -/
def bsF (c : Nat → Int32) : Nat → Int32
  | 0 => -1
  | k + 1 => if (if bsF c k = -1 then 0 else c (3 + bsF c k).toNatClampNeg) < c (3 + Int32.ofNat k).toNatClampNeg then Int32.ofNat k else bsF c k
theorem bsF_y {c : Nat → Int32} {k : Nat} (h : (if bsF c k = -1 then 0 else c (3 + bsF c k).toNatClampNeg) < c (3 + Int32.ofNat k).toNatClampNeg) : bsF c (k + 1) = Int32.ofNat k := by
  conv => lhs; unfold bsF
  rw [if_pos h]
theorem bsF_n {c : Nat → Int32} {k : Nat} (h : ¬ (if bsF c k = -1 then 0 else c (3 + bsF c k).toNatClampNeg) < c (3 + Int32.ofNat k).toNatClampNeg) : bsF c (k + 1) = bsF c k := by
  conv => lhs; unfold bsF
  rw [if_neg h]
def hnF (c : Nat → Int32) (y : Int32) : Int32 := if y.toInt = 0 then bsF c 101 else if y.toInt = 1 then (if bsF c 101 = -1 then 0 else c (3 + bsF c 101).toNatClampNeg) else if y.toInt = 2 then c 1 else c 2
theorem gF_len {h : List zC} {p k l : Nat} {v : Value} (e : gF h p k = some v) (n : gN h p = some l) : k < l := by
  unfold gF at e
  unfold gN at n
  cases c : h[p]? with
  | none => rw [c] at e; cases e
  | some x =>
    rw [c] at e n
    cases n
    exact (List.getElem?_eq_some_iff.mp e).1
theorem vr_19_0 : zrx 19 0 = some (.iconst (-1), 0, 0) := by decide +kernel
theorem vr_19_1 : zrx 19 1 = some (.istore 4, 0, 0) := by decide +kernel
theorem vr_19_3 : zrx 19 3 = some (.iconst 0, 0, 0) := by decide +kernel
theorem vr_19_4 : zrx 19 4 = some (.istore 5, 0, 0) := by decide +kernel
theorem vr_19_6 : zrx 19 6 = some (.iconst 0, 0, 0) := by decide +kernel
theorem vr_19_7 : zrx 19 7 = some (.istore 6, 0, 0) := by decide +kernel
theorem vr_19_9 : zrx 19 9 = some (.iload 6, 0, 0) := by decide +kernel
theorem vr_19_11 : zrx 19 11 = some (.aload_n 0, 0, 0) := by decide +kernel
theorem vr_19_12 : zrx 19 12 = some (.getfield 22, 6, 2) := by decide +kernel
theorem vr_19_15 : zrx 19 15 = some (.if_icmp .ge 91, 0, 0) := by decide +kernel
theorem vr_19_18 : zrx 19 18 = some (.aload_n 0, 0, 0) := by decide +kernel
theorem vr_19_19 : zrx 19 19 = some (.getfield 11, 6, 0) := by decide +kernel
theorem vr_19_22 : zrx 19 22 = some (.iload 6, 0, 0) := by decide +kernel
theorem vr_19_24 : zrx 19 24 = some (.aaload, 0, 0) := by decide +kernel
theorem vr_19_25 : zrx 19 25 = some (.astore 7, 0, 0) := by decide +kernel
theorem vr_19_27 : zrx 19 27 = some (.aload 7, 0, 0) := by decide +kernel
theorem vr_19_29 : zrx 19 29 = some (.getfield 26, 12, 0) := by decide +kernel
theorem vr_19_32 : zrx 19 32 = some (.iload_n 1, 0, 0) := by decide +kernel
theorem vr_19_33 : zrx 19 33 = some (.if_icmp .ne 67, 0, 0) := by decide +kernel
theorem vr_19_36 : zrx 19 36 = some (.aload 7, 0, 0) := by decide +kernel
theorem vr_19_38 : zrx 19 38 = some (.aload_n 2, 0, 0) := by decide +kernel
theorem vr_19_39 : zrx 19 39 = some (.iload_n 3, 0, 0) := by decide +kernel
theorem vr_19_40 : zrx 19 40 = some (.invokevirtual 29, 55, 130) := by decide +kernel
theorem vr_19_43 : zrx 19 43 = some (.ifCond .ne 6, 0, 0) := by decide +kernel
theorem vr_19_46 : zrx 19 46 = some (.goto 54, 0, 0) := by decide +kernel
theorem vr_19_49 : zrx 19 49 = some (.aload 7, 0, 0) := by decide +kernel
theorem vr_19_51 : zrx 19 51 = some (.getfield 33, 12, 10) := by decide +kernel
theorem vr_19_54 : zrx 19 54 = some (.iload 5, 0, 0) := by decide +kernel
theorem vr_19_56 : zrx 19 56 = some (.if_icmp .le 20, 0, 0) := by decide +kernel
theorem vr_19_59 : zrx 19 59 = some (.aload 7, 0, 0) := by decide +kernel
theorem vr_19_61 : zrx 19 61 = some (.getfield 33, 12, 10) := by decide +kernel
theorem vr_19_64 : zrx 19 64 = some (.istore 5, 0, 0) := by decide +kernel
theorem vr_19_66 : zrx 19 66 = some (.aload 7, 0, 0) := by decide +kernel
theorem vr_19_68 : zrx 19 68 = some (.getfield 36, 12, 5) := by decide +kernel
theorem vr_19_71 : zrx 19 71 = some (.istore 4, 0, 0) := by decide +kernel
theorem vr_19_73 : zrx 19 73 = some (.goto 27, 0, 0) := by decide +kernel
theorem vr_19_76 : zrx 19 76 = some (.aload 7, 0, 0) := by decide +kernel
theorem vr_19_78 : zrx 19 78 = some (.getfield 33, 12, 10) := by decide +kernel
theorem vr_19_81 : zrx 19 81 = some (.iload 5, 0, 0) := by decide +kernel
theorem vr_19_83 : zrx 19 83 = some (.if_icmp .ne 17, 0, 0) := by decide +kernel
theorem vr_19_86 : zrx 19 86 = some (.iload 4, 0, 0) := by decide +kernel
theorem vr_19_88 : zrx 19 88 = some (.aload 7, 0, 0) := by decide +kernel
theorem vr_19_90 : zrx 19 90 = some (.getfield 36, 12, 5) := by decide +kernel
theorem vr_19_93 : zrx 19 93 = some (.if_icmp .eq 7, 0, 0) := by decide +kernel
theorem vr_19_96 : zrx 19 96 = some (.bipush (-2), 0, 0) := by decide +kernel
theorem vr_19_98 : zrx 19 98 = some (.istore 4, 0, 0) := by decide +kernel
theorem vr_19_100 : zrx 19 100 = some (.iinc 6 1, 0, 0) := by decide +kernel
theorem vr_19_103 : zrx 19 103 = some (.goto (-94), 0, 0) := by decide +kernel
theorem vr_19_106 : zrx 19 106 = some (.iload 4, 0, 0) := by decide +kernel
theorem vr_19_108 : zrx 19 108 = some (.ireturn, 0, 0) := by decide +kernel
theorem vr_55_0 : zrx 55 0 = some (.aload_n 1, 0, 0) := by decide +kernel
theorem vr_55_1 : zrx 55 1 = some (.getfield 18, 7, 3) := by decide +kernel
theorem vr_55_4 : zrx 55 4 = some (.aload_n 0, 0, 0) := by decide +kernel
theorem vr_55_5 : zrx 55 5 = some (.getfield 23, 12, 1) := by decide +kernel
theorem vr_55_8 : zrx 55 8 = some (.if_icmp .ne 80, 0, 0) := by decide +kernel
theorem vr_55_11 : zrx 55 11 = some (.aload_n 0, 0, 0) := by decide +kernel
theorem vr_55_12 : zrx 55 12 = some (.getfield 24, 12, 2) := by decide +kernel
theorem vr_55_15 : zrx 55 15 = some (.aload_n 1, 0, 0) := by decide +kernel
theorem vr_55_16 : zrx 55 16 = some (.getfield 27, 7, 2) := by decide +kernel
theorem vr_55_19 : zrx 55 19 = some (.ishr, 0, 0) := by decide +kernel
theorem vr_55_20 : zrx 55 20 = some (.iconst 1, 0, 0) := by decide +kernel
theorem vr_55_21 : zrx 55 21 = some (.iand, 0, 0) := by decide +kernel
theorem vr_55_22 : zrx 55 22 = some (.iconst 1, 0, 0) := by decide +kernel
theorem vr_55_23 : zrx 55 23 = some (.if_icmp .ne 65, 0, 0) := by decide +kernel
theorem vr_55_26 : zrx 55 26 = some (.aload_n 1, 0, 0) := by decide +kernel
theorem vr_55_27 : zrx 55 27 = some (.getfield 30, 7, 4) := by decide +kernel
theorem vr_55_30 : zrx 55 30 = some (.aload_n 0, 0, 0) := by decide +kernel
theorem vr_55_31 : zrx 55 31 = some (.getfield 33, 12, 3) := by decide +kernel
theorem vr_55_34 : zrx 55 34 = some (.iand, 0, 0) := by decide +kernel
theorem vr_55_35 : zrx 55 35 = some (.aload_n 0, 0, 0) := by decide +kernel
theorem vr_55_36 : zrx 55 36 = some (.getfield 33, 12, 3) := by decide +kernel
theorem vr_55_39 : zrx 55 39 = some (.if_icmp .ne 49, 0, 0) := by decide +kernel
theorem vr_55_42 : zrx 55 42 = some (.aload_n 1, 0, 0) := by decide +kernel
theorem vr_55_43 : zrx 55 43 = some (.getfield 30, 7, 4) := by decide +kernel
theorem vr_55_46 : zrx 55 46 = some (.aload_n 0, 0, 0) := by decide +kernel
theorem vr_55_47 : zrx 55 47 = some (.getfield 36, 12, 4) := by decide +kernel
theorem vr_55_50 : zrx 55 50 = some (.iand, 0, 0) := by decide +kernel
theorem vr_55_51 : zrx 55 51 = some (.ifCond .ne 37, 0, 0) := by decide +kernel
theorem vr_55_54 : zrx 55 54 = some (.aload_n 1, 0, 0) := by decide +kernel
theorem vr_55_55 : zrx 55 55 = some (.getfield 39, 7, 5) := by decide +kernel
theorem vr_55_58 : zrx 55 58 = some (.aload_n 0, 0, 0) := by decide +kernel
theorem vr_55_59 : zrx 55 59 = some (.getfield 9, 12, 7) := by decide +kernel
theorem vr_55_62 : zrx 55 62 = some (.if_icmp .lt 26, 0, 0) := by decide +kernel
theorem vr_55_65 : zrx 55 65 = some (.aload_n 1, 0, 0) := by decide +kernel
theorem vr_55_66 : zrx 55 66 = some (.getfield 39, 7, 5) := by decide +kernel
theorem vr_55_69 : zrx 55 69 = some (.aload_n 0, 0, 0) := by decide +kernel
theorem vr_55_70 : zrx 55 70 = some (.getfield 15, 12, 8) := by decide +kernel
theorem vr_55_73 : zrx 55 73 = some (.if_icmp .gt 15, 0, 0) := by decide +kernel
theorem vr_55_76 : zrx 55 76 = some (.iload_n 2, 0, 0) := by decide +kernel
theorem vr_55_77 : zrx 55 77 = some (.aload_n 0, 0, 0) := by decide +kernel
theorem vr_55_78 : zrx 55 78 = some (.getfield 42, 12, 9) := by decide +kernel
theorem vr_55_81 : zrx 55 81 = some (.if_icmp .lt 7, 0, 0) := by decide +kernel
theorem vr_55_84 : zrx 55 84 = some (.iconst 1, 0, 0) := by decide +kernel
theorem vr_55_85 : zrx 55 85 = some (.goto 4, 0, 0) := by decide +kernel
theorem vr_55_88 : zrx 55 88 = some (.iconst 0, 0, 0) := by decide +kernel
theorem vr_55_89 : zrx 55 89 = some (.ireturn, 0, 0) := by decide +kernel
theorem vr_57_0 : zrx 57 0 = some (.iload_n 1, 0, 0) := by decide +kernel
theorem vr_57_1 : zrx 57 1 = some (.bipush 6, 0, 0) := by decide +kernel
theorem vr_57_3 : zrx 57 3 = some (.invokestatic 68, 96, 0) := by decide +kernel
theorem vr_57_6 : zrx 57 6 = some (.iload_n 2, 0, 0) := by decide +kernel
theorem vr_57_7 : zrx 57 7 = some (.iconst 1, 0, 0) := by decide +kernel
theorem vr_57_8 : zrx 57 8 = some (.bipush 99, 0, 0) := by decide +kernel
theorem vr_57_10 : zrx 57 10 = some (.invokestatic 72, 97, 0) := by decide +kernel
theorem vr_57_13 : zrx 57 13 = some (.aload_n 0, 0, 0) := by decide +kernel
theorem vr_57_14 : zrx 57 14 = some (.getfield 9, 13, 4) := by decide +kernel
theorem vr_57_17 : zrx 57 17 = some (.iload_n 1, 0, 0) := by decide +kernel
theorem vr_57_18 : zrx 57 18 = some (.iaload, 0, 0) := by decide +kernel
theorem vr_57_19 : zrx 57 19 = some (.istore_n 3, 0, 0) := by decide +kernel
theorem vr_57_20 : zrx 57 20 = some (.aload_n 0, 0, 0) := by decide +kernel
theorem vr_57_21 : zrx 57 21 = some (.getfield 9, 13, 4) := by decide +kernel
theorem vr_57_24 : zrx 57 24 = some (.iload_n 1, 0, 0) := by decide +kernel
theorem vr_57_25 : zrx 57 25 = some (.iload_n 2, 0, 0) := by decide +kernel
theorem vr_57_26 : zrx 57 26 = some (.iastore, 0, 0) := by decide +kernel
theorem vr_57_27 : zrx 57 27 = some (.iload_n 3, 0, 0) := by decide +kernel
theorem vr_57_28 : zrx 57 28 = some (.ireturn, 0, 0) := by decide +kernel
theorem vr_58_0 : zrx 58 0 = some (.iload_n 1, 0, 0) := by decide +kernel
theorem vr_58_1 : zrx 58 1 = some (.bipush 6, 0, 0) := by decide +kernel
theorem vr_58_3 : zrx 58 3 = some (.invokestatic 68, 96, 0) := by decide +kernel
theorem vr_58_6 : zrx 58 6 = some (.iload_n 2, 0, 0) := by decide +kernel
theorem vr_58_7 : zrx 58 7 = some (.iconst 0, 0, 0) := by decide +kernel
theorem vr_58_8 : zrx 58 8 = some (.iconst 5, 0, 0) := by decide +kernel
theorem vr_58_9 : zrx 58 9 = some (.invokestatic 72, 97, 0) := by decide +kernel
theorem vr_58_12 : zrx 58 12 = some (.iload_n 3, 0, 0) := by decide +kernel
theorem vr_58_13 : zrx 58 13 = some (.iconst 0, 0, 0) := by decide +kernel
theorem vr_58_14 : zrx 58 14 = some (.iconst 5, 0, 0) := by decide +kernel
theorem vr_58_15 : zrx 58 15 = some (.invokestatic 72, 97, 0) := by decide +kernel
theorem vr_58_18 : zrx 58 18 = some (.aload_n 0, 0, 0) := by decide +kernel
theorem vr_58_19 : zrx 58 19 = some (.getfield 15, 13, 5) := by decide +kernel
theorem vr_58_22 : zrx 58 22 = some (.iload_n 1, 0, 0) := by decide +kernel
theorem vr_58_23 : zrx 58 23 = some (.aaload, 0, 0) := by decide +kernel
theorem vr_58_24 : zrx 58 24 = some (.iload_n 2, 0, 0) := by decide +kernel
theorem vr_58_25 : zrx 58 25 = some (.iaload, 0, 0) := by decide +kernel
theorem vr_58_26 : zrx 58 26 = some (.istore 4, 0, 0) := by decide +kernel
theorem vr_58_28 : zrx 58 28 = some (.aload_n 0, 0, 0) := by decide +kernel
theorem vr_58_29 : zrx 58 29 = some (.getfield 15, 13, 5) := by decide +kernel
theorem vr_58_32 : zrx 58 32 = some (.iload_n 1, 0, 0) := by decide +kernel
theorem vr_58_33 : zrx 58 33 = some (.aaload, 0, 0) := by decide +kernel
theorem vr_58_34 : zrx 58 34 = some (.iload_n 2, 0, 0) := by decide +kernel
theorem vr_58_35 : zrx 58 35 = some (.aload_n 0, 0, 0) := by decide +kernel
theorem vr_58_36 : zrx 58 36 = some (.getfield 15, 13, 5) := by decide +kernel
theorem vr_58_39 : zrx 58 39 = some (.iload_n 1, 0, 0) := by decide +kernel
theorem vr_58_40 : zrx 58 40 = some (.aaload, 0, 0) := by decide +kernel
theorem vr_58_41 : zrx 58 41 = some (.iload_n 3, 0, 0) := by decide +kernel
theorem vr_58_42 : zrx 58 42 = some (.iaload, 0, 0) := by decide +kernel
theorem vr_58_43 : zrx 58 43 = some (.iastore, 0, 0) := by decide +kernel
theorem vr_58_44 : zrx 58 44 = some (.aload_n 0, 0, 0) := by decide +kernel
theorem vr_58_45 : zrx 58 45 = some (.getfield 15, 13, 5) := by decide +kernel
theorem vr_58_48 : zrx 58 48 = some (.iload_n 1, 0, 0) := by decide +kernel
theorem vr_58_49 : zrx 58 49 = some (.aaload, 0, 0) := by decide +kernel
theorem vr_58_50 : zrx 58 50 = some (.iload_n 3, 0, 0) := by decide +kernel
theorem vr_58_51 : zrx 58 51 = some (.iload 4, 0, 0) := by decide +kernel
theorem vr_58_53 : zrx 58 53 = some (.iastore, 0, 0) := by decide +kernel
theorem vr_58_54 : zrx 58 54 = some (.aload_n 0, 0, 0) := by decide +kernel
theorem vr_58_55 : zrx 58 55 = some (.getfield 15, 13, 5) := by decide +kernel
theorem vr_58_58 : zrx 58 58 = some (.iload_n 1, 0, 0) := by decide +kernel
theorem vr_58_59 : zrx 58 59 = some (.aaload, 0, 0) := by decide +kernel
theorem vr_58_60 : zrx 58 60 = some (.iload_n 2, 0, 0) := by decide +kernel
theorem vr_58_61 : zrx 58 61 = some (.iaload, 0, 0) := by decide +kernel
theorem vr_58_62 : zrx 58 62 = some (.ireturn, 0, 0) := by decide +kernel
theorem vr_60_0 : zrx 60 0 = some (.iload_n 1, 0, 0) := by decide +kernel
theorem vr_60_1 : zrx 60 1 = some (.bipush 6, 0, 0) := by decide +kernel
theorem vr_60_3 : zrx 60 3 = some (.invokestatic 68, 96, 0) := by decide +kernel
theorem vr_60_6 : zrx 60 6 = some (.iload_n 2, 0, 0) := by decide +kernel
theorem vr_60_7 : zrx 60 7 = some (.iconst 4, 0, 0) := by decide +kernel
theorem vr_60_8 : zrx 60 8 = some (.invokestatic 68, 96, 0) := by decide +kernel
theorem vr_60_11 : zrx 60 11 = some (.iload_n 3, 0, 0) := by decide +kernel
theorem vr_60_12 : zrx 60 12 = some (.iconst 1, 0, 0) := by decide +kernel
theorem vr_60_13 : zrx 60 13 = some (.bipush 15, 0, 0) := by decide +kernel
theorem vr_60_15 : zrx 60 15 = some (.invokestatic 72, 97, 0) := by decide +kernel
theorem vr_60_18 : zrx 60 18 = some (.iload 4, 0, 0) := by decide +kernel
theorem vr_60_20 : zrx 60 20 = some (.iconst 0, 0, 0) := by decide +kernel
theorem vr_60_21 : zrx 60 21 = some (.bipush 63, 0, 0) := by decide +kernel
theorem vr_60_23 : zrx 60 23 = some (.invokestatic 72, 97, 0) := by decide +kernel
theorem vr_60_26 : zrx 60 26 = some (.iload 5, 0, 0) := by decide +kernel
theorem vr_60_28 : zrx 60 28 = some (.iconst 0, 0, 0) := by decide +kernel
theorem vr_60_29 : zrx 60 29 = some (.bipush 63, 0, 0) := by decide +kernel
theorem vr_60_31 : zrx 60 31 = some (.invokestatic 72, 97, 0) := by decide +kernel
theorem vr_60_34 : zrx 60 34 = some (.iload 4, 0, 0) := by decide +kernel
theorem vr_60_36 : zrx 60 36 = some (.iload 5, 0, 0) := by decide +kernel
theorem vr_60_38 : zrx 60 38 = some (.iand, 0, 0) := by decide +kernel
theorem vr_60_39 : zrx 60 39 = some (.iconst 0, 0, 0) := by decide +kernel
theorem vr_60_40 : zrx 60 40 = some (.iconst 0, 0, 0) := by decide +kernel
theorem vr_60_41 : zrx 60 41 = some (.invokestatic 72, 97, 0) := by decide +kernel
theorem vr_60_44 : zrx 60 44 = some (.iload 6, 0, 0) := by decide +kernel
theorem vr_60_46 : zrx 60 46 = some (.iconst 0, 0, 0) := by decide +kernel
theorem vr_60_47 : zrx 60 47 = some (.bipush 100, 0, 0) := by decide +kernel
theorem vr_60_49 : zrx 60 49 = some (.invokestatic 72, 97, 0) := by decide +kernel
theorem vr_60_52 : zrx 60 52 = some (.iload 7, 0, 0) := by decide +kernel
theorem vr_60_54 : zrx 60 54 = some (.iconst 1, 0, 0) := by decide +kernel
theorem vr_60_55 : zrx 60 55 = some (.iconst 5, 0, 0) := by decide +kernel
theorem vr_60_56 : zrx 60 56 = some (.invokestatic 72, 97, 0) := by decide +kernel
theorem vr_60_59 : zrx 60 59 = some (.aload_n 0, 0, 0) := by decide +kernel
theorem vr_60_60 : zrx 60 60 = some (.getfield 33, 13, 9) := by decide +kernel
theorem vr_60_63 : zrx 60 63 = some (.getfield 79, 6, 2) := by decide +kernel
theorem vr_60_66 : zrx 60 66 = some (.bipush 40, 0, 0) := by decide +kernel
theorem vr_60_68 : zrx 60 68 = some (.if_icmp .ge 7, 0, 0) := by decide +kernel
theorem vr_60_71 : zrx 60 71 = some (.iconst 1, 0, 0) := by decide +kernel
theorem vr_60_72 : zrx 60 72 = some (.goto 4, 0, 0) := by decide +kernel
theorem vr_60_75 : zrx 60 75 = some (.iconst 0, 0, 0) := by decide +kernel
theorem vr_60_76 : zrx 60 76 = some (.invokestatic 83, 98, 0) := by decide +kernel
theorem vr_60_79 : zrx 60 79 = some (.aload_n 0, 0, 0) := by decide +kernel
theorem vr_60_80 : zrx 60 80 = some (.getfield 33, 13, 9) := by decide +kernel
theorem vr_60_83 : zrx 60 83 = some (.getfield 87, 6, 0) := by decide +kernel
theorem vr_60_86 : zrx 60 86 = some (.aload_n 0, 0, 0) := by decide +kernel
theorem vr_60_87 : zrx 60 87 = some (.getfield 33, 13, 9) := by decide +kernel
theorem vr_60_90 : zrx 60 90 = some (.getfield 79, 6, 2) := by decide +kernel
theorem vr_60_93 : zrx 60 93 = some (.aaload, 0, 0) := by decide +kernel
theorem vr_60_94 : zrx 60 94 = some (.astore 8, 0, 0) := by decide +kernel
theorem vr_60_96 : zrx 60 96 = some (.aload 8, 0, 0) := by decide +kernel
theorem vr_60_98 : zrx 60 98 = some (.iload_n 1, 0, 0) := by decide +kernel
theorem vr_60_99 : zrx 60 99 = some (.putfield 91, 12, 0) := by decide +kernel
theorem vr_60_102 : zrx 60 102 = some (.aload 8, 0, 0) := by decide +kernel
theorem vr_60_104 : zrx 60 104 = some (.iload_n 2, 0, 0) := by decide +kernel
theorem vr_60_105 : zrx 60 105 = some (.putfield 96, 12, 1) := by decide +kernel
theorem vr_60_108 : zrx 60 108 = some (.aload 8, 0, 0) := by decide +kernel
theorem vr_60_110 : zrx 60 110 = some (.iload_n 3, 0, 0) := by decide +kernel
theorem vr_60_111 : zrx 60 111 = some (.putfield 99, 12, 2) := by decide +kernel
theorem vr_60_114 : zrx 60 114 = some (.aload 8, 0, 0) := by decide +kernel
theorem vr_60_116 : zrx 60 116 = some (.iload 4, 0, 0) := by decide +kernel
theorem vr_60_118 : zrx 60 118 = some (.putfield 102, 12, 3) := by decide +kernel
theorem vr_60_121 : zrx 60 121 = some (.aload 8, 0, 0) := by decide +kernel
theorem vr_60_123 : zrx 60 123 = some (.iload 5, 0, 0) := by decide +kernel
theorem vr_60_125 : zrx 60 125 = some (.putfield 105, 12, 4) := by decide +kernel
theorem vr_60_128 : zrx 60 128 = some (.aload 8, 0, 0) := by decide +kernel
theorem vr_60_130 : zrx 60 130 = some (.iload 6, 0, 0) := by decide +kernel
theorem vr_60_132 : zrx 60 132 = some (.putfield 108, 12, 5) := by decide +kernel
theorem vr_60_135 : zrx 60 135 = some (.aload 8, 0, 0) := by decide +kernel
theorem vr_60_137 : zrx 60 137 = some (.iload 7, 0, 0) := by decide +kernel
theorem vr_60_139 : zrx 60 139 = some (.putfield 111, 12, 6) := by decide +kernel
theorem vr_60_142 : zrx 60 142 = some (.aload 8, 0, 0) := by decide +kernel
theorem vr_60_144 : zrx 60 144 = some (.bipush 10, 0, 0) := by decide +kernel
theorem vr_60_146 : zrx 60 146 = some (.iload 4, 0, 0) := by decide +kernel
theorem vr_60_148 : zrx 60 148 = some (.iload 5, 0, 0) := by decide +kernel
theorem vr_60_150 : zrx 60 150 = some (.ior, 0, 0) := by decide +kernel
theorem vr_60_151 : zrx 60 151 = some (.invokestatic 114, 260, 0) := by decide +kernel
theorem vr_60_154 : zrx 60 154 = some (.imul, 0, 0) := by decide +kernel
theorem vr_60_155 : zrx 60 155 = some (.iload 7, 0, 0) := by decide +kernel
theorem vr_60_157 : zrx 60 157 = some (.iadd, 0, 0) := by decide +kernel
theorem vr_60_158 : zrx 60 158 = some (.putfield 120, 12, 10) := by decide +kernel
theorem vr_60_161 : zrx 60 161 = some (.aload 8, 0, 0) := by decide +kernel
theorem vr_60_163 : zrx 60 163 = some (.aload_n 0, 0, 0) := by decide +kernel
theorem vr_60_164 : zrx 60 164 = some (.getfield 123, 13, 0) := by decide +kernel
theorem vr_60_167 : zrx 60 167 = some (.putfield 126, 12, 9) := by decide +kernel
theorem vr_60_170 : zrx 60 170 = some (.aload_n 0, 0, 0) := by decide +kernel
theorem vr_60_171 : zrx 60 171 = some (.getfield 33, 13, 9) := by decide +kernel
theorem vr_60_174 : zrx 60 174 = some (.dup, 0, 0) := by decide +kernel
theorem vr_60_175 : zrx 60 175 = some (.getfield 79, 6, 2) := by decide +kernel
theorem vr_60_178 : zrx 60 178 = some (.iconst 1, 0, 0) := by decide +kernel
theorem vr_60_179 : zrx 60 179 = some (.iadd, 0, 0) := by decide +kernel
theorem vr_60_180 : zrx 60 180 = some (.putfield 79, 6, 2) := by decide +kernel
theorem vr_60_183 : zrx 60 183 = some (.aload_n 0, 0, 0) := by decide +kernel
theorem vr_60_184 : zrx 60 184 = some (.getfield 33, 13, 9) := by decide +kernel
theorem vr_60_187 : zrx 60 187 = some (.getfield 79, 6, 2) := by decide +kernel
theorem vr_60_190 : zrx 60 190 = some (.iconst 1, 0, 0) := by decide +kernel
theorem vr_60_191 : zrx 60 191 = some (.isub, 0, 0) := by decide +kernel
theorem vr_60_192 : zrx 60 192 = some (.ireturn, 0, 0) := by decide +kernel
theorem vr_61_0 : zrx 61 0 = some (.iload_n 1, 0, 0) := by decide +kernel
theorem vr_61_1 : zrx 61 1 = some (.aload_n 0, 0, 0) := by decide +kernel
theorem vr_61_2 : zrx 61 2 = some (.getfield 33, 13, 9) := by decide +kernel
theorem vr_61_5 : zrx 61 5 = some (.getfield 79, 6, 2) := by decide +kernel
theorem vr_61_8 : zrx 61 8 = some (.invokestatic 68, 96, 0) := by decide +kernel
theorem vr_61_11 : zrx 61 11 = some (.iload_n 2, 0, 0) := by decide +kernel
theorem vr_61_12 : zrx 61 12 = some (.iconst 0, 0, 0) := by decide +kernel
theorem vr_61_13 : zrx 61 13 = some (.sipush 999, 0, 0) := by decide +kernel
theorem vr_61_16 : zrx 61 16 = some (.invokestatic 72, 97, 0) := by decide +kernel
theorem vr_61_19 : zrx 61 19 = some (.iload_n 3, 0, 0) := by decide +kernel
theorem vr_61_20 : zrx 61 20 = some (.iload_n 2, 0, 0) := by decide +kernel
theorem vr_61_21 : zrx 61 21 = some (.sipush 999, 0, 0) := by decide +kernel
theorem vr_61_24 : zrx 61 24 = some (.invokestatic 72, 97, 0) := by decide +kernel
theorem vr_61_27 : zrx 61 27 = some (.aload_n 0, 0, 0) := by decide +kernel
theorem vr_61_28 : zrx 61 28 = some (.getfield 33, 13, 9) := by decide +kernel
theorem vr_61_31 : zrx 61 31 = some (.getfield 87, 6, 0) := by decide +kernel
theorem vr_61_34 : zrx 61 34 = some (.iload_n 1, 0, 0) := by decide +kernel
theorem vr_61_35 : zrx 61 35 = some (.aaload, 0, 0) := by decide +kernel
theorem vr_61_36 : zrx 61 36 = some (.iload_n 2, 0, 0) := by decide +kernel
theorem vr_61_37 : zrx 61 37 = some (.putfield 129, 12, 7) := by decide +kernel
theorem vr_61_40 : zrx 61 40 = some (.aload_n 0, 0, 0) := by decide +kernel
theorem vr_61_41 : zrx 61 41 = some (.getfield 33, 13, 9) := by decide +kernel
theorem vr_61_44 : zrx 61 44 = some (.getfield 87, 6, 0) := by decide +kernel
theorem vr_61_47 : zrx 61 47 = some (.iload_n 1, 0, 0) := by decide +kernel
theorem vr_61_48 : zrx 61 48 = some (.aaload, 0, 0) := by decide +kernel
theorem vr_61_49 : zrx 61 49 = some (.iload_n 3, 0, 0) := by decide +kernel
theorem vr_61_50 : zrx 61 50 = some (.putfield 132, 12, 8) := by decide +kernel
theorem vr_61_53 : zrx 61 53 = some (.aload_n 0, 0, 0) := by decide +kernel
theorem vr_61_54 : zrx 61 54 = some (.getfield 33, 13, 9) := by decide +kernel
theorem vr_61_57 : zrx 61 57 = some (.getfield 87, 6, 0) := by decide +kernel
theorem vr_61_60 : zrx 61 60 = some (.iload_n 1, 0, 0) := by decide +kernel
theorem vr_61_61 : zrx 61 61 = some (.aaload, 0, 0) := by decide +kernel
theorem vr_61_62 : zrx 61 62 = some (.getfield 120, 12, 10) := by decide +kernel
theorem vr_61_65 : zrx 61 65 = some (.ireturn, 0, 0) := by decide +kernel
theorem vr_62_0 : zrx 62 0 = some (.iload_n 1, 0, 0) := by decide +kernel
theorem vr_62_1 : zrx 62 1 = some (.bipush 6, 0, 0) := by decide +kernel
theorem vr_62_3 : zrx 62 3 = some (.invokestatic 68, 96, 0) := by decide +kernel
theorem vr_62_6 : zrx 62 6 = some (.iload_n 2, 0, 0) := by decide +kernel
theorem vr_62_7 : zrx 62 7 = some (.bipush 6, 0, 0) := by decide +kernel
theorem vr_62_9 : zrx 62 9 = some (.invokestatic 68, 96, 0) := by decide +kernel
theorem vr_62_12 : zrx 62 12 = some (.iload_n 3, 0, 0) := by decide +kernel
theorem vr_62_13 : zrx 62 13 = some (.iconst 4, 0, 0) := by decide +kernel
theorem vr_62_14 : zrx 62 14 = some (.invokestatic 68, 96, 0) := by decide +kernel
theorem vr_62_17 : zrx 62 17 = some (.iload 4, 0, 0) := by decide +kernel
theorem vr_62_19 : zrx 62 19 = some (.iconst 4, 0, 0) := by decide +kernel
theorem vr_62_20 : zrx 62 20 = some (.invokestatic 68, 96, 0) := by decide +kernel
theorem vr_62_23 : zrx 62 23 = some (.iload 5, 0, 0) := by decide +kernel
theorem vr_62_25 : zrx 62 25 = some (.iconst 0, 0, 0) := by decide +kernel
theorem vr_62_26 : zrx 62 26 = some (.bipush 63, 0, 0) := by decide +kernel
theorem vr_62_28 : zrx 62 28 = some (.invokestatic 72, 97, 0) := by decide +kernel
theorem vr_62_31 : zrx 62 31 = some (.iload 6, 0, 0) := by decide +kernel
theorem vr_62_33 : zrx 62 33 = some (.iconst 0, 0, 0) := by decide +kernel
theorem vr_62_34 : zrx 62 34 = some (.sipush 999, 0, 0) := by decide +kernel
theorem vr_62_37 : zrx 62 37 = some (.invokestatic 72, 97, 0) := by decide +kernel
theorem vr_62_40 : zrx 62 40 = some (.iload 7, 0, 0) := by decide +kernel
theorem vr_62_42 : zrx 62 42 = some (.iconst 0, 0, 0) := by decide +kernel
theorem vr_62_43 : zrx 62 43 = some (.aload_n 0, 0, 0) := by decide +kernel
theorem vr_62_44 : zrx 62 44 = some (.getfield 123, 13, 0) := by decide +kernel
theorem vr_62_47 : zrx 62 47 = some (.invokestatic 72, 97, 0) := by decide +kernel
theorem vr_62_50 : zrx 62 50 = some (.aload_n 0, 0, 0) := by decide +kernel
theorem vr_62_51 : zrx 62 51 = some (.getfield 135, 13, 3) := by decide +kernel
theorem vr_62_54 : zrx 62 54 = some (.bipush 24, 0, 0) := by decide +kernel
theorem vr_62_56 : zrx 62 56 = some (.if_icmp .ge 7, 0, 0) := by decide +kernel
theorem vr_62_59 : zrx 62 59 = some (.iconst 1, 0, 0) := by decide +kernel
theorem vr_62_60 : zrx 62 60 = some (.goto 4, 0, 0) := by decide +kernel
theorem vr_62_63 : zrx 62 63 = some (.iconst 0, 0, 0) := by decide +kernel
theorem vr_62_64 : zrx 62 64 = some (.invokestatic 83, 98, 0) := by decide +kernel
theorem vr_62_67 : zrx 62 67 = some (.aload_n 0, 0, 0) := by decide +kernel
theorem vr_62_68 : zrx 62 68 = some (.getfield 26, 13, 8) := by decide +kernel
theorem vr_62_71 : zrx 62 71 = some (.aload_n 0, 0, 0) := by decide +kernel
theorem vr_62_72 : zrx 62 72 = some (.getfield 135, 13, 3) := by decide +kernel
theorem vr_62_75 : zrx 62 75 = some (.aaload, 0, 0) := by decide +kernel
theorem vr_62_76 : zrx 62 76 = some (.astore 8, 0, 0) := by decide +kernel
theorem vr_62_78 : zrx 62 78 = some (.aload 8, 0, 0) := by decide +kernel
theorem vr_62_80 : zrx 62 80 = some (.iload_n 1, 0, 0) := by decide +kernel
theorem vr_62_81 : zrx 62 81 = some (.putfield 138, 7, 0) := by decide +kernel
theorem vr_62_84 : zrx 62 84 = some (.aload 8, 0, 0) := by decide +kernel
theorem vr_62_86 : zrx 62 86 = some (.iload_n 2, 0, 0) := by decide +kernel
theorem vr_62_87 : zrx 62 87 = some (.putfield 141, 7, 1) := by decide +kernel
theorem vr_62_90 : zrx 62 90 = some (.aload 8, 0, 0) := by decide +kernel
theorem vr_62_92 : zrx 62 92 = some (.iload_n 3, 0, 0) := by decide +kernel
theorem vr_62_93 : zrx 62 93 = some (.putfield 144, 7, 2) := by decide +kernel
theorem vr_62_96 : zrx 62 96 = some (.aload 8, 0, 0) := by decide +kernel
theorem vr_62_98 : zrx 62 98 = some (.iload 4, 0, 0) := by decide +kernel
theorem vr_62_100 : zrx 62 100 = some (.putfield 147, 7, 3) := by decide +kernel
theorem vr_62_103 : zrx 62 103 = some (.aload 8, 0, 0) := by decide +kernel
theorem vr_62_105 : zrx 62 105 = some (.aload_n 0, 0, 0) := by decide +kernel
theorem vr_62_106 : zrx 62 106 = some (.iload_n 1, 0, 0) := by decide +kernel
theorem vr_62_107 : zrx 62 107 = some (.iload 5, 0, 0) := by decide +kernel
theorem vr_62_109 : zrx 62 109 = some (.invokevirtual 148, 99, 140) := by decide +kernel
theorem vr_62_112 : zrx 62 112 = some (.putfield 152, 7, 4) := by decide +kernel
theorem vr_62_115 : zrx 62 115 = some (.aload 8, 0, 0) := by decide +kernel
theorem vr_62_117 : zrx 62 117 = some (.iload 6, 0, 0) := by decide +kernel
theorem vr_62_119 : zrx 62 119 = some (.putfield 155, 7, 5) := by decide +kernel
theorem vr_62_122 : zrx 62 122 = some (.aload 8, 0, 0) := by decide +kernel
theorem vr_62_124 : zrx 62 124 = some (.aload_n 0, 0, 0) := by decide +kernel
theorem vr_62_125 : zrx 62 125 = some (.getfield 123, 13, 0) := by decide +kernel
theorem vr_62_128 : zrx 62 128 = some (.iload 7, 0, 0) := by decide +kernel
theorem vr_62_130 : zrx 62 130 = some (.isub, 0, 0) := by decide +kernel
theorem vr_62_131 : zrx 62 131 = some (.putfield 158, 7, 6) := by decide +kernel
theorem vr_62_134 : zrx 62 134 = some (.aload_n 0, 0, 0) := by decide +kernel
theorem vr_62_135 : zrx 62 135 = some (.dup, 0, 0) := by decide +kernel
theorem vr_62_136 : zrx 62 136 = some (.getfield 135, 13, 3) := by decide +kernel
theorem vr_62_139 : zrx 62 139 = some (.iconst 1, 0, 0) := by decide +kernel
theorem vr_62_140 : zrx 62 140 = some (.iadd, 0, 0) := by decide +kernel
theorem vr_62_141 : zrx 62 141 = some (.putfield 135, 13, 3) := by decide +kernel
theorem vr_62_144 : zrx 62 144 = some (.aload_n 0, 0, 0) := by decide +kernel
theorem vr_62_145 : zrx 62 145 = some (.getfield 135, 13, 3) := by decide +kernel
theorem vr_62_148 : zrx 62 148 = some (.iconst 1, 0, 0) := by decide +kernel
theorem vr_62_149 : zrx 62 149 = some (.isub, 0, 0) := by decide +kernel
theorem vr_62_150 : zrx 62 150 = some (.ireturn, 0, 0) := by decide +kernel
theorem vr_75_0 : zrx 75 0 = some (.iload_n 1, 0, 0) := by decide +kernel
theorem vr_75_1 : zrx 75 1 = some (.iconst 1, 0, 0) := by decide +kernel
theorem vr_75_2 : zrx 75 2 = some (.sipush 400, 0, 0) := by decide +kernel
theorem vr_75_5 : zrx 75 5 = some (.invokestatic 72, 97, 0) := by decide +kernel
theorem vr_75_8 : zrx 75 8 = some (.aload_n 0, 0, 0) := by decide +kernel
theorem vr_75_9 : zrx 75 9 = some (.getfield 123, 13, 0) := by decide +kernel
theorem vr_75_12 : zrx 75 12 = some (.iload_n 1, 0, 0) := by decide +kernel
theorem vr_75_13 : zrx 75 13 = some (.iadd, 0, 0) := by decide +kernel
theorem vr_75_14 : zrx 75 14 = some (.sipush 3000, 0, 0) := by decide +kernel
theorem vr_75_17 : zrx 75 17 = some (.if_icmp .gt 7, 0, 0) := by decide +kernel
theorem vr_75_20 : zrx 75 20 = some (.iconst 1, 0, 0) := by decide +kernel
theorem vr_75_21 : zrx 75 21 = some (.goto 4, 0, 0) := by decide +kernel
theorem vr_75_24 : zrx 75 24 = some (.iconst 0, 0, 0) := by decide +kernel
theorem vr_75_25 : zrx 75 25 = some (.invokestatic 83, 98, 0) := by decide +kernel
theorem vr_75_28 : zrx 75 28 = some (.aload_n 0, 0, 0) := by decide +kernel
theorem vr_75_29 : zrx 75 29 = some (.dup, 0, 0) := by decide +kernel
theorem vr_75_30 : zrx 75 30 = some (.getfield 123, 13, 0) := by decide +kernel
theorem vr_75_33 : zrx 75 33 = some (.iload_n 1, 0, 0) := by decide +kernel
theorem vr_75_34 : zrx 75 34 = some (.iadd, 0, 0) := by decide +kernel
theorem vr_75_35 : zrx 75 35 = some (.putfield 123, 13, 0) := by decide +kernel
theorem vr_75_38 : zrx 75 38 = some (.aload_n 0, 0, 0) := by decide +kernel
theorem vr_75_39 : zrx 75 39 = some (.getfield 123, 13, 0) := by decide +kernel
theorem vr_75_42 : zrx 75 42 = some (.ireturn, 0, 0) := by decide +kernel
theorem vr_77_0 : zrx 77 0 = some (.iload_n 1, 0, 0) := by decide +kernel
theorem vr_77_1 : zrx 77 1 = some (.bipush 6, 0, 0) := by decide +kernel
theorem vr_77_3 : zrx 77 3 = some (.invokestatic 68, 96, 0) := by decide +kernel
theorem vr_77_6 : zrx 77 6 = some (.iload_n 2, 0, 0) := by decide +kernel
theorem vr_77_7 : zrx 77 7 = some (.bipush 6, 0, 0) := by decide +kernel
theorem vr_77_9 : zrx 77 9 = some (.invokestatic 68, 96, 0) := by decide +kernel
theorem vr_77_12 : zrx 77 12 = some (.aload_n 0, 0, 0) := by decide +kernel
theorem vr_77_13 : zrx 77 13 = some (.getfield 15, 13, 5) := by decide +kernel
theorem vr_77_16 : zrx 77 16 = some (.iload_n 1, 0, 0) := by decide +kernel
theorem vr_77_17 : zrx 77 17 = some (.aaload, 0, 0) := by decide +kernel
theorem vr_77_18 : zrx 77 18 = some (.iload_n 2, 0, 0) := by decide +kernel
theorem vr_77_19 : zrx 77 19 = some (.iaload, 0, 0) := by decide +kernel
theorem vr_77_20 : zrx 77 20 = some (.ireturn, 0, 0) := by decide +kernel
theorem vr_87_0 : zrx 87 0 = some (.iload_n 1, 0, 0) := by decide +kernel
theorem vr_87_1 : zrx 87 1 = some (.iconst 4, 0, 0) := by decide +kernel
theorem vr_87_2 : zrx 87 2 = some (.invokestatic 68, 96, 0) := by decide +kernel
theorem vr_87_5 : zrx 87 5 = some (.iload_n 2, 0, 0) := by decide +kernel
theorem vr_87_6 : zrx 87 6 = some (.iconst 4, 0, 0) := by decide +kernel
theorem vr_87_7 : zrx 87 7 = some (.invokestatic 68, 96, 0) := by decide +kernel
theorem vr_87_10 : zrx 87 10 = some (.iload_n 3, 0, 0) := by decide +kernel
theorem vr_87_11 : zrx 87 11 = some (.iconst 0, 0, 0) := by decide +kernel
theorem vr_87_12 : zrx 87 12 = some (.bipush 63, 0, 0) := by decide +kernel
theorem vr_87_14 : zrx 87 14 = some (.invokestatic 72, 97, 0) := by decide +kernel
theorem vr_87_17 : zrx 87 17 = some (.iload 4, 0, 0) := by decide +kernel
theorem vr_87_19 : zrx 87 19 = some (.iconst 0, 0, 0) := by decide +kernel
theorem vr_87_20 : zrx 87 20 = some (.sipush 999, 0, 0) := by decide +kernel
theorem vr_87_23 : zrx 87 23 = some (.invokestatic 72, 97, 0) := by decide +kernel
theorem vr_87_26 : zrx 87 26 = some (.iload 5, 0, 0) := by decide +kernel
theorem vr_87_28 : zrx 87 28 = some (.iconst 0, 0, 0) := by decide +kernel
theorem vr_87_29 : zrx 87 29 = some (.iconst 3, 0, 0) := by decide +kernel
theorem vr_87_30 : zrx 87 30 = some (.invokestatic 72, 97, 0) := by decide +kernel
theorem vr_87_33 : zrx 87 33 = some (.aload_n 0, 0, 0) := by decide +kernel
theorem vr_87_34 : zrx 87 34 = some (.iload_n 1, 0, 0) := by decide +kernel
theorem vr_87_35 : zrx 87 35 = some (.iload_n 2, 0, 0) := by decide +kernel
theorem vr_87_36 : zrx 87 36 = some (.iload_n 3, 0, 0) := by decide +kernel
theorem vr_87_37 : zrx 87 37 = some (.iload 4, 0, 0) := by decide +kernel
theorem vr_87_39 : zrx 87 39 = some (.invokevirtual 316, 107, 140) := by decide +kernel
theorem vr_87_42 : zrx 87 42 = some (.iload 5, 0, 0) := by decide +kernel
theorem vr_87_44 : zrx 87 44 = some (.tableswitch 61 0 2 #[28, 33, 54], 0, 0) := by decide +kernel
theorem vr_87_72 : zrx 87 72 = some (.aload_n 0, 0, 0) := by decide +kernel
theorem vr_87_73 : zrx 87 73 = some (.invokevirtual 320, 108, 140) := by decide +kernel
theorem vr_87_76 : zrx 87 76 = some (.ireturn, 0, 0) := by decide +kernel
theorem vr_87_77 : zrx 87 77 = some (.aload_n 0, 0, 0) := by decide +kernel
theorem vr_87_78 : zrx 87 78 = some (.invokevirtual 320, 108, 140) := by decide +kernel
theorem vr_87_81 : zrx 87 81 = some (.iconst (-1), 0, 0) := by decide +kernel
theorem vr_87_82 : zrx 87 82 = some (.if_icmp .ne 7, 0, 0) := by decide +kernel
theorem vr_87_85 : zrx 87 85 = some (.iconst 0, 0, 0) := by decide +kernel
theorem vr_87_86 : zrx 87 86 = some (.goto 11, 0, 0) := by decide +kernel
theorem vr_87_89 : zrx 87 89 = some (.aload_n 0, 0, 0) := by decide +kernel
theorem vr_87_90 : zrx 87 90 = some (.aload_n 0, 0, 0) := by decide +kernel
theorem vr_87_91 : zrx 87 91 = some (.invokevirtual 320, 108, 140) := by decide +kernel
theorem vr_87_94 : zrx 87 94 = some (.invokevirtual 323, 109, 140) := by decide +kernel
theorem vr_87_97 : zrx 87 97 = some (.ireturn, 0, 0) := by decide +kernel
theorem vr_87_98 : zrx 87 98 = some (.aload_n 0, 0, 0) := by decide +kernel
theorem vr_87_99 : zrx 87 99 = some (.bipush (-2), 0, 0) := by decide +kernel
theorem vr_87_101 : zrx 87 101 = some (.invokevirtual 323, 109, 140) := by decide +kernel
theorem vr_87_104 : zrx 87 104 = some (.ireturn, 0, 0) := by decide +kernel
theorem vr_87_105 : zrx 87 105 = some (.aload_n 0, 0, 0) := by decide +kernel
theorem vr_87_106 : zrx 87 106 = some (.iconst (-1), 0, 0) := by decide +kernel
theorem vr_87_107 : zrx 87 107 = some (.invokevirtual 323, 109, 140) := by decide +kernel
theorem vr_87_110 : zrx 87 110 = some (.ireturn, 0, 0) := by decide +kernel
theorem vr_99_0 : zrx 99 0 = some (.iconst 0, 0, 0) := by decide +kernel
theorem vr_99_1 : zrx 99 1 = some (.istore_n 3, 0, 0) := by decide +kernel
theorem vr_99_2 : zrx 99 2 = some (.iconst 0, 0, 0) := by decide +kernel
theorem vr_99_3 : zrx 99 3 = some (.istore 4, 0, 0) := by decide +kernel
theorem vr_99_5 : zrx 99 5 = some (.iload 4, 0, 0) := by decide +kernel
theorem vr_99_7 : zrx 99 7 = some (.bipush 6, 0, 0) := by decide +kernel
theorem vr_99_9 : zrx 99 9 = some (.if_icmp .ge 33, 0, 0) := by decide +kernel
theorem vr_99_12 : zrx 99 12 = some (.iload_n 2, 0, 0) := by decide +kernel
theorem vr_99_13 : zrx 99 13 = some (.iload 4, 0, 0) := by decide +kernel
theorem vr_99_15 : zrx 99 15 = some (.ishr, 0, 0) := by decide +kernel
theorem vr_99_16 : zrx 99 16 = some (.iconst 1, 0, 0) := by decide +kernel
theorem vr_99_17 : zrx 99 17 = some (.iand, 0, 0) := by decide +kernel
theorem vr_99_18 : zrx 99 18 = some (.iconst 1, 0, 0) := by decide +kernel
theorem vr_99_19 : zrx 99 19 = some (.if_icmp .ne 17, 0, 0) := by decide +kernel
theorem vr_99_22 : zrx 99 22 = some (.iload_n 3, 0, 0) := by decide +kernel
theorem vr_99_23 : zrx 99 23 = some (.iconst 1, 0, 0) := by decide +kernel
theorem vr_99_24 : zrx 99 24 = some (.aload_n 0, 0, 0) := by decide +kernel
theorem vr_99_25 : zrx 99 25 = some (.getfield 15, 13, 5) := by decide +kernel
theorem vr_99_28 : zrx 99 28 = some (.iload_n 1, 0, 0) := by decide +kernel
theorem vr_99_29 : zrx 99 29 = some (.aaload, 0, 0) := by decide +kernel
theorem vr_99_30 : zrx 99 30 = some (.iload 4, 0, 0) := by decide +kernel
theorem vr_99_32 : zrx 99 32 = some (.iaload, 0, 0) := by decide +kernel
theorem vr_99_33 : zrx 99 33 = some (.ishl, 0, 0) := by decide +kernel
theorem vr_99_34 : zrx 99 34 = some (.ior, 0, 0) := by decide +kernel
theorem vr_99_35 : zrx 99 35 = some (.istore_n 3, 0, 0) := by decide +kernel
theorem vr_99_36 : zrx 99 36 = some (.iinc 4 1, 0, 0) := by decide +kernel
theorem vr_99_39 : zrx 99 39 = some (.goto (-34), 0, 0) := by decide +kernel
theorem vr_99_42 : zrx 99 42 = some (.iload_n 3, 0, 0) := by decide +kernel
theorem vr_99_43 : zrx 99 43 = some (.ireturn, 0, 0) := by decide +kernel
theorem vr_107_0 : zrx 107 0 = some (.aload_n 0, 0, 0) := by decide +kernel
theorem vr_107_1 : zrx 107 1 = some (.getfield 63, 13, 13) := by decide +kernel
theorem vr_107_4 : zrx 107 4 = some (.getfield 303, 10, 0) := by decide +kernel
theorem vr_107_7 : zrx 107 7 = some (.astore 5, 0, 0) := by decide +kernel
theorem vr_107_9 : zrx 107 9 = some (.aload 5, 0, 0) := by decide +kernel
theorem vr_107_11 : zrx 107 11 = some (.iload_n 1, 0, 0) := by decide +kernel
theorem vr_107_12 : zrx 107 12 = some (.putfield 147, 7, 3) := by decide +kernel
theorem vr_107_15 : zrx 107 15 = some (.aload 5, 0, 0) := by decide +kernel
theorem vr_107_17 : zrx 107 17 = some (.iload_n 2, 0, 0) := by decide +kernel
theorem vr_107_18 : zrx 107 18 = some (.putfield 144, 7, 2) := by decide +kernel
theorem vr_107_21 : zrx 107 21 = some (.aload 5, 0, 0) := by decide +kernel
theorem vr_107_23 : zrx 107 23 = some (.iload_n 3, 0, 0) := by decide +kernel
theorem vr_107_24 : zrx 107 24 = some (.putfield 152, 7, 4) := by decide +kernel
theorem vr_107_27 : zrx 107 27 = some (.aload 5, 0, 0) := by decide +kernel
theorem vr_107_29 : zrx 107 29 = some (.iload 4, 0, 0) := by decide +kernel
theorem vr_107_31 : zrx 107 31 = some (.putfield 155, 7, 5) := by decide +kernel
theorem vr_107_34 : zrx 107 34 = some (.iconst 0, 0, 0) := by decide +kernel
theorem vr_107_35 : zrx 107 35 = some (.istore 6, 0, 0) := by decide +kernel
theorem vr_107_37 : zrx 107 37 = some (.iload 6, 0, 0) := by decide +kernel
theorem vr_107_39 : zrx 107 39 = some (.bipush 6, 0, 0) := by decide +kernel
theorem vr_107_41 : zrx 107 41 = some (.if_icmp .ge 31, 0, 0) := by decide +kernel
theorem vr_107_44 : zrx 107 44 = some (.aload_n 0, 0, 0) := by decide +kernel
theorem vr_107_45 : zrx 107 45 = some (.getfield 21, 13, 7) := by decide +kernel
theorem vr_107_48 : zrx 107 48 = some (.iload 6, 0, 0) := by decide +kernel
theorem vr_107_50 : zrx 107 50 = some (.aload_n 0, 0, 0) := by decide +kernel
theorem vr_107_51 : zrx 107 51 = some (.getfield 33, 13, 9) := by decide +kernel
theorem vr_107_54 : zrx 107 54 = some (.iload 6, 0, 0) := by decide +kernel
theorem vr_107_56 : zrx 107 56 = some (.aload 5, 0, 0) := by decide +kernel
theorem vr_107_58 : zrx 107 58 = some (.aload_n 0, 0, 0) := by decide +kernel
theorem vr_107_59 : zrx 107 59 = some (.getfield 123, 13, 0) := by decide +kernel
theorem vr_107_62 : zrx 107 62 = some (.invokevirtual 241, 19, 70) := by decide +kernel
theorem vr_107_65 : zrx 107 65 = some (.iastore, 0, 0) := by decide +kernel
theorem vr_107_66 : zrx 107 66 = some (.iinc 6 1, 0, 0) := by decide +kernel
theorem vr_107_69 : zrx 107 69 = some (.goto (-32), 0, 0) := by decide +kernel
theorem vr_107_72 : zrx 107 72 = some (.return_, 0, 0) := by decide +kernel
theorem vr_108_0 : zrx 108 0 = some (.iconst 0, 0, 0) := by decide +kernel
theorem vr_108_1 : zrx 108 1 = some (.istore_n 1, 0, 0) := by decide +kernel
theorem vr_108_2 : zrx 108 2 = some (.iconst (-1), 0, 0) := by decide +kernel
theorem vr_108_3 : zrx 108 3 = some (.istore_n 2, 0, 0) := by decide +kernel
theorem vr_108_4 : zrx 108 4 = some (.iconst 0, 0, 0) := by decide +kernel
theorem vr_108_5 : zrx 108 5 = some (.istore_n 3, 0, 0) := by decide +kernel
theorem vr_108_6 : zrx 108 6 = some (.iload_n 3, 0, 0) := by decide +kernel
theorem vr_108_7 : zrx 108 7 = some (.bipush 6, 0, 0) := by decide +kernel
theorem vr_108_9 : zrx 108 9 = some (.if_icmp .ge 54, 0, 0) := by decide +kernel
theorem vr_108_12 : zrx 108 12 = some (.aload_n 0, 0, 0) := by decide +kernel
theorem vr_108_13 : zrx 108 13 = some (.getfield 21, 13, 7) := by decide +kernel
theorem vr_108_16 : zrx 108 16 = some (.iload_n 3, 0, 0) := by decide +kernel
theorem vr_108_17 : zrx 108 17 = some (.iaload, 0, 0) := by decide +kernel
theorem vr_108_18 : zrx 108 18 = some (.istore 4, 0, 0) := by decide +kernel
theorem vr_108_20 : zrx 108 20 = some (.aload_n 0, 0, 0) := by decide +kernel
theorem vr_108_21 : zrx 108 21 = some (.iload 4, 0, 0) := by decide +kernel
theorem vr_108_23 : zrx 108 23 = some (.invokevirtual 323, 109, 140) := by decide +kernel
theorem vr_108_26 : zrx 108 26 = some (.istore 5, 0, 0) := by decide +kernel
theorem vr_108_28 : zrx 108 28 = some (.iload 4, 0, 0) := by decide +kernel
theorem vr_108_30 : zrx 108 30 = some (.ifCond .lt 27, 0, 0) := by decide +kernel
theorem vr_108_33 : zrx 108 33 = some (.iload 5, 0, 0) := by decide +kernel
theorem vr_108_35 : zrx 108 35 = some (.iload_n 1, 0, 0) := by decide +kernel
theorem vr_108_36 : zrx 108 36 = some (.if_icmp .gt 15, 0, 0) := by decide +kernel
theorem vr_108_39 : zrx 108 39 = some (.iload 5, 0, 0) := by decide +kernel
theorem vr_108_41 : zrx 108 41 = some (.iload_n 1, 0, 0) := by decide +kernel
theorem vr_108_42 : zrx 108 42 = some (.if_icmp .ne 15, 0, 0) := by decide +kernel
theorem vr_108_45 : zrx 108 45 = some (.iload 4, 0, 0) := by decide +kernel
theorem vr_108_47 : zrx 108 47 = some (.iload_n 2, 0, 0) := by decide +kernel
theorem vr_108_48 : zrx 108 48 = some (.if_icmp .ge 9, 0, 0) := by decide +kernel
theorem vr_108_51 : zrx 108 51 = some (.iload 5, 0, 0) := by decide +kernel
theorem vr_108_53 : zrx 108 53 = some (.istore_n 1, 0, 0) := by decide +kernel
theorem vr_108_54 : zrx 108 54 = some (.iload 4, 0, 0) := by decide +kernel
theorem vr_108_56 : zrx 108 56 = some (.istore_n 2, 0, 0) := by decide +kernel
theorem vr_108_57 : zrx 108 57 = some (.iinc 3 1, 0, 0) := by decide +kernel
theorem vr_108_60 : zrx 108 60 = some (.goto (-54), 0, 0) := by decide +kernel
theorem vr_108_63 : zrx 108 63 = some (.iload_n 2, 0, 0) := by decide +kernel
theorem vr_108_64 : zrx 108 64 = some (.ireturn, 0, 0) := by decide +kernel
theorem vr_109_0 : zrx 109 0 = some (.iconst 0, 0, 0) := by decide +kernel
theorem vr_109_1 : zrx 109 1 = some (.istore_n 2, 0, 0) := by decide +kernel
theorem vr_109_2 : zrx 109 2 = some (.iconst 0, 0, 0) := by decide +kernel
theorem vr_109_3 : zrx 109 3 = some (.istore_n 3, 0, 0) := by decide +kernel
theorem vr_109_4 : zrx 109 4 = some (.iload_n 3, 0, 0) := by decide +kernel
theorem vr_109_5 : zrx 109 5 = some (.bipush 6, 0, 0) := by decide +kernel
theorem vr_109_7 : zrx 109 7 = some (.if_icmp .ge 28, 0, 0) := by decide +kernel
theorem vr_109_10 : zrx 109 10 = some (.aload_n 0, 0, 0) := by decide +kernel
theorem vr_109_11 : zrx 109 11 = some (.getfield 21, 13, 7) := by decide +kernel
theorem vr_109_14 : zrx 109 14 = some (.iload_n 3, 0, 0) := by decide +kernel
theorem vr_109_15 : zrx 109 15 = some (.iaload, 0, 0) := by decide +kernel
theorem vr_109_16 : zrx 109 16 = some (.iload_n 1, 0, 0) := by decide +kernel
theorem vr_109_17 : zrx 109 17 = some (.if_icmp .ne 12, 0, 0) := by decide +kernel
theorem vr_109_20 : zrx 109 20 = some (.iload_n 2, 0, 0) := by decide +kernel
theorem vr_109_21 : zrx 109 21 = some (.aload_n 0, 0, 0) := by decide +kernel
theorem vr_109_22 : zrx 109 22 = some (.getfield 9, 13, 4) := by decide +kernel
theorem vr_109_25 : zrx 109 25 = some (.iload_n 3, 0, 0) := by decide +kernel
theorem vr_109_26 : zrx 109 26 = some (.iaload, 0, 0) := by decide +kernel
theorem vr_109_27 : zrx 109 27 = some (.iadd, 0, 0) := by decide +kernel
theorem vr_109_28 : zrx 109 28 = some (.istore_n 2, 0, 0) := by decide +kernel
theorem vr_109_29 : zrx 109 29 = some (.iinc 3 1, 0, 0) := by decide +kernel
theorem vr_109_32 : zrx 109 32 = some (.goto (-28), 0, 0) := by decide +kernel
theorem vr_109_35 : zrx 109 35 = some (.iload_n 2, 0, 0) := by decide +kernel
theorem vr_109_36 : zrx 109 36 = some (.ireturn, 0, 0) := by decide +kernel
theorem vr_124_0 : zrx 124 0 = some (.aload_n 0, 0, 0) := by decide +kernel
theorem vr_124_1 : zrx 124 1 = some (.invokespecial 3, 0, 6) := by decide +kernel
theorem vr_124_4 : zrx 124 4 = some (.aload_n 0, 0, 0) := by decide +kernel
theorem vr_124_5 : zrx 124 5 = some (.iconst (-1), 0, 0) := by decide +kernel
theorem vr_124_6 : zrx 124 6 = some (.putfield 9, 16, 7) := by decide +kernel
theorem vr_124_9 : zrx 124 9 = some (.aload_n 0, 0, 0) := by decide +kernel
theorem vr_124_10 : zrx 124 10 = some (.iconst (-1), 0, 0) := by decide +kernel
theorem vr_124_11 : zrx 124 11 = some (.putfield 15, 16, 8) := by decide +kernel
theorem vr_124_14 : zrx 124 14 = some (.aload_n 0, 0, 0) := by decide +kernel
theorem vr_124_15 : zrx 124 15 = some (.iload_n 1, 0, 0) := by decide +kernel
theorem vr_124_16 : zrx 124 16 = some (.putfield 18, 16, 0) := by decide +kernel
theorem vr_124_19 : zrx 124 19 = some (.aload_n 0, 0, 0) := by decide +kernel
theorem vr_124_20 : zrx 124 20 = some (.iload_n 2, 0, 0) := by decide +kernel
theorem vr_124_21 : zrx 124 21 = some (.putfield 21, 16, 1) := by decide +kernel
theorem vr_124_24 : zrx 124 24 = some (.aload_n 0, 0, 0) := by decide +kernel
theorem vr_124_25 : zrx 124 25 = some (.iload_n 3, 0, 0) := by decide +kernel
theorem vr_124_26 : zrx 124 26 = some (.putfield 24, 16, 2) := by decide +kernel
theorem vr_124_29 : zrx 124 29 = some (.aload_n 0, 0, 0) := by decide +kernel
theorem vr_124_30 : zrx 124 30 = some (.iload 4, 0, 0) := by decide +kernel
theorem vr_124_32 : zrx 124 32 = some (.putfield 27, 16, 3) := by decide +kernel
theorem vr_124_35 : zrx 124 35 = some (.aload_n 0, 0, 0) := by decide +kernel
theorem vr_124_36 : zrx 124 36 = some (.iload 5, 0, 0) := by decide +kernel
theorem vr_124_38 : zrx 124 38 = some (.putfield 30, 16, 4) := by decide +kernel
theorem vr_124_41 : zrx 124 41 = some (.aload_n 0, 0, 0) := by decide +kernel
theorem vr_124_42 : zrx 124 42 = some (.iload 6, 0, 0) := by decide +kernel
theorem vr_124_44 : zrx 124 44 = some (.putfield 33, 16, 5) := by decide +kernel
theorem vr_124_47 : zrx 124 47 = some (.aload_n 0, 0, 0) := by decide +kernel
theorem vr_124_48 : zrx 124 48 = some (.iload 7, 0, 0) := by decide +kernel
theorem vr_124_50 : zrx 124 50 = some (.putfield 36, 16, 6) := by decide +kernel
theorem vr_124_53 : zrx 124 53 = some (.return_, 0, 0) := by decide +kernel
theorem vr_126_0 : zrx 126 0 = some (.aload_n 0, 0, 0) := by decide +kernel
theorem vr_126_1 : zrx 126 1 = some (.invokespecial 1, 0, 6) := by decide +kernel
theorem vr_126_4 : zrx 126 4 = some (.aload_n 0, 0, 0) := by decide +kernel
theorem vr_126_5 : zrx 126 5 = some (.sipush 999, 0, 0) := by decide +kernel
theorem vr_126_8 : zrx 126 8 = some (.putfield 7, 17, 9) := by decide +kernel
theorem vr_126_11 : zrx 126 11 = some (.aload_n 0, 0, 0) := by decide +kernel
theorem vr_126_12 : zrx 126 12 = some (.iload_n 1, 0, 0) := by decide +kernel
theorem vr_126_13 : zrx 126 13 = some (.putfield 13, 17, 0) := by decide +kernel
theorem vr_126_16 : zrx 126 16 = some (.aload_n 0, 0, 0) := by decide +kernel
theorem vr_126_17 : zrx 126 17 = some (.iload_n 2, 0, 0) := by decide +kernel
theorem vr_126_18 : zrx 126 18 = some (.putfield 16, 17, 1) := by decide +kernel
theorem vr_126_21 : zrx 126 21 = some (.aload_n 0, 0, 0) := by decide +kernel
theorem vr_126_22 : zrx 126 22 = some (.iload_n 3, 0, 0) := by decide +kernel
theorem vr_126_23 : zrx 126 23 = some (.putfield 19, 17, 2) := by decide +kernel
theorem vr_126_26 : zrx 126 26 = some (.aload_n 0, 0, 0) := by decide +kernel
theorem vr_126_27 : zrx 126 27 = some (.iload 4, 0, 0) := by decide +kernel
theorem vr_126_29 : zrx 126 29 = some (.putfield 22, 17, 3) := by decide +kernel
theorem vr_126_32 : zrx 126 32 = some (.aload_n 0, 0, 0) := by decide +kernel
theorem vr_126_33 : zrx 126 33 = some (.iload 5, 0, 0) := by decide +kernel
theorem vr_126_35 : zrx 126 35 = some (.putfield 25, 17, 4) := by decide +kernel
theorem vr_126_38 : zrx 126 38 = some (.aload_n 0, 0, 0) := by decide +kernel
theorem vr_126_39 : zrx 126 39 = some (.iload 6, 0, 0) := by decide +kernel
theorem vr_126_41 : zrx 126 41 = some (.putfield 28, 17, 5) := by decide +kernel
theorem vr_126_44 : zrx 126 44 = some (.aload_n 0, 0, 0) := by decide +kernel
theorem vr_126_45 : zrx 126 45 = some (.iload 7, 0, 0) := by decide +kernel
theorem vr_126_47 : zrx 126 47 = some (.putfield 31, 17, 6) := by decide +kernel
theorem vr_126_50 : zrx 126 50 = some (.aload_n 0, 0, 0) := by decide +kernel
theorem vr_126_51 : zrx 126 51 = some (.iload 8, 0, 0) := by decide +kernel
theorem vr_126_53 : zrx 126 53 = some (.putfield 34, 17, 7) := by decide +kernel
theorem vr_126_56 : zrx 126 56 = some (.return_, 0, 0) := by decide +kernel
theorem vr_127_0 : zrx 127 0 = some (.bipush 10, 0, 0) := by decide +kernel
theorem vr_127_2 : zrx 127 2 = some (.aload_n 0, 0, 0) := by decide +kernel
theorem vr_127_3 : zrx 127 3 = some (.getfield 22, 17, 3) := by decide +kernel
theorem vr_127_6 : zrx 127 6 = some (.invokestatic 37, 134, 1) := by decide +kernel
theorem vr_127_9 : zrx 127 9 = some (.aload_n 0, 0, 0) := by decide +kernel
theorem vr_127_10 : zrx 127 10 = some (.getfield 25, 17, 4) := by decide +kernel
theorem vr_127_13 : zrx 127 13 = some (.invokestatic 37, 134, 1) := by decide +kernel
theorem vr_127_16 : zrx 127 16 = some (.iadd, 0, 0) := by decide +kernel
theorem vr_127_17 : zrx 127 17 = some (.imul, 0, 0) := by decide +kernel
theorem vr_127_18 : zrx 127 18 = some (.aload_n 0, 0, 0) := by decide +kernel
theorem vr_127_19 : zrx 127 19 = some (.getfield 31, 17, 6) := by decide +kernel
theorem vr_127_22 : zrx 127 22 = some (.iadd, 0, 0) := by decide +kernel
theorem vr_127_23 : zrx 127 23 = some (.ireturn, 0, 0) := by decide +kernel
theorem vr_128_0 : zrx 128 0 = some (.aload_n 1, 0, 0) := by decide +kernel
theorem vr_128_1 : zrx 128 1 = some (.getfield 43, 16, 3) := by decide +kernel
theorem vr_128_4 : zrx 128 4 = some (.aload_n 0, 0, 0) := by decide +kernel
theorem vr_128_5 : zrx 128 5 = some (.getfield 16, 17, 1) := by decide +kernel
theorem vr_128_8 : zrx 128 8 = some (.if_icmp .ne 78, 0, 0) := by decide +kernel
theorem vr_128_11 : zrx 128 11 = some (.aload_n 0, 0, 0) := by decide +kernel
theorem vr_128_12 : zrx 128 12 = some (.getfield 19, 17, 2) := by decide +kernel
theorem vr_128_15 : zrx 128 15 = some (.aload_n 1, 0, 0) := by decide +kernel
theorem vr_128_16 : zrx 128 16 = some (.getfield 46, 16, 2) := by decide +kernel
theorem vr_128_19 : zrx 128 19 = some (.invokestatic 49, 133, 1) := by decide +kernel
theorem vr_128_22 : zrx 128 22 = some (.ifCond .eq 64, 0, 0) := by decide +kernel
theorem vr_128_25 : zrx 128 25 = some (.aload_n 1, 0, 0) := by decide +kernel
theorem vr_128_26 : zrx 128 26 = some (.getfield 53, 16, 4) := by decide +kernel
theorem vr_128_29 : zrx 128 29 = some (.aload_n 0, 0, 0) := by decide +kernel
theorem vr_128_30 : zrx 128 30 = some (.getfield 22, 17, 3) := by decide +kernel
theorem vr_128_33 : zrx 128 33 = some (.iand, 0, 0) := by decide +kernel
theorem vr_128_34 : zrx 128 34 = some (.aload_n 0, 0, 0) := by decide +kernel
theorem vr_128_35 : zrx 128 35 = some (.getfield 22, 17, 3) := by decide +kernel
theorem vr_128_38 : zrx 128 38 = some (.if_icmp .ne 48, 0, 0) := by decide +kernel
theorem vr_128_41 : zrx 128 41 = some (.aload_n 1, 0, 0) := by decide +kernel
theorem vr_128_42 : zrx 128 42 = some (.getfield 53, 16, 4) := by decide +kernel
theorem vr_128_45 : zrx 128 45 = some (.aload_n 0, 0, 0) := by decide +kernel
theorem vr_128_46 : zrx 128 46 = some (.getfield 25, 17, 4) := by decide +kernel
theorem vr_128_49 : zrx 128 49 = some (.iand, 0, 0) := by decide +kernel
theorem vr_128_50 : zrx 128 50 = some (.ifCond .ne 36, 0, 0) := by decide +kernel
theorem vr_128_53 : zrx 128 53 = some (.aload_n 1, 0, 0) := by decide +kernel
theorem vr_128_54 : zrx 128 54 = some (.getfield 56, 16, 5) := by decide +kernel
theorem vr_128_57 : zrx 128 57 = some (.aload_n 0, 0, 0) := by decide +kernel
theorem vr_128_58 : zrx 128 58 = some (.getfield 59, 17, 8) := by decide +kernel
theorem vr_128_61 : zrx 128 61 = some (.aload_n 0, 0, 0) := by decide +kernel
theorem vr_128_62 : zrx 128 62 = some (.getfield 7, 17, 9) := by decide +kernel
theorem vr_128_65 : zrx 128 65 = some (.invokestatic 62, 132, 1) := by decide +kernel
theorem vr_128_68 : zrx 128 68 = some (.ifCond .eq 18, 0, 0) := by decide +kernel
theorem vr_128_71 : zrx 128 71 = some (.aload_n 1, 0, 0) := by decide +kernel
theorem vr_128_72 : zrx 128 72 = some (.getfield 66, 16, 6) := by decide +kernel
theorem vr_128_75 : zrx 128 75 = some (.aload_n 0, 0, 0) := by decide +kernel
theorem vr_128_76 : zrx 128 76 = some (.getfield 34, 17, 7) := by decide +kernel
theorem vr_128_79 : zrx 128 79 = some (.if_icmp .lt 7, 0, 0) := by decide +kernel
theorem vr_128_82 : zrx 128 82 = some (.iconst 1, 0, 0) := by decide +kernel
theorem vr_128_83 : zrx 128 83 = some (.goto 4, 0, 0) := by decide +kernel
theorem vr_128_86 : zrx 128 86 = some (.iconst 0, 0, 0) := by decide +kernel
theorem vr_128_87 : zrx 128 87 = some (.ireturn, 0, 0) := by decide +kernel
theorem vr_133_0 : zrx 133 0 = some (.iload_n 0, 0, 0) := by decide +kernel
theorem vr_133_1 : zrx 133 1 = some (.iload_n 1, 0, 0) := by decide +kernel
theorem vr_133_2 : zrx 133 2 = some (.ishr, 0, 0) := by decide +kernel
theorem vr_133_3 : zrx 133 3 = some (.iconst 1, 0, 0) := by decide +kernel
theorem vr_133_4 : zrx 133 4 = some (.iand, 0, 0) := by decide +kernel
theorem vr_133_5 : zrx 133 5 = some (.iconst 1, 0, 0) := by decide +kernel
theorem vr_133_6 : zrx 133 6 = some (.if_icmp .ne 7, 0, 0) := by decide +kernel
theorem vr_133_9 : zrx 133 9 = some (.iconst 1, 0, 0) := by decide +kernel
theorem vr_133_10 : zrx 133 10 = some (.goto 4, 0, 0) := by decide +kernel
theorem vr_133_13 : zrx 133 13 = some (.iconst 0, 0, 0) := by decide +kernel
theorem vr_133_14 : zrx 133 14 = some (.ireturn, 0, 0) := by decide +kernel
theorem vr_134_0 : zrx 134 0 = some (.iconst 0, 0, 0) := by decide +kernel
theorem vr_134_1 : zrx 134 1 = some (.istore_n 1, 0, 0) := by decide +kernel
theorem vr_134_2 : zrx 134 2 = some (.iload_n 0, 0, 0) := by decide +kernel
theorem vr_134_3 : zrx 134 3 = some (.istore_n 2, 0, 0) := by decide +kernel
theorem vr_134_4 : zrx 134 4 = some (.iload_n 2, 0, 0) := by decide +kernel
theorem vr_134_5 : zrx 134 5 = some (.ifCond .le 16, 0, 0) := by decide +kernel
theorem vr_134_8 : zrx 134 8 = some (.iload_n 1, 0, 0) := by decide +kernel
theorem vr_134_9 : zrx 134 9 = some (.iload_n 2, 0, 0) := by decide +kernel
theorem vr_134_10 : zrx 134 10 = some (.iconst 2, 0, 0) := by decide +kernel
theorem vr_134_11 : zrx 134 11 = some (.irem, 0, 0) := by decide +kernel
theorem vr_134_12 : zrx 134 12 = some (.iadd, 0, 0) := by decide +kernel
theorem vr_134_13 : zrx 134 13 = some (.istore_n 1, 0, 0) := by decide +kernel
theorem vr_134_14 : zrx 134 14 = some (.iload_n 2, 0, 0) := by decide +kernel
theorem vr_134_15 : zrx 134 15 = some (.iconst 2, 0, 0) := by decide +kernel
theorem vr_134_16 : zrx 134 16 = some (.idiv, 0, 0) := by decide +kernel
theorem vr_134_17 : zrx 134 17 = some (.istore_n 2, 0, 0) := by decide +kernel
theorem vr_134_18 : zrx 134 18 = some (.goto (-14), 0, 0) := by decide +kernel
theorem vr_134_21 : zrx 134 21 = some (.iload_n 1, 0, 0) := by decide +kernel
theorem vr_134_22 : zrx 134 22 = some (.ireturn, 0, 0) := by decide +kernel
theorem vr_135_0 : zrx 135 0 = some (.iconst (-1), 0, 0) := by decide +kernel
theorem vr_135_1 : zrx 135 1 = some (.istore_n 3, 0, 0) := by decide +kernel
theorem vr_135_2 : zrx 135 2 = some (.iconst (-1), 0, 0) := by decide +kernel
theorem vr_135_3 : zrx 135 3 = some (.istore 4, 0, 0) := by decide +kernel
theorem vr_135_5 : zrx 135 5 = some (.iconst 0, 0, 0) := by decide +kernel
theorem vr_135_6 : zrx 135 6 = some (.istore 5, 0, 0) := by decide +kernel
theorem vr_135_8 : zrx 135 8 = some (.iload 5, 0, 0) := by decide +kernel
theorem vr_135_10 : zrx 135 10 = some (.aload_n 0, 0, 0) := by decide +kernel
theorem vr_135_11 : zrx 135 11 = some (.getfield 24, 18, 7) := by decide +kernel
theorem vr_135_14 : zrx 135 14 = some (.invokeinterface 59 1, 304, 35) := by decide +kernel
theorem vr_135_19 : zrx 135 19 = some (.if_icmp .ge 92, 0, 0) := by decide +kernel
theorem vr_135_22 : zrx 135 22 = some (.aload_n 0, 0, 0) := by decide +kernel
theorem vr_135_23 : zrx 135 23 = some (.getfield 24, 18, 7) := by decide +kernel
theorem vr_135_26 : zrx 135 26 = some (.iload 5, 0, 0) := by decide +kernel
theorem vr_135_28 : zrx 135 28 = some (.invokeinterface 65 2, 306, 35) := by decide +kernel
theorem vr_135_33 : zrx 135 33 = some (.checkcast 69, 17, 0) := by decide +kernel
theorem vr_135_36 : zrx 135 36 = some (.astore 6, 0, 0) := by decide +kernel
theorem vr_135_38 : zrx 135 38 = some (.aload 6, 0, 0) := by decide +kernel
theorem vr_135_40 : zrx 135 40 = some (.getfield 71, 17, 0) := by decide +kernel
theorem vr_135_43 : zrx 135 43 = some (.iload_n 1, 0, 0) := by decide +kernel
theorem vr_135_44 : zrx 135 44 = some (.if_icmp .ne 61, 0, 0) := by decide +kernel
theorem vr_135_47 : zrx 135 47 = some (.aload 6, 0, 0) := by decide +kernel
theorem vr_135_49 : zrx 135 49 = some (.aload_n 2, 0, 0) := by decide +kernel
theorem vr_135_50 : zrx 135 50 = some (.invokevirtual 74, 128, 180) := by decide +kernel
theorem vr_135_53 : zrx 135 53 = some (.ifCond .eq 52, 0, 0) := by decide +kernel
theorem vr_135_56 : zrx 135 56 = some (.aload 6, 0, 0) := by decide +kernel
theorem vr_135_58 : zrx 135 58 = some (.invokevirtual 78, 127, 180) := by decide +kernel
theorem vr_135_61 : zrx 135 61 = some (.iload_n 3, 0, 0) := by decide +kernel
theorem vr_135_62 : zrx 135 62 = some (.if_icmp .ge 6, 0, 0) := by decide +kernel
theorem vr_135_65 : zrx 135 65 = some (.goto 40, 0, 0) := by decide +kernel
theorem vr_135_68 : zrx 135 68 = some (.aload 6, 0, 0) := by decide +kernel
theorem vr_135_70 : zrx 135 70 = some (.invokevirtual 78, 127, 180) := by decide +kernel
theorem vr_135_73 : zrx 135 73 = some (.iload_n 3, 0, 0) := by decide +kernel
theorem vr_135_74 : zrx 135 74 = some (.if_icmp .gt 13, 0, 0) := by decide +kernel
theorem vr_135_77 : zrx 135 77 = some (.iload 4, 0, 0) := by decide +kernel
theorem vr_135_79 : zrx 135 79 = some (.aload 6, 0, 0) := by decide +kernel
theorem vr_135_81 : zrx 135 81 = some (.getfield 81, 17, 5) := by decide +kernel
theorem vr_135_84 : zrx 135 84 = some (.if_icmp .ne 11, 0, 0) := by decide +kernel
theorem vr_135_87 : zrx 135 87 = some (.aload 6, 0, 0) := by decide +kernel
theorem vr_135_89 : zrx 135 89 = some (.getfield 81, 17, 5) := by decide +kernel
theorem vr_135_92 : zrx 135 92 = some (.goto 5, 0, 0) := by decide +kernel
theorem vr_135_95 : zrx 135 95 = some (.bipush (-2), 0, 0) := by decide +kernel
theorem vr_135_97 : zrx 135 97 = some (.istore 4, 0, 0) := by decide +kernel
theorem vr_135_99 : zrx 135 99 = some (.aload 6, 0, 0) := by decide +kernel
theorem vr_135_101 : zrx 135 101 = some (.invokevirtual 78, 127, 180) := by decide +kernel
theorem vr_135_104 : zrx 135 104 = some (.istore_n 3, 0, 0) := by decide +kernel
theorem vr_135_105 : zrx 135 105 = some (.iinc 5 1, 0, 0) := by decide +kernel
theorem vr_135_108 : zrx 135 108 = some (.goto (-100), 0, 0) := by decide +kernel
theorem vr_135_111 : zrx 135 111 = some (.iload 4, 0, 0) := by decide +kernel
theorem vr_135_113 : zrx 135 113 = some (.ireturn, 0, 0) := by decide +kernel
theorem vr_150_0 : zrx 150 0 = some (.aload_n 0, 0, 0) := by decide +kernel
theorem vr_150_1 : zrx 150 1 = some (.iconst 0, 0, 0) := by decide +kernel
theorem vr_150_2 : zrx 150 2 = some (.putfield 55, 18, 0) := by decide +kernel
theorem vr_150_5 : zrx 150 5 = some (.iload_n 1, 0, 0) := by decide +kernel
theorem vr_150_6 : zrx 150 6 = some (.iconst 0, 0, 0) := by decide +kernel
theorem vr_150_7 : zrx 150 7 = some (.iconst 5, 0, 0) := by decide +kernel
theorem vr_150_8 : zrx 150 8 = some (.invokestatic 209, 132, 0) := by decide +kernel
theorem vr_150_11 : zrx 150 11 = some (.ifCond .ne 9, 0, 0) := by decide +kernel
theorem vr_150_14 : zrx 150 14 = some (.aload_n 0, 0, 0) := by decide +kernel
theorem vr_150_15 : zrx 150 15 = some (.iconst 1, 0, 0) := by decide +kernel
theorem vr_150_16 : zrx 150 16 = some (.invokevirtual 212, 131, 190) := by decide +kernel
theorem vr_150_19 : zrx 150 19 = some (.ireturn, 0, 0) := by decide +kernel
theorem vr_150_20 : zrx 150 20 = some (.iload_n 2, 0, 0) := by decide +kernel
theorem vr_150_21 : zrx 150 21 = some (.iconst 1, 0, 0) := by decide +kernel
theorem vr_150_22 : zrx 150 22 = some (.bipush 99, 0, 0) := by decide +kernel
theorem vr_150_24 : zrx 150 24 = some (.invokestatic 209, 132, 0) := by decide +kernel
theorem vr_150_27 : zrx 150 27 = some (.ifCond .ne 9, 0, 0) := by decide +kernel
theorem vr_150_30 : zrx 150 30 = some (.aload_n 0, 0, 0) := by decide +kernel
theorem vr_150_31 : zrx 150 31 = some (.iconst 2, 0, 0) := by decide +kernel
theorem vr_150_32 : zrx 150 32 = some (.invokevirtual 212, 131, 190) := by decide +kernel
theorem vr_150_35 : zrx 150 35 = some (.ireturn, 0, 0) := by decide +kernel
theorem vr_150_36 : zrx 150 36 = some (.aload_n 0, 0, 0) := by decide +kernel
theorem vr_150_37 : zrx 150 37 = some (.getfield 9, 18, 4) := by decide +kernel
theorem vr_150_40 : zrx 150 40 = some (.iload_n 1, 0, 0) := by decide +kernel
theorem vr_150_41 : zrx 150 41 = some (.iaload, 0, 0) := by decide +kernel
theorem vr_150_42 : zrx 150 42 = some (.istore_n 3, 0, 0) := by decide +kernel
theorem vr_150_43 : zrx 150 43 = some (.aload_n 0, 0, 0) := by decide +kernel
theorem vr_150_44 : zrx 150 44 = some (.getfield 9, 18, 4) := by decide +kernel
theorem vr_150_47 : zrx 150 47 = some (.iload_n 1, 0, 0) := by decide +kernel
theorem vr_150_48 : zrx 150 48 = some (.iload_n 2, 0, 0) := by decide +kernel
theorem vr_150_49 : zrx 150 49 = some (.iastore, 0, 0) := by decide +kernel
theorem vr_150_50 : zrx 150 50 = some (.iload_n 3, 0, 0) := by decide +kernel
theorem vr_150_51 : zrx 150 51 = some (.ireturn, 0, 0) := by decide +kernel
theorem vr_151_0 : zrx 151 0 = some (.aload_n 0, 0, 0) := by decide +kernel
theorem vr_151_1 : zrx 151 1 = some (.iconst 0, 0, 0) := by decide +kernel
theorem vr_151_2 : zrx 151 2 = some (.putfield 55, 18, 0) := by decide +kernel
theorem vr_151_5 : zrx 151 5 = some (.iload_n 1, 0, 0) := by decide +kernel
theorem vr_151_6 : zrx 151 6 = some (.iconst 0, 0, 0) := by decide +kernel
theorem vr_151_7 : zrx 151 7 = some (.iconst 5, 0, 0) := by decide +kernel
theorem vr_151_8 : zrx 151 8 = some (.invokestatic 209, 132, 0) := by decide +kernel
theorem vr_151_11 : zrx 151 11 = some (.ifCond .ne 9, 0, 0) := by decide +kernel
theorem vr_151_14 : zrx 151 14 = some (.aload_n 0, 0, 0) := by decide +kernel
theorem vr_151_15 : zrx 151 15 = some (.iconst 1, 0, 0) := by decide +kernel
theorem vr_151_16 : zrx 151 16 = some (.invokevirtual 212, 131, 190) := by decide +kernel
theorem vr_151_19 : zrx 151 19 = some (.ireturn, 0, 0) := by decide +kernel
theorem vr_151_20 : zrx 151 20 = some (.iload_n 2, 0, 0) := by decide +kernel
theorem vr_151_21 : zrx 151 21 = some (.iconst 0, 0, 0) := by decide +kernel
theorem vr_151_22 : zrx 151 22 = some (.iconst 5, 0, 0) := by decide +kernel
theorem vr_151_23 : zrx 151 23 = some (.invokestatic 209, 132, 0) := by decide +kernel
theorem vr_151_26 : zrx 151 26 = some (.ifCond .eq 12, 0, 0) := by decide +kernel
theorem vr_151_29 : zrx 151 29 = some (.iload_n 3, 0, 0) := by decide +kernel
theorem vr_151_30 : zrx 151 30 = some (.iconst 0, 0, 0) := by decide +kernel
theorem vr_151_31 : zrx 151 31 = some (.iconst 5, 0, 0) := by decide +kernel
theorem vr_151_32 : zrx 151 32 = some (.invokestatic 209, 132, 0) := by decide +kernel
theorem vr_151_35 : zrx 151 35 = some (.ifCond .ne 9, 0, 0) := by decide +kernel
theorem vr_151_38 : zrx 151 38 = some (.aload_n 0, 0, 0) := by decide +kernel
theorem vr_151_39 : zrx 151 39 = some (.iconst 2, 0, 0) := by decide +kernel
theorem vr_151_40 : zrx 151 40 = some (.invokevirtual 212, 131, 190) := by decide +kernel
theorem vr_151_43 : zrx 151 43 = some (.ireturn, 0, 0) := by decide +kernel
theorem vr_151_44 : zrx 151 44 = some (.aload_n 0, 0, 0) := by decide +kernel
theorem vr_151_45 : zrx 151 45 = some (.getfield 15, 18, 5) := by decide +kernel
theorem vr_151_48 : zrx 151 48 = some (.iload_n 1, 0, 0) := by decide +kernel
theorem vr_151_49 : zrx 151 49 = some (.aaload, 0, 0) := by decide +kernel
theorem vr_151_50 : zrx 151 50 = some (.iload_n 2, 0, 0) := by decide +kernel
theorem vr_151_51 : zrx 151 51 = some (.iaload, 0, 0) := by decide +kernel
theorem vr_151_52 : zrx 151 52 = some (.istore 4, 0, 0) := by decide +kernel
theorem vr_151_54 : zrx 151 54 = some (.aload_n 0, 0, 0) := by decide +kernel
theorem vr_151_55 : zrx 151 55 = some (.getfield 15, 18, 5) := by decide +kernel
theorem vr_151_58 : zrx 151 58 = some (.iload_n 1, 0, 0) := by decide +kernel
theorem vr_151_59 : zrx 151 59 = some (.aaload, 0, 0) := by decide +kernel
theorem vr_151_60 : zrx 151 60 = some (.iload_n 2, 0, 0) := by decide +kernel
theorem vr_151_61 : zrx 151 61 = some (.aload_n 0, 0, 0) := by decide +kernel
theorem vr_151_62 : zrx 151 62 = some (.getfield 15, 18, 5) := by decide +kernel
theorem vr_151_65 : zrx 151 65 = some (.iload_n 1, 0, 0) := by decide +kernel
theorem vr_151_66 : zrx 151 66 = some (.aaload, 0, 0) := by decide +kernel
theorem vr_151_67 : zrx 151 67 = some (.iload_n 3, 0, 0) := by decide +kernel
theorem vr_151_68 : zrx 151 68 = some (.iaload, 0, 0) := by decide +kernel
theorem vr_151_69 : zrx 151 69 = some (.iastore, 0, 0) := by decide +kernel
theorem vr_151_70 : zrx 151 70 = some (.aload_n 0, 0, 0) := by decide +kernel
theorem vr_151_71 : zrx 151 71 = some (.getfield 15, 18, 5) := by decide +kernel
theorem vr_151_74 : zrx 151 74 = some (.iload_n 1, 0, 0) := by decide +kernel
theorem vr_151_75 : zrx 151 75 = some (.aaload, 0, 0) := by decide +kernel
theorem vr_151_76 : zrx 151 76 = some (.iload_n 3, 0, 0) := by decide +kernel
theorem vr_151_77 : zrx 151 77 = some (.iload 4, 0, 0) := by decide +kernel
theorem vr_151_79 : zrx 151 79 = some (.iastore, 0, 0) := by decide +kernel
theorem vr_151_80 : zrx 151 80 = some (.aload_n 0, 0, 0) := by decide +kernel
theorem vr_151_81 : zrx 151 81 = some (.getfield 15, 18, 5) := by decide +kernel
theorem vr_151_84 : zrx 151 84 = some (.iload_n 1, 0, 0) := by decide +kernel
theorem vr_151_85 : zrx 151 85 = some (.aaload, 0, 0) := by decide +kernel
theorem vr_151_86 : zrx 151 86 = some (.iload_n 2, 0, 0) := by decide +kernel
theorem vr_151_87 : zrx 151 87 = some (.iaload, 0, 0) := by decide +kernel
theorem vr_151_88 : zrx 151 88 = some (.ireturn, 0, 0) := by decide +kernel
theorem vr_153_0 : zrx 153 0 = some (.aload_n 0, 0, 0) := by decide +kernel
theorem vr_153_1 : zrx 153 1 = some (.iconst 0, 0, 0) := by decide +kernel
theorem vr_153_2 : zrx 153 2 = some (.putfield 55, 18, 0) := by decide +kernel
theorem vr_153_5 : zrx 153 5 = some (.iload_n 1, 0, 0) := by decide +kernel
theorem vr_153_6 : zrx 153 6 = some (.iconst 0, 0, 0) := by decide +kernel
theorem vr_153_7 : zrx 153 7 = some (.iconst 5, 0, 0) := by decide +kernel
theorem vr_153_8 : zrx 153 8 = some (.invokestatic 209, 132, 0) := by decide +kernel
theorem vr_153_11 : zrx 153 11 = some (.ifCond .eq 12, 0, 0) := by decide +kernel
theorem vr_153_14 : zrx 153 14 = some (.iload_n 2, 0, 0) := by decide +kernel
theorem vr_153_15 : zrx 153 15 = some (.iconst 0, 0, 0) := by decide +kernel
theorem vr_153_16 : zrx 153 16 = some (.iconst 3, 0, 0) := by decide +kernel
theorem vr_153_17 : zrx 153 17 = some (.invokestatic 209, 132, 0) := by decide +kernel
theorem vr_153_20 : zrx 153 20 = some (.ifCond .ne 9, 0, 0) := by decide +kernel
theorem vr_153_23 : zrx 153 23 = some (.aload_n 0, 0, 0) := by decide +kernel
theorem vr_153_24 : zrx 153 24 = some (.iconst 1, 0, 0) := by decide +kernel
theorem vr_153_25 : zrx 153 25 = some (.invokevirtual 212, 131, 190) := by decide +kernel
theorem vr_153_28 : zrx 153 28 = some (.ireturn, 0, 0) := by decide +kernel
theorem vr_153_29 : zrx 153 29 = some (.iload_n 3, 0, 0) := by decide +kernel
theorem vr_153_30 : zrx 153 30 = some (.iconst 1, 0, 0) := by decide +kernel
theorem vr_153_31 : zrx 153 31 = some (.bipush 15, 0, 0) := by decide +kernel
theorem vr_153_33 : zrx 153 33 = some (.invokestatic 209, 132, 0) := by decide +kernel
theorem vr_153_36 : zrx 153 36 = some (.ifCond .eq 54, 0, 0) := by decide +kernel
theorem vr_153_39 : zrx 153 39 = some (.iload 4, 0, 0) := by decide +kernel
theorem vr_153_41 : zrx 153 41 = some (.iconst 0, 0, 0) := by decide +kernel
theorem vr_153_42 : zrx 153 42 = some (.bipush 63, 0, 0) := by decide +kernel
theorem vr_153_44 : zrx 153 44 = some (.invokestatic 209, 132, 0) := by decide +kernel
theorem vr_153_47 : zrx 153 47 = some (.ifCond .eq 43, 0, 0) := by decide +kernel
theorem vr_153_50 : zrx 153 50 = some (.iload 5, 0, 0) := by decide +kernel
theorem vr_153_52 : zrx 153 52 = some (.iconst 0, 0, 0) := by decide +kernel
theorem vr_153_53 : zrx 153 53 = some (.bipush 63, 0, 0) := by decide +kernel
theorem vr_153_55 : zrx 153 55 = some (.invokestatic 209, 132, 0) := by decide +kernel
theorem vr_153_58 : zrx 153 58 = some (.ifCond .eq 32, 0, 0) := by decide +kernel
theorem vr_153_61 : zrx 153 61 = some (.iload 4, 0, 0) := by decide +kernel
theorem vr_153_63 : zrx 153 63 = some (.iload 5, 0, 0) := by decide +kernel
theorem vr_153_65 : zrx 153 65 = some (.iand, 0, 0) := by decide +kernel
theorem vr_153_66 : zrx 153 66 = some (.ifCond .ne 24, 0, 0) := by decide +kernel
theorem vr_153_69 : zrx 153 69 = some (.iload 6, 0, 0) := by decide +kernel
theorem vr_153_71 : zrx 153 71 = some (.iconst 0, 0, 0) := by decide +kernel
theorem vr_153_72 : zrx 153 72 = some (.bipush 100, 0, 0) := by decide +kernel
theorem vr_153_74 : zrx 153 74 = some (.invokestatic 209, 132, 0) := by decide +kernel
theorem vr_153_77 : zrx 153 77 = some (.ifCond .eq 13, 0, 0) := by decide +kernel
theorem vr_153_80 : zrx 153 80 = some (.iload 7, 0, 0) := by decide +kernel
theorem vr_153_82 : zrx 153 82 = some (.iconst 1, 0, 0) := by decide +kernel
theorem vr_153_83 : zrx 153 83 = some (.iconst 5, 0, 0) := by decide +kernel
theorem vr_153_84 : zrx 153 84 = some (.invokestatic 209, 132, 0) := by decide +kernel
theorem vr_153_87 : zrx 153 87 = some (.ifCond .ne 9, 0, 0) := by decide +kernel
theorem vr_153_90 : zrx 153 90 = some (.aload_n 0, 0, 0) := by decide +kernel
theorem vr_153_91 : zrx 153 91 = some (.iconst 2, 0, 0) := by decide +kernel
theorem vr_153_92 : zrx 153 92 = some (.invokevirtual 212, 131, 190) := by decide +kernel
theorem vr_153_95 : zrx 153 95 = some (.ireturn, 0, 0) := by decide +kernel
theorem vr_153_96 : zrx 153 96 = some (.aload_n 0, 0, 0) := by decide +kernel
theorem vr_153_97 : zrx 153 97 = some (.getfield 24, 18, 7) := by decide +kernel
theorem vr_153_100 : zrx 153 100 = some (.invokeinterface 59 1, 304, 35) := by decide +kernel
theorem vr_153_105 : zrx 153 105 = some (.bipush 40, 0, 0) := by decide +kernel
theorem vr_153_107 : zrx 153 107 = some (.if_icmp .ne 9, 0, 0) := by decide +kernel
theorem vr_153_110 : zrx 153 110 = some (.aload_n 0, 0, 0) := by decide +kernel
theorem vr_153_111 : zrx 153 111 = some (.iconst 3, 0, 0) := by decide +kernel
theorem vr_153_112 : zrx 153 112 = some (.invokevirtual 212, 131, 190) := by decide +kernel
theorem vr_153_115 : zrx 153 115 = some (.ireturn, 0, 0) := by decide +kernel
theorem vr_153_116 : zrx 153 116 = some (.aload_n 0, 0, 0) := by decide +kernel
theorem vr_153_117 : zrx 153 117 = some (.getfield 24, 18, 7) := by decide +kernel
theorem vr_153_120 : zrx 153 120 = some (.new 69, 17, 0) := by decide +kernel
theorem vr_153_123 : zrx 153 123 = some (.dup, 0, 0) := by decide +kernel
theorem vr_153_124 : zrx 153 124 = some (.iload_n 1, 0, 0) := by decide +kernel
theorem vr_153_125 : zrx 153 125 = some (.iload_n 2, 0, 0) := by decide +kernel
theorem vr_153_126 : zrx 153 126 = some (.iload_n 3, 0, 0) := by decide +kernel
theorem vr_153_127 : zrx 153 127 = some (.iload 4, 0, 0) := by decide +kernel
theorem vr_153_129 : zrx 153 129 = some (.iload 5, 0, 0) := by decide +kernel
theorem vr_153_131 : zrx 153 131 = some (.iload 6, 0, 0) := by decide +kernel
theorem vr_153_133 : zrx 153 133 = some (.iload 7, 0, 0) := by decide +kernel
theorem vr_153_135 : zrx 153 135 = some (.aload_n 0, 0, 0) := by decide +kernel
theorem vr_153_136 : zrx 153 136 = some (.getfield 215, 18, 1) := by decide +kernel
theorem vr_153_139 : zrx 153 139 = some (.invokespecial 216, 126, 180) := by decide +kernel
theorem vr_153_142 : zrx 153 142 = some (.invokeinterface 219 2, 309, 35) := by decide +kernel
theorem vr_153_147 : zrx 153 147 = some (.pop, 0, 0) := by decide +kernel
theorem vr_153_148 : zrx 153 148 = some (.aload_n 0, 0, 0) := by decide +kernel
theorem vr_153_149 : zrx 153 149 = some (.getfield 24, 18, 7) := by decide +kernel
theorem vr_153_152 : zrx 153 152 = some (.invokeinterface 59 1, 304, 35) := by decide +kernel
theorem vr_153_157 : zrx 153 157 = some (.iconst 1, 0, 0) := by decide +kernel
theorem vr_153_158 : zrx 153 158 = some (.isub, 0, 0) := by decide +kernel
theorem vr_153_159 : zrx 153 159 = some (.ireturn, 0, 0) := by decide +kernel
theorem vr_154_0 : zrx 154 0 = some (.iload_n 1, 0, 0) := by decide +kernel
theorem vr_154_1 : zrx 154 1 = some (.iconst 0, 0, 0) := by decide +kernel
theorem vr_154_2 : zrx 154 2 = some (.aload_n 0, 0, 0) := by decide +kernel
theorem vr_154_3 : zrx 154 3 = some (.getfield 24, 18, 7) := by decide +kernel
theorem vr_154_6 : zrx 154 6 = some (.invokeinterface 59 1, 304, 35) := by decide +kernel
theorem vr_154_11 : zrx 154 11 = some (.iconst 1, 0, 0) := by decide +kernel
theorem vr_154_12 : zrx 154 12 = some (.isub, 0, 0) := by decide +kernel
theorem vr_154_13 : zrx 154 13 = some (.invokestatic 209, 132, 0) := by decide +kernel
theorem vr_154_16 : zrx 154 16 = some (.ireturn, 0, 0) := by decide +kernel
theorem vr_155_0 : zrx 155 0 = some (.aload_n 0, 0, 0) := by decide +kernel
theorem vr_155_1 : zrx 155 1 = some (.iconst 0, 0, 0) := by decide +kernel
theorem vr_155_2 : zrx 155 2 = some (.putfield 55, 18, 0) := by decide +kernel
theorem vr_155_5 : zrx 155 5 = some (.aload_n 0, 0, 0) := by decide +kernel
theorem vr_155_6 : zrx 155 6 = some (.iload_n 1, 0, 0) := by decide +kernel
theorem vr_155_7 : zrx 155 7 = some (.invokevirtual 223, 154, 190) := by decide +kernel
theorem vr_155_10 : zrx 155 10 = some (.ifCond .ne 9, 0, 0) := by decide +kernel
theorem vr_155_13 : zrx 155 13 = some (.aload_n 0, 0, 0) := by decide +kernel
theorem vr_155_14 : zrx 155 14 = some (.iconst 1, 0, 0) := by decide +kernel
theorem vr_155_15 : zrx 155 15 = some (.invokevirtual 212, 131, 190) := by decide +kernel
theorem vr_155_18 : zrx 155 18 = some (.ireturn, 0, 0) := by decide +kernel
theorem vr_155_19 : zrx 155 19 = some (.iload_n 2, 0, 0) := by decide +kernel
theorem vr_155_20 : zrx 155 20 = some (.iconst 0, 0, 0) := by decide +kernel
theorem vr_155_21 : zrx 155 21 = some (.sipush 999, 0, 0) := by decide +kernel
theorem vr_155_24 : zrx 155 24 = some (.invokestatic 209, 132, 0) := by decide +kernel
theorem vr_155_27 : zrx 155 27 = some (.ifCond .eq 14, 0, 0) := by decide +kernel
theorem vr_155_30 : zrx 155 30 = some (.iload_n 3, 0, 0) := by decide +kernel
theorem vr_155_31 : zrx 155 31 = some (.iload_n 2, 0, 0) := by decide +kernel
theorem vr_155_32 : zrx 155 32 = some (.sipush 999, 0, 0) := by decide +kernel
theorem vr_155_35 : zrx 155 35 = some (.invokestatic 209, 132, 0) := by decide +kernel
theorem vr_155_38 : zrx 155 38 = some (.ifCond .ne 9, 0, 0) := by decide +kernel
theorem vr_155_41 : zrx 155 41 = some (.aload_n 0, 0, 0) := by decide +kernel
theorem vr_155_42 : zrx 155 42 = some (.iconst 2, 0, 0) := by decide +kernel
theorem vr_155_43 : zrx 155 43 = some (.invokevirtual 212, 131, 190) := by decide +kernel
theorem vr_155_46 : zrx 155 46 = some (.ireturn, 0, 0) := by decide +kernel
theorem vr_155_47 : zrx 155 47 = some (.aload_n 0, 0, 0) := by decide +kernel
theorem vr_155_48 : zrx 155 48 = some (.getfield 24, 18, 7) := by decide +kernel
theorem vr_155_51 : zrx 155 51 = some (.iload_n 1, 0, 0) := by decide +kernel
theorem vr_155_52 : zrx 155 52 = some (.invokeinterface 65 2, 306, 35) := by decide +kernel
theorem vr_155_57 : zrx 155 57 = some (.checkcast 69, 17, 0) := by decide +kernel
theorem vr_155_60 : zrx 155 60 = some (.iload_n 2, 0, 0) := by decide +kernel
theorem vr_155_61 : zrx 155 61 = some (.putfield 226, 17, 8) := by decide +kernel
theorem vr_155_64 : zrx 155 64 = some (.aload_n 0, 0, 0) := by decide +kernel
theorem vr_155_65 : zrx 155 65 = some (.getfield 24, 18, 7) := by decide +kernel
theorem vr_155_68 : zrx 155 68 = some (.iload_n 1, 0, 0) := by decide +kernel
theorem vr_155_69 : zrx 155 69 = some (.invokeinterface 65 2, 306, 35) := by decide +kernel
theorem vr_155_74 : zrx 155 74 = some (.checkcast 69, 17, 0) := by decide +kernel
theorem vr_155_77 : zrx 155 77 = some (.iload_n 3, 0, 0) := by decide +kernel
theorem vr_155_78 : zrx 155 78 = some (.putfield 229, 17, 9) := by decide +kernel
theorem vr_155_81 : zrx 155 81 = some (.aload_n 0, 0, 0) := by decide +kernel
theorem vr_155_82 : zrx 155 82 = some (.getfield 24, 18, 7) := by decide +kernel
theorem vr_155_85 : zrx 155 85 = some (.iload_n 1, 0, 0) := by decide +kernel
theorem vr_155_86 : zrx 155 86 = some (.invokeinterface 65 2, 306, 35) := by decide +kernel
theorem vr_155_91 : zrx 155 91 = some (.checkcast 69, 17, 0) := by decide +kernel
theorem vr_155_94 : zrx 155 94 = some (.invokevirtual 78, 127, 180) := by decide +kernel
theorem vr_155_97 : zrx 155 97 = some (.ireturn, 0, 0) := by decide +kernel
theorem vr_156_0 : zrx 156 0 = some (.aload_n 0, 0, 0) := by decide +kernel
theorem vr_156_1 : zrx 156 1 = some (.iconst 0, 0, 0) := by decide +kernel
theorem vr_156_2 : zrx 156 2 = some (.putfield 55, 18, 0) := by decide +kernel
theorem vr_156_5 : zrx 156 5 = some (.iload_n 1, 0, 0) := by decide +kernel
theorem vr_156_6 : zrx 156 6 = some (.iconst 0, 0, 0) := by decide +kernel
theorem vr_156_7 : zrx 156 7 = some (.iconst 5, 0, 0) := by decide +kernel
theorem vr_156_8 : zrx 156 8 = some (.invokestatic 209, 132, 0) := by decide +kernel
theorem vr_156_11 : zrx 156 11 = some (.ifCond .eq 31, 0, 0) := by decide +kernel
theorem vr_156_14 : zrx 156 14 = some (.iload_n 2, 0, 0) := by decide +kernel
theorem vr_156_15 : zrx 156 15 = some (.iconst 0, 0, 0) := by decide +kernel
theorem vr_156_16 : zrx 156 16 = some (.iconst 5, 0, 0) := by decide +kernel
theorem vr_156_17 : zrx 156 17 = some (.invokestatic 209, 132, 0) := by decide +kernel
theorem vr_156_20 : zrx 156 20 = some (.ifCond .eq 22, 0, 0) := by decide +kernel
theorem vr_156_23 : zrx 156 23 = some (.iload_n 3, 0, 0) := by decide +kernel
theorem vr_156_24 : zrx 156 24 = some (.iconst 0, 0, 0) := by decide +kernel
theorem vr_156_25 : zrx 156 25 = some (.iconst 3, 0, 0) := by decide +kernel
theorem vr_156_26 : zrx 156 26 = some (.invokestatic 209, 132, 0) := by decide +kernel
theorem vr_156_29 : zrx 156 29 = some (.ifCond .eq 13, 0, 0) := by decide +kernel
theorem vr_156_32 : zrx 156 32 = some (.iload 4, 0, 0) := by decide +kernel
theorem vr_156_34 : zrx 156 34 = some (.iconst 0, 0, 0) := by decide +kernel
theorem vr_156_35 : zrx 156 35 = some (.iconst 3, 0, 0) := by decide +kernel
theorem vr_156_36 : zrx 156 36 = some (.invokestatic 209, 132, 0) := by decide +kernel
theorem vr_156_39 : zrx 156 39 = some (.ifCond .ne 9, 0, 0) := by decide +kernel
theorem vr_156_42 : zrx 156 42 = some (.aload_n 0, 0, 0) := by decide +kernel
theorem vr_156_43 : zrx 156 43 = some (.iconst 1, 0, 0) := by decide +kernel
theorem vr_156_44 : zrx 156 44 = some (.invokevirtual 212, 131, 190) := by decide +kernel
theorem vr_156_47 : zrx 156 47 = some (.ireturn, 0, 0) := by decide +kernel
theorem vr_156_48 : zrx 156 48 = some (.iload 5, 0, 0) := by decide +kernel
theorem vr_156_50 : zrx 156 50 = some (.iconst 0, 0, 0) := by decide +kernel
theorem vr_156_51 : zrx 156 51 = some (.bipush 63, 0, 0) := by decide +kernel
theorem vr_156_53 : zrx 156 53 = some (.invokestatic 209, 132, 0) := by decide +kernel
theorem vr_156_56 : zrx 156 56 = some (.ifCond .eq 28, 0, 0) := by decide +kernel
theorem vr_156_59 : zrx 156 59 = some (.iload 6, 0, 0) := by decide +kernel
theorem vr_156_61 : zrx 156 61 = some (.iconst 0, 0, 0) := by decide +kernel
theorem vr_156_62 : zrx 156 62 = some (.sipush 999, 0, 0) := by decide +kernel
theorem vr_156_65 : zrx 156 65 = some (.invokestatic 209, 132, 0) := by decide +kernel
theorem vr_156_68 : zrx 156 68 = some (.ifCond .eq 16, 0, 0) := by decide +kernel
theorem vr_156_71 : zrx 156 71 = some (.iload 7, 0, 0) := by decide +kernel
theorem vr_156_73 : zrx 156 73 = some (.iconst 0, 0, 0) := by decide +kernel
theorem vr_156_74 : zrx 156 74 = some (.aload_n 0, 0, 0) := by decide +kernel
theorem vr_156_75 : zrx 156 75 = some (.getfield 215, 18, 1) := by decide +kernel
theorem vr_156_78 : zrx 156 78 = some (.invokestatic 209, 132, 0) := by decide +kernel
theorem vr_156_81 : zrx 156 81 = some (.ifCond .ne 9, 0, 0) := by decide +kernel
theorem vr_156_84 : zrx 156 84 = some (.aload_n 0, 0, 0) := by decide +kernel
theorem vr_156_85 : zrx 156 85 = some (.iconst 2, 0, 0) := by decide +kernel
theorem vr_156_86 : zrx 156 86 = some (.invokevirtual 212, 131, 190) := by decide +kernel
theorem vr_156_89 : zrx 156 89 = some (.ireturn, 0, 0) := by decide +kernel
theorem vr_156_90 : zrx 156 90 = some (.aload_n 0, 0, 0) := by decide +kernel
theorem vr_156_91 : zrx 156 91 = some (.getfield 28, 18, 8) := by decide +kernel
theorem vr_156_94 : zrx 156 94 = some (.invokeinterface 59 1, 304, 35) := by decide +kernel
theorem vr_156_99 : zrx 156 99 = some (.bipush 24, 0, 0) := by decide +kernel
theorem vr_156_101 : zrx 156 101 = some (.if_icmp .ne 9, 0, 0) := by decide +kernel
theorem vr_156_104 : zrx 156 104 = some (.aload_n 0, 0, 0) := by decide +kernel
theorem vr_156_105 : zrx 156 105 = some (.iconst 3, 0, 0) := by decide +kernel
theorem vr_156_106 : zrx 156 106 = some (.invokevirtual 212, 131, 190) := by decide +kernel
theorem vr_156_109 : zrx 156 109 = some (.ireturn, 0, 0) := by decide +kernel
theorem vr_156_110 : zrx 156 110 = some (.iconst 0, 0, 0) := by decide +kernel
theorem vr_156_111 : zrx 156 111 = some (.istore 8, 0, 0) := by decide +kernel
theorem vr_156_113 : zrx 156 113 = some (.iconst 0, 0, 0) := by decide +kernel
theorem vr_156_114 : zrx 156 114 = some (.istore 9, 0, 0) := by decide +kernel
theorem vr_156_116 : zrx 156 116 = some (.iload 9, 0, 0) := by decide +kernel
theorem vr_156_118 : zrx 156 118 = some (.bipush 6, 0, 0) := by decide +kernel
theorem vr_156_120 : zrx 156 120 = some (.if_icmp .ge 39, 0, 0) := by decide +kernel
theorem vr_156_123 : zrx 156 123 = some (.iload 8, 0, 0) := by decide +kernel
theorem vr_156_125 : zrx 156 125 = some (.iload 5, 0, 0) := by decide +kernel
theorem vr_156_127 : zrx 156 127 = some (.iload 9, 0, 0) := by decide +kernel
theorem vr_156_129 : zrx 156 129 = some (.invokestatic 114, 133, 0) := by decide +kernel
theorem vr_156_132 : zrx 156 132 = some (.ifCond .eq 17, 0, 0) := by decide +kernel
theorem vr_156_135 : zrx 156 135 = some (.iconst 1, 0, 0) := by decide +kernel
theorem vr_156_136 : zrx 156 136 = some (.aload_n 0, 0, 0) := by decide +kernel
theorem vr_156_137 : zrx 156 137 = some (.getfield 15, 18, 5) := by decide +kernel
theorem vr_156_140 : zrx 156 140 = some (.iload_n 1, 0, 0) := by decide +kernel
theorem vr_156_141 : zrx 156 141 = some (.aaload, 0, 0) := by decide +kernel
theorem vr_156_142 : zrx 156 142 = some (.iload 9, 0, 0) := by decide +kernel
theorem vr_156_144 : zrx 156 144 = some (.iaload, 0, 0) := by decide +kernel
theorem vr_156_145 : zrx 156 145 = some (.ishl, 0, 0) := by decide +kernel
theorem vr_156_146 : zrx 156 146 = some (.goto 4, 0, 0) := by decide +kernel
theorem vr_156_149 : zrx 156 149 = some (.iconst 0, 0, 0) := by decide +kernel
theorem vr_156_150 : zrx 156 150 = some (.ior, 0, 0) := by decide +kernel
theorem vr_156_151 : zrx 156 151 = some (.istore 8, 0, 0) := by decide +kernel
theorem vr_156_153 : zrx 156 153 = some (.iinc 9 1, 0, 0) := by decide +kernel
theorem vr_156_156 : zrx 156 156 = some (.goto (-40), 0, 0) := by decide +kernel
theorem vr_156_159 : zrx 156 159 = some (.aload_n 0, 0, 0) := by decide +kernel
theorem vr_156_160 : zrx 156 160 = some (.getfield 28, 18, 8) := by decide +kernel
theorem vr_156_163 : zrx 156 163 = some (.new 85, 16, 0) := by decide +kernel
theorem vr_156_166 : zrx 156 166 = some (.dup, 0, 0) := by decide +kernel
theorem vr_156_167 : zrx 156 167 = some (.iload_n 1, 0, 0) := by decide +kernel
theorem vr_156_168 : zrx 156 168 = some (.iload_n 2, 0, 0) := by decide +kernel
theorem vr_156_169 : zrx 156 169 = some (.iload_n 3, 0, 0) := by decide +kernel
theorem vr_156_170 : zrx 156 170 = some (.iload 4, 0, 0) := by decide +kernel
theorem vr_156_172 : zrx 156 172 = some (.iload 8, 0, 0) := by decide +kernel
theorem vr_156_174 : zrx 156 174 = some (.iload 6, 0, 0) := by decide +kernel
theorem vr_156_176 : zrx 156 176 = some (.aload_n 0, 0, 0) := by decide +kernel
theorem vr_156_177 : zrx 156 177 = some (.getfield 215, 18, 1) := by decide +kernel
theorem vr_156_180 : zrx 156 180 = some (.iload 7, 0, 0) := by decide +kernel
theorem vr_156_182 : zrx 156 182 = some (.isub, 0, 0) := by decide +kernel
theorem vr_156_183 : zrx 156 183 = some (.invokespecial 232, 124, 170) := by decide +kernel
theorem vr_156_186 : zrx 156 186 = some (.invokeinterface 219 2, 309, 35) := by decide +kernel
theorem vr_156_191 : zrx 156 191 = some (.pop, 0, 0) := by decide +kernel
theorem vr_156_192 : zrx 156 192 = some (.aload_n 0, 0, 0) := by decide +kernel
theorem vr_156_193 : zrx 156 193 = some (.getfield 28, 18, 8) := by decide +kernel
theorem vr_156_196 : zrx 156 196 = some (.invokeinterface 59 1, 304, 35) := by decide +kernel
theorem vr_156_201 : zrx 156 201 = some (.iconst 1, 0, 0) := by decide +kernel
theorem vr_156_202 : zrx 156 202 = some (.isub, 0, 0) := by decide +kernel
theorem vr_156_203 : zrx 156 203 = some (.ireturn, 0, 0) := by decide +kernel
theorem vr_176_0 : zrx 176 0 = some (.aload_n 0, 0, 0) := by decide +kernel
theorem vr_176_1 : zrx 176 1 = some (.iconst 0, 0, 0) := by decide +kernel
theorem vr_176_2 : zrx 176 2 = some (.putfield 55, 18, 0) := by decide +kernel
theorem vr_176_5 : zrx 176 5 = some (.iload_n 1, 0, 0) := by decide +kernel
theorem vr_176_6 : zrx 176 6 = some (.iconst 1, 0, 0) := by decide +kernel
theorem vr_176_7 : zrx 176 7 = some (.sipush 400, 0, 0) := by decide +kernel
theorem vr_176_10 : zrx 176 10 = some (.invokestatic 209, 132, 0) := by decide +kernel
theorem vr_176_13 : zrx 176 13 = some (.ifCond .ne 9, 0, 0) := by decide +kernel
theorem vr_176_16 : zrx 176 16 = some (.aload_n 0, 0, 0) := by decide +kernel
theorem vr_176_17 : zrx 176 17 = some (.iconst 1, 0, 0) := by decide +kernel
theorem vr_176_18 : zrx 176 18 = some (.invokevirtual 212, 131, 190) := by decide +kernel
theorem vr_176_21 : zrx 176 21 = some (.ireturn, 0, 0) := by decide +kernel
theorem vr_176_22 : zrx 176 22 = some (.aload_n 0, 0, 0) := by decide +kernel
theorem vr_176_23 : zrx 176 23 = some (.getfield 215, 18, 1) := by decide +kernel
theorem vr_176_26 : zrx 176 26 = some (.iload_n 1, 0, 0) := by decide +kernel
theorem vr_176_27 : zrx 176 27 = some (.iadd, 0, 0) := by decide +kernel
theorem vr_176_28 : zrx 176 28 = some (.sipush 3000, 0, 0) := by decide +kernel
theorem vr_176_31 : zrx 176 31 = some (.if_icmp .le 9, 0, 0) := by decide +kernel
theorem vr_176_34 : zrx 176 34 = some (.aload_n 0, 0, 0) := by decide +kernel
theorem vr_176_35 : zrx 176 35 = some (.iconst 2, 0, 0) := by decide +kernel
theorem vr_176_36 : zrx 176 36 = some (.invokevirtual 212, 131, 190) := by decide +kernel
theorem vr_176_39 : zrx 176 39 = some (.ireturn, 0, 0) := by decide +kernel
theorem vr_176_40 : zrx 176 40 = some (.aload_n 0, 0, 0) := by decide +kernel
theorem vr_176_41 : zrx 176 41 = some (.dup, 0, 0) := by decide +kernel
theorem vr_176_42 : zrx 176 42 = some (.getfield 215, 18, 1) := by decide +kernel
theorem vr_176_45 : zrx 176 45 = some (.iload_n 1, 0, 0) := by decide +kernel
theorem vr_176_46 : zrx 176 46 = some (.iadd, 0, 0) := by decide +kernel
theorem vr_176_47 : zrx 176 47 = some (.putfield 215, 18, 1) := by decide +kernel
theorem vr_176_50 : zrx 176 50 = some (.aload_n 0, 0, 0) := by decide +kernel
theorem vr_176_51 : zrx 176 51 = some (.getfield 215, 18, 1) := by decide +kernel
theorem vr_176_54 : zrx 176 54 = some (.ireturn, 0, 0) := by decide +kernel
theorem vr_178_0 : zrx 178 0 = some (.aload_n 0, 0, 0) := by decide +kernel
theorem vr_178_1 : zrx 178 1 = some (.iconst 0, 0, 0) := by decide +kernel
theorem vr_178_2 : zrx 178 2 = some (.putfield 55, 18, 0) := by decide +kernel
theorem vr_178_5 : zrx 178 5 = some (.iload_n 1, 0, 0) := by decide +kernel
theorem vr_178_6 : zrx 178 6 = some (.iconst 0, 0, 0) := by decide +kernel
theorem vr_178_7 : zrx 178 7 = some (.iconst 5, 0, 0) := by decide +kernel
theorem vr_178_8 : zrx 178 8 = some (.invokestatic 209, 132, 0) := by decide +kernel
theorem vr_178_11 : zrx 178 11 = some (.ifCond .eq 12, 0, 0) := by decide +kernel
theorem vr_178_14 : zrx 178 14 = some (.iload_n 2, 0, 0) := by decide +kernel
theorem vr_178_15 : zrx 178 15 = some (.iconst 0, 0, 0) := by decide +kernel
theorem vr_178_16 : zrx 178 16 = some (.iconst 5, 0, 0) := by decide +kernel
theorem vr_178_17 : zrx 178 17 = some (.invokestatic 209, 132, 0) := by decide +kernel
theorem vr_178_20 : zrx 178 20 = some (.ifCond .ne 9, 0, 0) := by decide +kernel
theorem vr_178_23 : zrx 178 23 = some (.aload_n 0, 0, 0) := by decide +kernel
theorem vr_178_24 : zrx 178 24 = some (.iconst 1, 0, 0) := by decide +kernel
theorem vr_178_25 : zrx 178 25 = some (.invokevirtual 212, 131, 190) := by decide +kernel
theorem vr_178_28 : zrx 178 28 = some (.ireturn, 0, 0) := by decide +kernel
theorem vr_178_29 : zrx 178 29 = some (.aload_n 0, 0, 0) := by decide +kernel
theorem vr_178_30 : zrx 178 30 = some (.getfield 15, 18, 5) := by decide +kernel
theorem vr_178_33 : zrx 178 33 = some (.iload_n 1, 0, 0) := by decide +kernel
theorem vr_178_34 : zrx 178 34 = some (.aaload, 0, 0) := by decide +kernel
theorem vr_178_35 : zrx 178 35 = some (.iload_n 2, 0, 0) := by decide +kernel
theorem vr_178_36 : zrx 178 36 = some (.iaload, 0, 0) := by decide +kernel
theorem vr_178_37 : zrx 178 37 = some (.ireturn, 0, 0) := by decide +kernel
theorem vr_195_0 : zrx 195 0 = some (.bipush 104, 0, 0) := by decide +kernel
theorem vr_195_2 : zrx 195 2 = some (.newarray .int, 100, 0) := by decide +kernel
theorem vr_195_4 : zrx 195 4 = some (.astore 6, 0, 0) := by decide +kernel
theorem vr_195_6 : zrx 195 6 = some (.iconst 0, 0, 0) := by decide +kernel
theorem vr_195_7 : zrx 195 7 = some (.istore 7, 0, 0) := by decide +kernel
theorem vr_195_9 : zrx 195 9 = some (.iload 7, 0, 0) := by decide +kernel
theorem vr_195_11 : zrx 195 11 = some (.bipush 6, 0, 0) := by decide +kernel
theorem vr_195_13 : zrx 195 13 = some (.if_icmp .ge 50, 0, 0) := by decide +kernel
theorem vr_195_16 : zrx 195 16 = some (.aload 6, 0, 0) := by decide +kernel
theorem vr_195_18 : zrx 195 18 = some (.iconst 3, 0, 0) := by decide +kernel
theorem vr_195_19 : zrx 195 19 = some (.aload_n 0, 0, 0) := by decide +kernel
theorem vr_195_20 : zrx 195 20 = some (.iload 7, 0, 0) := by decide +kernel
theorem vr_195_22 : zrx 195 22 = some (.new 85, 16, 0) := by decide +kernel
theorem vr_195_25 : zrx 195 25 = some (.dup, 0, 0) := by decide +kernel
theorem vr_195_26 : zrx 195 26 = some (.iload 7, 0, 0) := by decide +kernel
theorem vr_195_28 : zrx 195 28 = some (.iload 7, 0, 0) := by decide +kernel
theorem vr_195_30 : zrx 195 30 = some (.iload_n 2, 0, 0) := by decide +kernel
theorem vr_195_31 : zrx 195 31 = some (.iload_n 1, 0, 0) := by decide +kernel
theorem vr_195_32 : zrx 195 32 = some (.iload_n 3, 0, 0) := by decide +kernel
theorem vr_195_33 : zrx 195 33 = some (.iload 4, 0, 0) := by decide +kernel
theorem vr_195_35 : zrx 195 35 = some (.aload_n 0, 0, 0) := by decide +kernel
theorem vr_195_36 : zrx 195 36 = some (.getfield 215, 18, 1) := by decide +kernel
theorem vr_195_39 : zrx 195 39 = some (.invokespecial 232, 124, 170) := by decide +kernel
theorem vr_195_42 : zrx 195 42 = some (.invokevirtual 89, 135, 190) := by decide +kernel
theorem vr_195_45 : zrx 195 45 = some (.iadd, 0, 0) := by decide +kernel
theorem vr_195_46 : zrx 195 46 = some (.dup2, 0, 0) := by decide +kernel
theorem vr_195_47 : zrx 195 47 = some (.iaload, 0, 0) := by decide +kernel
theorem vr_195_48 : zrx 195 48 = some (.aload_n 0, 0, 0) := by decide +kernel
theorem vr_195_49 : zrx 195 49 = some (.getfield 9, 18, 4) := by decide +kernel
theorem vr_195_52 : zrx 195 52 = some (.iload 7, 0, 0) := by decide +kernel
theorem vr_195_54 : zrx 195 54 = some (.iaload, 0, 0) := by decide +kernel
theorem vr_195_55 : zrx 195 55 = some (.iadd, 0, 0) := by decide +kernel
theorem vr_195_56 : zrx 195 56 = some (.iastore, 0, 0) := by decide +kernel
theorem vr_195_57 : zrx 195 57 = some (.iinc 7 1, 0, 0) := by decide +kernel
theorem vr_195_60 : zrx 195 60 = some (.goto (-51), 0, 0) := by decide +kernel
theorem vr_195_63 : zrx 195 63 = some (.iload 5, 0, 0) := by decide +kernel
theorem vr_195_65 : zrx 195 65 = some (.iconst 2, 0, 0) := by decide +kernel
theorem vr_195_66 : zrx 195 66 = some (.if_icmp .lt 18, 0, 0) := by decide +kernel
theorem vr_195_69 : zrx 195 69 = some (.aload 6, 0, 0) := by decide +kernel
theorem vr_195_71 : zrx 195 71 = some (.iload 5, 0, 0) := by decide +kernel
theorem vr_195_73 : zrx 195 73 = some (.iconst 2, 0, 0) := by decide +kernel
theorem vr_195_74 : zrx 195 74 = some (.if_icmp .ne 7, 0, 0) := by decide +kernel
theorem vr_195_77 : zrx 195 77 = some (.iconst 1, 0, 0) := by decide +kernel
theorem vr_195_78 : zrx 195 78 = some (.goto 4, 0, 0) := by decide +kernel
theorem vr_195_81 : zrx 195 81 = some (.iconst 2, 0, 0) := by decide +kernel
theorem vr_195_82 : zrx 195 82 = some (.iaload, 0, 0) := by decide +kernel
theorem vr_195_83 : zrx 195 83 = some (.ireturn, 0, 0) := by decide +kernel
theorem vr_195_84 : zrx 195 84 = some (.iconst (-1), 0, 0) := by decide +kernel
theorem vr_195_85 : zrx 195 85 = some (.istore 7, 0, 0) := by decide +kernel
theorem vr_195_87 : zrx 195 87 = some (.iconst 0, 0, 0) := by decide +kernel
theorem vr_195_88 : zrx 195 88 = some (.istore 8, 0, 0) := by decide +kernel
theorem vr_195_90 : zrx 195 90 = some (.iload 8, 0, 0) := by decide +kernel
theorem vr_195_92 : zrx 195 92 = some (.bipush 100, 0, 0) := by decide +kernel
theorem vr_195_94 : zrx 195 94 = some (.if_icmp .gt 40, 0, 0) := by decide +kernel
theorem vr_195_97 : zrx 195 97 = some (.aload 6, 0, 0) := by decide +kernel
theorem vr_195_99 : zrx 195 99 = some (.iconst 3, 0, 0) := by decide +kernel
theorem vr_195_100 : zrx 195 100 = some (.iload 8, 0, 0) := by decide +kernel
theorem vr_195_102 : zrx 195 102 = some (.iadd, 0, 0) := by decide +kernel
theorem vr_195_103 : zrx 195 103 = some (.iaload, 0, 0) := by decide +kernel
theorem vr_195_104 : zrx 195 104 = some (.iload 7, 0, 0) := by decide +kernel
theorem vr_195_106 : zrx 195 106 = some (.iconst (-1), 0, 0) := by decide +kernel
theorem vr_195_107 : zrx 195 107 = some (.if_icmp .ne 7, 0, 0) := by decide +kernel
theorem vr_195_110 : zrx 195 110 = some (.iconst 0, 0, 0) := by decide +kernel
theorem vr_195_111 : zrx 195 111 = some (.goto 10, 0, 0) := by decide +kernel
theorem vr_195_114 : zrx 195 114 = some (.aload 6, 0, 0) := by decide +kernel
theorem vr_195_116 : zrx 195 116 = some (.iconst 3, 0, 0) := by decide +kernel
theorem vr_195_117 : zrx 195 117 = some (.iload 7, 0, 0) := by decide +kernel
theorem vr_195_119 : zrx 195 119 = some (.iadd, 0, 0) := by decide +kernel
theorem vr_195_120 : zrx 195 120 = some (.iaload, 0, 0) := by decide +kernel
theorem vr_195_121 : zrx 195 121 = some (.if_icmp .le 7, 0, 0) := by decide +kernel
theorem vr_195_124 : zrx 195 124 = some (.iload 8, 0, 0) := by decide +kernel
theorem vr_195_126 : zrx 195 126 = some (.istore 7, 0, 0) := by decide +kernel
theorem vr_195_128 : zrx 195 128 = some (.iinc 8 1, 0, 0) := by decide +kernel
theorem vr_195_131 : zrx 195 131 = some (.goto (-41), 0, 0) := by decide +kernel
theorem vr_195_134 : zrx 195 134 = some (.iload 5, 0, 0) := by decide +kernel
theorem vr_195_136 : zrx 195 136 = some (.ifCond .ne 8, 0, 0) := by decide +kernel
theorem vr_195_139 : zrx 195 139 = some (.iload 7, 0, 0) := by decide +kernel
theorem vr_195_141 : zrx 195 141 = some (.goto 20, 0, 0) := by decide +kernel
theorem vr_195_144 : zrx 195 144 = some (.iload 7, 0, 0) := by decide +kernel
theorem vr_195_146 : zrx 195 146 = some (.iconst (-1), 0, 0) := by decide +kernel
theorem vr_195_147 : zrx 195 147 = some (.if_icmp .ne 7, 0, 0) := by decide +kernel
theorem vr_195_150 : zrx 195 150 = some (.iconst 0, 0, 0) := by decide +kernel
theorem vr_195_151 : zrx 195 151 = some (.goto 10, 0, 0) := by decide +kernel
theorem vr_195_154 : zrx 195 154 = some (.aload 6, 0, 0) := by decide +kernel
theorem vr_195_156 : zrx 195 156 = some (.iconst 3, 0, 0) := by decide +kernel
theorem vr_195_157 : zrx 195 157 = some (.iload 7, 0, 0) := by decide +kernel
theorem vr_195_159 : zrx 195 159 = some (.iadd, 0, 0) := by decide +kernel
theorem vr_195_160 : zrx 195 160 = some (.iaload, 0, 0) := by decide +kernel
theorem vr_195_161 : zrx 195 161 = some (.ireturn, 0, 0) := by decide +kernel
theorem vr_196_0 : zrx 196 0 = some (.aload_n 0, 0, 0) := by decide +kernel
theorem vr_196_1 : zrx 196 1 = some (.iconst 0, 0, 0) := by decide +kernel
theorem vr_196_2 : zrx 196 2 = some (.putfield 55, 18, 0) := by decide +kernel
theorem vr_196_5 : zrx 196 5 = some (.iload_n 1, 0, 0) := by decide +kernel
theorem vr_196_6 : zrx 196 6 = some (.iconst 0, 0, 0) := by decide +kernel
theorem vr_196_7 : zrx 196 7 = some (.iconst 3, 0, 0) := by decide +kernel
theorem vr_196_8 : zrx 196 8 = some (.invokestatic 209, 132, 0) := by decide +kernel
theorem vr_196_11 : zrx 196 11 = some (.ifCond .eq 12, 0, 0) := by decide +kernel
theorem vr_196_14 : zrx 196 14 = some (.iload_n 2, 0, 0) := by decide +kernel
theorem vr_196_15 : zrx 196 15 = some (.iconst 0, 0, 0) := by decide +kernel
theorem vr_196_16 : zrx 196 16 = some (.iconst 3, 0, 0) := by decide +kernel
theorem vr_196_17 : zrx 196 17 = some (.invokestatic 209, 132, 0) := by decide +kernel
theorem vr_196_20 : zrx 196 20 = some (.ifCond .ne 9, 0, 0) := by decide +kernel
theorem vr_196_23 : zrx 196 23 = some (.aload_n 0, 0, 0) := by decide +kernel
theorem vr_196_24 : zrx 196 24 = some (.iconst 1, 0, 0) := by decide +kernel
theorem vr_196_25 : zrx 196 25 = some (.invokevirtual 212, 131, 190) := by decide +kernel
theorem vr_196_28 : zrx 196 28 = some (.ireturn, 0, 0) := by decide +kernel
theorem vr_196_29 : zrx 196 29 = some (.iload_n 3, 0, 0) := by decide +kernel
theorem vr_196_30 : zrx 196 30 = some (.iconst 0, 0, 0) := by decide +kernel
theorem vr_196_31 : zrx 196 31 = some (.bipush 63, 0, 0) := by decide +kernel
theorem vr_196_33 : zrx 196 33 = some (.invokestatic 209, 132, 0) := by decide +kernel
theorem vr_196_36 : zrx 196 36 = some (.ifCond .eq 25, 0, 0) := by decide +kernel
theorem vr_196_39 : zrx 196 39 = some (.iload 4, 0, 0) := by decide +kernel
theorem vr_196_41 : zrx 196 41 = some (.iconst 0, 0, 0) := by decide +kernel
theorem vr_196_42 : zrx 196 42 = some (.sipush 999, 0, 0) := by decide +kernel
theorem vr_196_45 : zrx 196 45 = some (.invokestatic 209, 132, 0) := by decide +kernel
theorem vr_196_48 : zrx 196 48 = some (.ifCond .eq 13, 0, 0) := by decide +kernel
theorem vr_196_51 : zrx 196 51 = some (.iload 5, 0, 0) := by decide +kernel
theorem vr_196_53 : zrx 196 53 = some (.iconst 0, 0, 0) := by decide +kernel
theorem vr_196_54 : zrx 196 54 = some (.iconst 3, 0, 0) := by decide +kernel
theorem vr_196_55 : zrx 196 55 = some (.invokestatic 209, 132, 0) := by decide +kernel
theorem vr_196_58 : zrx 196 58 = some (.ifCond .ne 9, 0, 0) := by decide +kernel
theorem vr_196_61 : zrx 196 61 = some (.aload_n 0, 0, 0) := by decide +kernel
theorem vr_196_62 : zrx 196 62 = some (.iconst 2, 0, 0) := by decide +kernel
theorem vr_196_63 : zrx 196 63 = some (.invokevirtual 212, 131, 190) := by decide +kernel
theorem vr_196_66 : zrx 196 66 = some (.ireturn, 0, 0) := by decide +kernel
theorem vr_196_67 : zrx 196 67 = some (.aload_n 0, 0, 0) := by decide +kernel
theorem vr_196_68 : zrx 196 68 = some (.iload_n 1, 0, 0) := by decide +kernel
theorem vr_196_69 : zrx 196 69 = some (.iload_n 2, 0, 0) := by decide +kernel
theorem vr_196_70 : zrx 196 70 = some (.iload_n 3, 0, 0) := by decide +kernel
theorem vr_196_71 : zrx 196 71 = some (.iload 4, 0, 0) := by decide +kernel
theorem vr_196_73 : zrx 196 73 = some (.iload 5, 0, 0) := by decide +kernel
theorem vr_196_75 : zrx 196 75 = some (.invokevirtual 358, 195, 190) := by decide +kernel
theorem vr_196_78 : zrx 196 78 = some (.ireturn, 0, 0) := by decide +kernel
theorem vr_208_0 : zrx 208 0 = some (.aload_n 3, 0, 0) := by decide +kernel
theorem vr_208_1 : zrx 208 1 = some (.aload_n 0, 0, 0) := by decide +kernel
theorem vr_208_2 : zrx 208 2 = some (.iload_n 1, 0, 0) := by decide +kernel
theorem vr_208_3 : zrx 208 3 = some (.iload_n 2, 0, 0) := by decide +kernel
theorem vr_208_4 : zrx 208 4 = some (.invokevirtual 7, 57, 140) := by decide +kernel
theorem vr_208_7 : zrx 208 7 = some (.i2l, 0, 0) := by decide +kernel
theorem vr_208_8 : zrx 208 8 = some (.putfield 13, 14, 1000) := by decide +kernel
theorem vr_208_11 : zrx 208 11 = some (.goto 11, 0, 0) := by decide +kernel
theorem vr_208_14 : zrx 208 14 = some (.astore 4, 0, 0) := by decide +kernel
theorem vr_208_16 : zrx 208 16 = some (.iconst 1, 0, 0) := by decide +kernel
theorem vr_208_17 : zrx 208 17 = some (.ireturn, 0, 0) := by decide +kernel
theorem vr_208_18 : zrx 208 18 = some (.astore 4, 0, 0) := by decide +kernel
theorem vr_208_20 : zrx 208 20 = some (.iconst 2, 0, 0) := by decide +kernel
theorem vr_208_21 : zrx 208 21 = some (.ireturn, 0, 0) := by decide +kernel
theorem vr_208_22 : zrx 208 22 = some (.iconst 0, 0, 0) := by decide +kernel
theorem vr_208_23 : zrx 208 23 = some (.ireturn, 0, 0) := by decide +kernel
theorem vr_209_0 : zrx 209 0 = some (.aload 4, 0, 0) := by decide +kernel
theorem vr_209_2 : zrx 209 2 = some (.aload_n 0, 0, 0) := by decide +kernel
theorem vr_209_3 : zrx 209 3 = some (.iload_n 1, 0, 0) := by decide +kernel
theorem vr_209_4 : zrx 209 4 = some (.iload_n 2, 0, 0) := by decide +kernel
theorem vr_209_5 : zrx 209 5 = some (.iload_n 3, 0, 0) := by decide +kernel
theorem vr_209_6 : zrx 209 6 = some (.invokevirtual 23, 58, 140) := by decide +kernel
theorem vr_209_9 : zrx 209 9 = some (.i2l, 0, 0) := by decide +kernel
theorem vr_209_10 : zrx 209 10 = some (.putfield 13, 14, 1000) := by decide +kernel
theorem vr_209_13 : zrx 209 13 = some (.goto 11, 0, 0) := by decide +kernel
theorem vr_209_16 : zrx 209 16 = some (.astore 5, 0, 0) := by decide +kernel
theorem vr_209_18 : zrx 209 18 = some (.iconst 1, 0, 0) := by decide +kernel
theorem vr_209_19 : zrx 209 19 = some (.ireturn, 0, 0) := by decide +kernel
theorem vr_209_20 : zrx 209 20 = some (.astore 5, 0, 0) := by decide +kernel
theorem vr_209_22 : zrx 209 22 = some (.iconst 2, 0, 0) := by decide +kernel
theorem vr_209_23 : zrx 209 23 = some (.ireturn, 0, 0) := by decide +kernel
theorem vr_209_24 : zrx 209 24 = some (.iconst 0, 0, 0) := by decide +kernel
theorem vr_209_25 : zrx 209 25 = some (.ireturn, 0, 0) := by decide +kernel
theorem vr_211_0 : zrx 211 0 = some (.aload 8, 0, 0) := by decide +kernel
theorem vr_211_2 : zrx 211 2 = some (.aload_n 0, 0, 0) := by decide +kernel
theorem vr_211_3 : zrx 211 3 = some (.iload_n 1, 0, 0) := by decide +kernel
theorem vr_211_4 : zrx 211 4 = some (.iload_n 2, 0, 0) := by decide +kernel
theorem vr_211_5 : zrx 211 5 = some (.iload_n 3, 0, 0) := by decide +kernel
theorem vr_211_6 : zrx 211 6 = some (.iload 4, 0, 0) := by decide +kernel
theorem vr_211_8 : zrx 211 8 = some (.iload 5, 0, 0) := by decide +kernel
theorem vr_211_10 : zrx 211 10 = some (.iload 6, 0, 0) := by decide +kernel
theorem vr_211_12 : zrx 211 12 = some (.iload 7, 0, 0) := by decide +kernel
theorem vr_211_14 : zrx 211 14 = some (.invokevirtual 30, 60, 140) := by decide +kernel
theorem vr_211_17 : zrx 211 17 = some (.i2l, 0, 0) := by decide +kernel
theorem vr_211_18 : zrx 211 18 = some (.putfield 13, 14, 1000) := by decide +kernel
theorem vr_211_21 : zrx 211 21 = some (.goto 15, 0, 0) := by decide +kernel
theorem vr_211_24 : zrx 211 24 = some (.astore 9, 0, 0) := by decide +kernel
theorem vr_211_26 : zrx 211 26 = some (.iconst 1, 0, 0) := by decide +kernel
theorem vr_211_27 : zrx 211 27 = some (.ireturn, 0, 0) := by decide +kernel
theorem vr_211_28 : zrx 211 28 = some (.astore 9, 0, 0) := by decide +kernel
theorem vr_211_30 : zrx 211 30 = some (.iconst 2, 0, 0) := by decide +kernel
theorem vr_211_31 : zrx 211 31 = some (.ireturn, 0, 0) := by decide +kernel
theorem vr_211_32 : zrx 211 32 = some (.astore 9, 0, 0) := by decide +kernel
theorem vr_211_34 : zrx 211 34 = some (.iconst 3, 0, 0) := by decide +kernel
theorem vr_211_35 : zrx 211 35 = some (.ireturn, 0, 0) := by decide +kernel
theorem vr_211_36 : zrx 211 36 = some (.iconst 0, 0, 0) := by decide +kernel
theorem vr_211_37 : zrx 211 37 = some (.ireturn, 0, 0) := by decide +kernel
theorem vr_212_0 : zrx 212 0 = some (.aload 4, 0, 0) := by decide +kernel
theorem vr_212_2 : zrx 212 2 = some (.aload_n 0, 0, 0) := by decide +kernel
theorem vr_212_3 : zrx 212 3 = some (.iload_n 1, 0, 0) := by decide +kernel
theorem vr_212_4 : zrx 212 4 = some (.iload_n 2, 0, 0) := by decide +kernel
theorem vr_212_5 : zrx 212 5 = some (.iload_n 3, 0, 0) := by decide +kernel
theorem vr_212_6 : zrx 212 6 = some (.invokevirtual 36, 61, 140) := by decide +kernel
theorem vr_212_9 : zrx 212 9 = some (.i2l, 0, 0) := by decide +kernel
theorem vr_212_10 : zrx 212 10 = some (.putfield 13, 14, 1000) := by decide +kernel
theorem vr_212_13 : zrx 212 13 = some (.goto 11, 0, 0) := by decide +kernel
theorem vr_212_16 : zrx 212 16 = some (.astore 5, 0, 0) := by decide +kernel
theorem vr_212_18 : zrx 212 18 = some (.iconst 1, 0, 0) := by decide +kernel
theorem vr_212_19 : zrx 212 19 = some (.ireturn, 0, 0) := by decide +kernel
theorem vr_212_20 : zrx 212 20 = some (.astore 5, 0, 0) := by decide +kernel
theorem vr_212_22 : zrx 212 22 = some (.iconst 2, 0, 0) := by decide +kernel
theorem vr_212_23 : zrx 212 23 = some (.ireturn, 0, 0) := by decide +kernel
theorem vr_212_24 : zrx 212 24 = some (.iconst 0, 0, 0) := by decide +kernel
theorem vr_212_25 : zrx 212 25 = some (.ireturn, 0, 0) := by decide +kernel
theorem vr_213_0 : zrx 213 0 = some (.aload 8, 0, 0) := by decide +kernel
theorem vr_213_2 : zrx 213 2 = some (.aload_n 0, 0, 0) := by decide +kernel
theorem vr_213_3 : zrx 213 3 = some (.iload_n 1, 0, 0) := by decide +kernel
theorem vr_213_4 : zrx 213 4 = some (.iload_n 2, 0, 0) := by decide +kernel
theorem vr_213_5 : zrx 213 5 = some (.iload_n 3, 0, 0) := by decide +kernel
theorem vr_213_6 : zrx 213 6 = some (.iload 4, 0, 0) := by decide +kernel
theorem vr_213_8 : zrx 213 8 = some (.iload 5, 0, 0) := by decide +kernel
theorem vr_213_10 : zrx 213 10 = some (.iload 6, 0, 0) := by decide +kernel
theorem vr_213_12 : zrx 213 12 = some (.iload 7, 0, 0) := by decide +kernel
theorem vr_213_14 : zrx 213 14 = some (.invokevirtual 39, 62, 140) := by decide +kernel
theorem vr_213_17 : zrx 213 17 = some (.i2l, 0, 0) := by decide +kernel
theorem vr_213_18 : zrx 213 18 = some (.putfield 13, 14, 1000) := by decide +kernel
theorem vr_213_21 : zrx 213 21 = some (.goto 15, 0, 0) := by decide +kernel
theorem vr_213_24 : zrx 213 24 = some (.astore 9, 0, 0) := by decide +kernel
theorem vr_213_26 : zrx 213 26 = some (.iconst 1, 0, 0) := by decide +kernel
theorem vr_213_27 : zrx 213 27 = some (.ireturn, 0, 0) := by decide +kernel
theorem vr_213_28 : zrx 213 28 = some (.astore 9, 0, 0) := by decide +kernel
theorem vr_213_30 : zrx 213 30 = some (.iconst 2, 0, 0) := by decide +kernel
theorem vr_213_31 : zrx 213 31 = some (.ireturn, 0, 0) := by decide +kernel
theorem vr_213_32 : zrx 213 32 = some (.astore 9, 0, 0) := by decide +kernel
theorem vr_213_34 : zrx 213 34 = some (.iconst 3, 0, 0) := by decide +kernel
theorem vr_213_35 : zrx 213 35 = some (.ireturn, 0, 0) := by decide +kernel
theorem vr_213_36 : zrx 213 36 = some (.iconst 0, 0, 0) := by decide +kernel
theorem vr_213_37 : zrx 213 37 = some (.ireturn, 0, 0) := by decide +kernel
theorem vr_226_0 : zrx 226 0 = some (.aload_n 2, 0, 0) := by decide +kernel
theorem vr_226_1 : zrx 226 1 = some (.aload_n 0, 0, 0) := by decide +kernel
theorem vr_226_2 : zrx 226 2 = some (.iload_n 1, 0, 0) := by decide +kernel
theorem vr_226_3 : zrx 226 3 = some (.invokevirtual 81, 75, 140) := by decide +kernel
theorem vr_226_6 : zrx 226 6 = some (.i2l, 0, 0) := by decide +kernel
theorem vr_226_7 : zrx 226 7 = some (.putfield 13, 14, 1000) := by decide +kernel
theorem vr_226_10 : zrx 226 10 = some (.goto 9, 0, 0) := by decide +kernel
theorem vr_226_13 : zrx 226 13 = some (.astore_n 3, 0, 0) := by decide +kernel
theorem vr_226_14 : zrx 226 14 = some (.iconst 1, 0, 0) := by decide +kernel
theorem vr_226_15 : zrx 226 15 = some (.ireturn, 0, 0) := by decide +kernel
theorem vr_226_16 : zrx 226 16 = some (.astore_n 3, 0, 0) := by decide +kernel
theorem vr_226_17 : zrx 226 17 = some (.iconst 2, 0, 0) := by decide +kernel
theorem vr_226_18 : zrx 226 18 = some (.ireturn, 0, 0) := by decide +kernel
theorem vr_226_19 : zrx 226 19 = some (.iconst 0, 0, 0) := by decide +kernel
theorem vr_226_20 : zrx 226 20 = some (.ireturn, 0, 0) := by decide +kernel
theorem vr_227_0 : zrx 227 0 = some (.aload_n 3, 0, 0) := by decide +kernel
theorem vr_227_1 : zrx 227 1 = some (.aload_n 0, 0, 0) := by decide +kernel
theorem vr_227_2 : zrx 227 2 = some (.iload_n 1, 0, 0) := by decide +kernel
theorem vr_227_3 : zrx 227 3 = some (.iload_n 2, 0, 0) := by decide +kernel
theorem vr_227_4 : zrx 227 4 = some (.invokevirtual 84, 77, 140) := by decide +kernel
theorem vr_227_7 : zrx 227 7 = some (.i2l, 0, 0) := by decide +kernel
theorem vr_227_8 : zrx 227 8 = some (.putfield 13, 14, 1000) := by decide +kernel
theorem vr_227_11 : zrx 227 11 = some (.goto 7, 0, 0) := by decide +kernel
theorem vr_227_14 : zrx 227 14 = some (.astore 4, 0, 0) := by decide +kernel
theorem vr_227_16 : zrx 227 16 = some (.iconst 1, 0, 0) := by decide +kernel
theorem vr_227_17 : zrx 227 17 = some (.ireturn, 0, 0) := by decide +kernel
theorem vr_227_18 : zrx 227 18 = some (.iconst 0, 0, 0) := by decide +kernel
theorem vr_227_19 : zrx 227 19 = some (.ireturn, 0, 0) := by decide +kernel
theorem vr_237_0 : zrx 237 0 = some (.aload 6, 0, 0) := by decide +kernel
theorem vr_237_2 : zrx 237 2 = some (.aload_n 0, 0, 0) := by decide +kernel
theorem vr_237_3 : zrx 237 3 = some (.iload_n 1, 0, 0) := by decide +kernel
theorem vr_237_4 : zrx 237 4 = some (.iload_n 2, 0, 0) := by decide +kernel
theorem vr_237_5 : zrx 237 5 = some (.iload_n 3, 0, 0) := by decide +kernel
theorem vr_237_6 : zrx 237 6 = some (.iload 4, 0, 0) := by decide +kernel
theorem vr_237_8 : zrx 237 8 = some (.iload 5, 0, 0) := by decide +kernel
theorem vr_237_10 : zrx 237 10 = some (.invokevirtual 115, 87, 140) := by decide +kernel
theorem vr_237_13 : zrx 237 13 = some (.i2l, 0, 0) := by decide +kernel
theorem vr_237_14 : zrx 237 14 = some (.putfield 13, 14, 1000) := by decide +kernel
theorem vr_237_17 : zrx 237 17 = some (.goto 11, 0, 0) := by decide +kernel
theorem vr_237_20 : zrx 237 20 = some (.astore 7, 0, 0) := by decide +kernel
theorem vr_237_22 : zrx 237 22 = some (.iconst 1, 0, 0) := by decide +kernel
theorem vr_237_23 : zrx 237 23 = some (.ireturn, 0, 0) := by decide +kernel
theorem vr_237_24 : zrx 237 24 = some (.astore 7, 0, 0) := by decide +kernel
theorem vr_237_26 : zrx 237 26 = some (.iconst 2, 0, 0) := by decide +kernel
theorem vr_237_27 : zrx 237 27 = some (.ireturn, 0, 0) := by decide +kernel
theorem vr_237_28 : zrx 237 28 = some (.iconst 0, 0, 0) := by decide +kernel
theorem vr_237_29 : zrx 237 29 = some (.ireturn, 0, 0) := by decide +kernel
theorem vr_260_0 : zrx 260 0 = some (.iload_n 0, 0, 0) := by decide +kernel
theorem vr_260_1 : zrx 260 1 = some (.iload_n 0, 0, 0) := by decide +kernel
theorem vr_260_2 : zrx 260 2 = some (.iconst 1, 0, 0) := by decide +kernel
theorem vr_260_3 : zrx 260 3 = some (.iushr, 0, 0) := by decide +kernel
theorem vr_260_4 : zrx 260 4 = some (.ldc_w 265, 1431655765, 0) := by decide +kernel
theorem vr_260_7 : zrx 260 7 = some (.iand, 0, 0) := by decide +kernel
theorem vr_260_8 : zrx 260 8 = some (.isub, 0, 0) := by decide +kernel
theorem vr_260_9 : zrx 260 9 = some (.istore_n 0, 0, 0) := by decide +kernel
theorem vr_260_10 : zrx 260 10 = some (.iload_n 0, 0, 0) := by decide +kernel
theorem vr_260_11 : zrx 260 11 = some (.ldc_w 266, 858993459, 0) := by decide +kernel
theorem vr_260_14 : zrx 260 14 = some (.iand, 0, 0) := by decide +kernel
theorem vr_260_15 : zrx 260 15 = some (.iload_n 0, 0, 0) := by decide +kernel
theorem vr_260_16 : zrx 260 16 = some (.iconst 2, 0, 0) := by decide +kernel
theorem vr_260_17 : zrx 260 17 = some (.iushr, 0, 0) := by decide +kernel
theorem vr_260_18 : zrx 260 18 = some (.ldc_w 266, 858993459, 0) := by decide +kernel
theorem vr_260_21 : zrx 260 21 = some (.iand, 0, 0) := by decide +kernel
theorem vr_260_22 : zrx 260 22 = some (.iadd, 0, 0) := by decide +kernel
theorem vr_260_23 : zrx 260 23 = some (.istore_n 0, 0, 0) := by decide +kernel
theorem vr_260_24 : zrx 260 24 = some (.iload_n 0, 0, 0) := by decide +kernel
theorem vr_260_25 : zrx 260 25 = some (.iload_n 0, 0, 0) := by decide +kernel
theorem vr_260_26 : zrx 260 26 = some (.iconst 4, 0, 0) := by decide +kernel
theorem vr_260_27 : zrx 260 27 = some (.iushr, 0, 0) := by decide +kernel
theorem vr_260_28 : zrx 260 28 = some (.iadd, 0, 0) := by decide +kernel
theorem vr_260_29 : zrx 260 29 = some (.ldc_w 267, 252645135, 0) := by decide +kernel
theorem vr_260_32 : zrx 260 32 = some (.iand, 0, 0) := by decide +kernel
theorem vr_260_33 : zrx 260 33 = some (.istore_n 0, 0, 0) := by decide +kernel
theorem vr_260_34 : zrx 260 34 = some (.iload_n 0, 0, 0) := by decide +kernel
theorem vr_260_35 : zrx 260 35 = some (.iload_n 0, 0, 0) := by decide +kernel
theorem vr_260_36 : zrx 260 36 = some (.bipush 8, 0, 0) := by decide +kernel
theorem vr_260_38 : zrx 260 38 = some (.iushr, 0, 0) := by decide +kernel
theorem vr_260_39 : zrx 260 39 = some (.iadd, 0, 0) := by decide +kernel
theorem vr_260_40 : zrx 260 40 = some (.istore_n 0, 0, 0) := by decide +kernel
theorem vr_260_41 : zrx 260 41 = some (.iload_n 0, 0, 0) := by decide +kernel
theorem vr_260_42 : zrx 260 42 = some (.iload_n 0, 0, 0) := by decide +kernel
theorem vr_260_43 : zrx 260 43 = some (.bipush 16, 0, 0) := by decide +kernel
theorem vr_260_45 : zrx 260 45 = some (.iushr, 0, 0) := by decide +kernel
theorem vr_260_46 : zrx 260 46 = some (.iadd, 0, 0) := by decide +kernel
theorem vr_260_47 : zrx 260 47 = some (.istore_n 0, 0, 0) := by decide +kernel
theorem vr_260_48 : zrx 260 48 = some (.iload_n 0, 0, 0) := by decide +kernel
theorem vr_260_49 : zrx 260 49 = some (.bipush 63, 0, 0) := by decide +kernel
theorem vr_260_51 : zrx 260 51 = some (.iand, 0, 0) := by decide +kernel
theorem vr_260_52 : zrx 260 52 = some (.ireturn, 0, 0) := by decide +kernel
theorem vr_261_0 : zrx 261 0 = some (.iload_n 0, 0, 0) := by decide +kernel
theorem vr_261_1 : zrx 261 1 = some (.iload_n 1, 0, 0) := by decide +kernel
theorem vr_261_2 : zrx 261 2 = some (.if_icmp .lt 7, 0, 0) := by decide +kernel
theorem vr_261_5 : zrx 261 5 = some (.iload_n 0, 0, 0) := by decide +kernel
theorem vr_261_6 : zrx 261 6 = some (.goto 4, 0, 0) := by decide +kernel
theorem vr_261_9 : zrx 261 9 = some (.iload_n 1, 0, 0) := by decide +kernel
theorem vr_261_10 : zrx 261 10 = some (.ireturn, 0, 0) := by decide +kernel
theorem vr_262_0 : zrx 262 0 = some (.iload_n 0, 0, 0) := by decide +kernel
theorem vr_262_1 : zrx 262 1 = some (.iload_n 1, 0, 0) := by decide +kernel
theorem vr_262_2 : zrx 262 2 = some (.if_icmp .gt 7, 0, 0) := by decide +kernel
theorem vr_262_5 : zrx 262 5 = some (.iload_n 0, 0, 0) := by decide +kernel
theorem vr_262_6 : zrx 262 6 = some (.goto 4, 0, 0) := by decide +kernel
theorem vr_262_9 : zrx 262 9 = some (.iload_n 1, 0, 0) := by decide +kernel
theorem vr_262_10 : zrx 262 10 = some (.ireturn, 0, 0) := by decide +kernel
theorem vr_302_0 : zrx 302 0 = some (.aload_n 0, 0, 0) := by decide +kernel
theorem vr_302_1 : zrx 302 1 = some (.getfield 9, 2, 1) := by decide +kernel
theorem vr_302_4 : zrx 302 4 = some (.arraylength, 0, 0) := by decide +kernel
theorem vr_302_5 : zrx 302 5 = some (.istore_n 2, 0, 0) := by decide +kernel
theorem vr_302_6 : zrx 302 6 = some (.iload_n 2, 0, 0) := by decide +kernel
theorem vr_302_7 : zrx 302 7 = some (.ifCond .gt 13, 0, 0) := by decide +kernel
theorem vr_302_10 : zrx 302 10 = some (.aload_n 0, 0, 0) := by decide +kernel
theorem vr_302_11 : zrx 302 11 = some (.getfield 9, 2, 1) := by decide +kernel
theorem vr_302_14 : zrx 302 14 = some (.getstatic 39, 4, 3) := by decide +kernel
theorem vr_302_17 : zrx 302 17 = some (.if_acmp .eq 28, 0, 5000) := by decide +kernel
theorem vr_302_20 : zrx 302 20 = some (.iload_n 2, 0, 0) := by decide +kernel
theorem vr_302_21 : zrx 302 21 = some (.iload_n 1, 0, 0) := by decide +kernel
theorem vr_302_22 : zrx 302 22 = some (.iload_n 2, 0, 0) := by decide +kernel
theorem vr_302_23 : zrx 302 23 = some (.isub, 0, 0) := by decide +kernel
theorem vr_302_24 : zrx 302 24 = some (.iload_n 2, 0, 0) := by decide +kernel
theorem vr_302_25 : zrx 302 25 = some (.iconst 1, 0, 0) := by decide +kernel
theorem vr_302_26 : zrx 302 26 = some (.ishr, 0, 0) := by decide +kernel
theorem vr_302_27 : zrx 302 27 = some (.invokestatic 73, 317, 0) := by decide +kernel
theorem vr_302_30 : zrx 302 30 = some (.istore_n 3, 0, 0) := by decide +kernel
theorem vr_302_31 : zrx 302 31 = some (.aload_n 0, 0, 0) := by decide +kernel
theorem vr_302_32 : zrx 302 32 = some (.aload_n 0, 0, 0) := by decide +kernel
theorem vr_302_33 : zrx 302 33 = some (.getfield 9, 2, 1) := by decide +kernel
theorem vr_302_36 : zrx 302 36 = some (.iload_n 3, 0, 0) := by decide +kernel
theorem vr_302_37 : zrx 302 37 = some (.invokestatic 66, 310, 0) := by decide +kernel
theorem vr_302_40 : zrx 302 40 = some (.dup_x1, 0, 0) := by decide +kernel
theorem vr_302_41 : zrx 302 41 = some (.putfield 9, 2, 1) := by decide +kernel
theorem vr_302_44 : zrx 302 44 = some (.areturn, 0, 0) := by decide +kernel
theorem vr_302_45 : zrx 302 45 = some (.aload_n 0, 0, 0) := by decide +kernel
theorem vr_302_46 : zrx 302 46 = some (.bipush 10, 0, 0) := by decide +kernel
theorem vr_302_48 : zrx 302 48 = some (.iload_n 1, 0, 0) := by decide +kernel
theorem vr_302_49 : zrx 302 49 = some (.invokestatic 79, 261, 0) := by decide +kernel
theorem vr_302_52 : zrx 302 52 = some (.anewarray 7, 105, 0) := by decide +kernel
theorem vr_302_55 : zrx 302 55 = some (.dup_x1, 0, 0) := by decide +kernel
theorem vr_302_56 : zrx 302 56 = some (.putfield 9, 2, 1) := by decide +kernel
theorem vr_302_59 : zrx 302 59 = some (.areturn, 0, 0) := by decide +kernel
theorem vr_303_0 : zrx 303 0 = some (.aload_n 0, 0, 0) := by decide +kernel
theorem vr_303_1 : zrx 303 1 = some (.aload_n 0, 0, 0) := by decide +kernel
theorem vr_303_2 : zrx 303 2 = some (.getfield 48, 2, 2) := by decide +kernel
theorem vr_303_5 : zrx 303 5 = some (.iconst 1, 0, 0) := by decide +kernel
theorem vr_303_6 : zrx 303 6 = some (.iadd, 0, 0) := by decide +kernel
theorem vr_303_7 : zrx 303 7 = some (.invokevirtual 69, 302, 30) := by decide +kernel
theorem vr_303_10 : zrx 303 10 = some (.areturn, 0, 0) := by decide +kernel
theorem vr_304_0 : zrx 304 0 = some (.aload_n 0, 0, 0) := by decide +kernel
theorem vr_304_1 : zrx 304 1 = some (.getfield 48, 2, 2) := by decide +kernel
theorem vr_304_4 : zrx 304 4 = some (.ireturn, 0, 0) := by decide +kernel
theorem vr_305_0 : zrx 305 0 = some (.aload_n 0, 0, 0) := by decide +kernel
theorem vr_305_1 : zrx 305 1 = some (.getfield 9, 2, 1) := by decide +kernel
theorem vr_305_4 : zrx 305 4 = some (.iload_n 1, 0, 0) := by decide +kernel
theorem vr_305_5 : zrx 305 5 = some (.aaload, 0, 0) := by decide +kernel
theorem vr_305_6 : zrx 305 6 = some (.areturn, 0, 0) := by decide +kernel
theorem vr_306_0 : zrx 306 0 = some (.iload_n 1, 0, 0) := by decide +kernel
theorem vr_306_1 : zrx 306 1 = some (.aload_n 0, 0, 0) := by decide +kernel
theorem vr_306_2 : zrx 306 2 = some (.getfield 48, 2, 2) := by decide +kernel
theorem vr_306_5 : zrx 306 5 = some (.invokestatic 118, 316, 0) := by decide +kernel
theorem vr_306_8 : zrx 306 8 = some (.pop, 0, 0) := by decide +kernel
theorem vr_306_9 : zrx 306 9 = some (.aload_n 0, 0, 0) := by decide +kernel
theorem vr_306_10 : zrx 306 10 = some (.iload_n 1, 0, 0) := by decide +kernel
theorem vr_306_11 : zrx 306 11 = some (.invokevirtual 123, 305, 30) := by decide +kernel
theorem vr_306_14 : zrx 306 14 = some (.areturn, 0, 0) := by decide +kernel
theorem vr_308_0 : zrx 308 0 = some (.iload_n 3, 0, 0) := by decide +kernel
theorem vr_308_1 : zrx 308 1 = some (.aload_n 2, 0, 0) := by decide +kernel
theorem vr_308_2 : zrx 308 2 = some (.arraylength, 0, 0) := by decide +kernel
theorem vr_308_3 : zrx 308 3 = some (.if_icmp .ne 8, 0, 0) := by decide +kernel
theorem vr_308_6 : zrx 308 6 = some (.aload_n 0, 0, 0) := by decide +kernel
theorem vr_308_7 : zrx 308 7 = some (.invokevirtual 129, 303, 30) := by decide +kernel
theorem vr_308_10 : zrx 308 10 = some (.astore_n 2, 0, 0) := by decide +kernel
theorem vr_308_11 : zrx 308 11 = some (.aload_n 2, 0, 0) := by decide +kernel
theorem vr_308_12 : zrx 308 12 = some (.iload_n 3, 0, 0) := by decide +kernel
theorem vr_308_13 : zrx 308 13 = some (.aload_n 1, 0, 0) := by decide +kernel
theorem vr_308_14 : zrx 308 14 = some (.aastore, 0, 0) := by decide +kernel
theorem vr_308_15 : zrx 308 15 = some (.aload_n 0, 0, 0) := by decide +kernel
theorem vr_308_16 : zrx 308 16 = some (.iload_n 3, 0, 0) := by decide +kernel
theorem vr_308_17 : zrx 308 17 = some (.iconst 1, 0, 0) := by decide +kernel
theorem vr_308_18 : zrx 308 18 = some (.iadd, 0, 0) := by decide +kernel
theorem vr_308_19 : zrx 308 19 = some (.putfield 48, 2, 2) := by decide +kernel
theorem vr_308_22 : zrx 308 22 = some (.return_, 0, 0) := by decide +kernel
theorem vr_309_0 : zrx 309 0 = some (.aload_n 0, 0, 0) := by decide +kernel
theorem vr_309_1 : zrx 309 1 = some (.dup, 0, 0) := by decide +kernel
theorem vr_309_2 : zrx 309 2 = some (.getfield 63, 2, 5000) := by decide +kernel
theorem vr_309_5 : zrx 309 5 = some (.iconst 1, 0, 0) := by decide +kernel
theorem vr_309_6 : zrx 309 6 = some (.iadd, 0, 0) := by decide +kernel
theorem vr_309_7 : zrx 309 7 = some (.putfield 63, 2, 5000) := by decide +kernel
theorem vr_309_10 : zrx 309 10 = some (.aload_n 0, 0, 0) := by decide +kernel
theorem vr_309_11 : zrx 309 11 = some (.aload_n 1, 0, 0) := by decide +kernel
theorem vr_309_12 : zrx 309 12 = some (.aload_n 0, 0, 0) := by decide +kernel
theorem vr_309_13 : zrx 309 13 = some (.getfield 9, 2, 1) := by decide +kernel
theorem vr_309_16 : zrx 309 16 = some (.aload_n 0, 0, 0) := by decide +kernel
theorem vr_309_17 : zrx 309 17 = some (.getfield 48, 2, 2) := by decide +kernel
theorem vr_309_20 : zrx 309 20 = some (.invokevirtual 131, 308, 30) := by decide +kernel
theorem vr_309_23 : zrx 309 23 = some (.iconst 1, 0, 0) := by decide +kernel
theorem vr_309_24 : zrx 309 24 = some (.ireturn, 0, 0) := by decide +kernel
theorem vr_310_0 : zrx 310 0 = some (.aload_n 0, 0, 0) := by decide +kernel
theorem vr_310_1 : zrx 310 1 = some (.iload_n 1, 0, 0) := by decide +kernel
theorem vr_310_2 : zrx 310 2 = some (.aload_n 0, 0, 0) := by decide +kernel
theorem vr_310_3 : zrx 310 3 = some (.invokevirtual 86, 2, 5000) := by decide +kernel
theorem vr_310_6 : zrx 310 6 = some (.invokestatic 300, 311, 0) := by decide +kernel
theorem vr_310_9 : zrx 310 9 = some (.areturn, 0, 0) := by decide +kernel
theorem vr_311_0 : zrx 311 0 = some (.aload_n 2, 0, 0) := by decide +kernel
theorem vr_311_1 : zrx 311 1 = some (.ldc 110, 7, 3) := by decide +kernel
theorem vr_311_3 : zrx 311 3 = some (.if_acmp .ne 10, 0, 5000) := by decide +kernel
theorem vr_311_6 : zrx 311 6 = some (.iload_n 1, 0, 0) := by decide +kernel
theorem vr_311_7 : zrx 311 7 = some (.anewarray 2, 105, 0) := by decide +kernel
theorem vr_311_10 : zrx 311 10 = some (.goto 14, 0, 0) := by decide +kernel
theorem vr_311_13 : zrx 311 13 = some (.aload_n 2, 0, 0) := by decide +kernel
theorem vr_311_24 : zrx 311 24 = some (.astore_n 3, 0, 0) := by decide +kernel
theorem vr_311_25 : zrx 311 25 = some (.aload_n 0, 0, 0) := by decide +kernel
theorem vr_311_26 : zrx 311 26 = some (.iconst 0, 0, 0) := by decide +kernel
theorem vr_311_27 : zrx 311 27 = some (.aload_n 3, 0, 0) := by decide +kernel
theorem vr_311_28 : zrx 311 28 = some (.iconst 0, 0, 0) := by decide +kernel
theorem vr_311_29 : zrx 311 29 = some (.aload_n 0, 0, 0) := by decide +kernel
theorem vr_311_30 : zrx 311 30 = some (.arraylength, 0, 0) := by decide +kernel
theorem vr_311_31 : zrx 311 31 = some (.iload_n 1, 0, 0) := by decide +kernel
theorem vr_311_32 : zrx 311 32 = some (.invokestatic 304, 262, 0) := by decide +kernel
theorem vr_311_35 : zrx 311 35 = some (.invokestatic 150, 0, 5000) := by decide +kernel
theorem vr_311_38 : zrx 311 38 = some (.aload_n 3, 0, 0) := by decide +kernel
theorem vr_311_39 : zrx 311 39 = some (.areturn, 0, 0) := by decide +kernel
theorem vr_316_0 : zrx 316 0 = some (.iload_n 0, 0, 0) := by decide +kernel
theorem vr_316_1 : zrx 316 1 = some (.iload_n 1, 0, 0) := by decide +kernel
theorem vr_316_2 : zrx 316 2 = some (.aconst_null, 0, 0) := by decide +kernel
theorem vr_316_3 : zrx 316 3 = some (.invokestatic 105, 319, 0) := by decide +kernel
theorem vr_316_6 : zrx 316 6 = some (.ireturn, 0, 0) := by decide +kernel
theorem vr_317_0 : zrx 317 0 = some (.iload_n 0, 0, 0) := by decide +kernel
theorem vr_317_1 : zrx 317 1 = some (.iload_n 1, 0, 0) := by decide +kernel
theorem vr_317_2 : zrx 317 2 = some (.iload_n 2, 0, 0) := by decide +kernel
theorem vr_317_3 : zrx 317 3 = some (.invokestatic 194, 261, 0) := by decide +kernel
theorem vr_317_6 : zrx 317 6 = some (.iadd, 0, 0) := by decide +kernel
theorem vr_317_7 : zrx 317 7 = some (.istore_n 3, 0, 0) := by decide +kernel
theorem vr_317_8 : zrx 317 8 = some (.iconst 0, 0, 0) := by decide +kernel
theorem vr_317_9 : zrx 317 9 = some (.iload_n 3, 0, 0) := by decide +kernel
theorem vr_317_10 : zrx 317 10 = some (.if_icmp .ge 11, 0, 0) := by decide +kernel
theorem vr_317_13 : zrx 317 13 = some (.iload_n 3, 0, 0) := by decide +kernel
theorem vr_317_14 : zrx 317 14 = some (.ldc 200, 2147483639, 0) := by decide +kernel
theorem vr_317_16 : zrx 317 16 = some (.if_icmp .gt 5, 0, 0) := by decide +kernel
theorem vr_317_19 : zrx 317 19 = some (.iload_n 3, 0, 0) := by decide +kernel
theorem vr_317_20 : zrx 317 20 = some (.ireturn, 0, 0) := by decide +kernel
theorem vr_317_21 : zrx 317 21 = some (.iload_n 0, 0, 0) := by decide +kernel
theorem vr_317_22 : zrx 317 22 = some (.iload_n 1, 0, 0) := by decide +kernel
theorem vr_317_23 : zrx 317 23 = some (.invokestatic 201, 318, 0) := by decide +kernel
theorem vr_317_26 : zrx 317 26 = some (.ireturn, 0, 0) := by decide +kernel
theorem vr_318_0 : zrx 318 0 = some (.iload_n 0, 0, 0) := by decide +kernel
theorem vr_318_1 : zrx 318 1 = some (.iload_n 1, 0, 0) := by decide +kernel
theorem vr_318_2 : zrx 318 2 = some (.iadd, 0, 0) := by decide +kernel
theorem vr_318_3 : zrx 318 3 = some (.istore_n 2, 0, 0) := by decide +kernel
theorem vr_318_4 : zrx 318 4 = some (.iload_n 2, 0, 0) := by decide +kernel
theorem vr_318_5 : zrx 318 5 = some (.ifCond .ge 44, 0, 0) := by decide +kernel
theorem vr_318_49 : zrx 318 49 = some (.iload_n 2, 0, 0) := by decide +kernel
theorem vr_318_50 : zrx 318 50 = some (.ldc 200, 2147483639, 0) := by decide +kernel
theorem vr_318_52 : zrx 318 52 = some (.if_icmp .gt 6, 0, 0) := by decide +kernel
theorem vr_318_55 : zrx 318 55 = some (.ldc 200, 2147483639, 0) := by decide +kernel
theorem vr_318_57 : zrx 318 57 = some (.ireturn, 0, 0) := by decide +kernel
theorem vr_318_58 : zrx 318 58 = some (.iload_n 2, 0, 0) := by decide +kernel
theorem vr_318_59 : zrx 318 59 = some (.ireturn, 0, 0) := by decide +kernel
theorem vr_319_0 : zrx 319 0 = some (.iload_n 0, 0, 0) := by decide +kernel
theorem vr_319_1 : zrx 319 1 = some (.ifCond .lt 8, 0, 0) := by decide +kernel
theorem vr_319_4 : zrx 319 4 = some (.iload_n 0, 0, 0) := by decide +kernel
theorem vr_319_5 : zrx 319 5 = some (.iload_n 1, 0, 0) := by decide +kernel
theorem vr_319_6 : zrx 319 6 = some (.if_icmp .lt 10, 0, 0) := by decide +kernel
theorem vr_319_9 : zrx 319 9 = some (.aload_n 2, 0, 0) := by decide +kernel
theorem vr_319_10 : zrx 319 10 = some (.iload_n 0, 0, 0) := by decide +kernel
theorem vr_319_11 : zrx 319 11 = some (.iload_n 1, 0, 0) := by decide +kernel
theorem vr_319_16 : zrx 319 16 = some (.iload_n 0, 0, 0) := by decide +kernel
theorem vr_319_17 : zrx 319 17 = some (.ireturn, 0, 0) := by decide +kernel
theorem vh_57_3_0 : zHit (zi 57) 3 0 = none := by decide +kernel
theorem vh_57_10_1 : zHit (zi 57) 10 1 = none := by decide +kernel
theorem vh_58_3_0 : zHit (zi 58) 3 0 = none := by decide +kernel
theorem vh_58_9_1 : zHit (zi 58) 9 1 = none := by decide +kernel
theorem vh_58_15_1 : zHit (zi 58) 15 1 = none := by decide +kernel
theorem vh_60_3_0 : zHit (zi 60) 3 0 = none := by decide +kernel
theorem vh_60_8_0 : zHit (zi 60) 8 0 = none := by decide +kernel
theorem vh_60_15_1 : zHit (zi 60) 15 1 = none := by decide +kernel
theorem vh_60_23_1 : zHit (zi 60) 23 1 = none := by decide +kernel
theorem vh_60_31_1 : zHit (zi 60) 31 1 = none := by decide +kernel
theorem vh_60_41_1 : zHit (zi 60) 41 1 = none := by decide +kernel
theorem vh_60_49_1 : zHit (zi 60) 49 1 = none := by decide +kernel
theorem vh_60_56_1 : zHit (zi 60) 56 1 = none := by decide +kernel
theorem vh_60_76_2 : zHit (zi 60) 76 2 = none := by decide +kernel
theorem vh_61_8_0 : zHit (zi 61) 8 0 = none := by decide +kernel
theorem vh_61_16_1 : zHit (zi 61) 16 1 = none := by decide +kernel
theorem vh_61_24_1 : zHit (zi 61) 24 1 = none := by decide +kernel
theorem vh_62_3_0 : zHit (zi 62) 3 0 = none := by decide +kernel
theorem vh_62_9_0 : zHit (zi 62) 9 0 = none := by decide +kernel
theorem vh_62_14_0 : zHit (zi 62) 14 0 = none := by decide +kernel
theorem vh_62_20_0 : zHit (zi 62) 20 0 = none := by decide +kernel
theorem vh_62_28_1 : zHit (zi 62) 28 1 = none := by decide +kernel
theorem vh_62_37_1 : zHit (zi 62) 37 1 = none := by decide +kernel
theorem vh_62_47_1 : zHit (zi 62) 47 1 = none := by decide +kernel
theorem vh_62_64_2 : zHit (zi 62) 64 2 = none := by decide +kernel
theorem vh_75_5_1 : zHit (zi 75) 5 1 = none := by decide +kernel
theorem vh_75_25_2 : zHit (zi 75) 25 2 = none := by decide +kernel
theorem vh_77_3_0 : zHit (zi 77) 3 0 = none := by decide +kernel
theorem vh_77_9_0 : zHit (zi 77) 9 0 = none := by decide +kernel
theorem vh_87_2_0 : zHit (zi 87) 2 0 = none := by decide +kernel
theorem vh_87_7_0 : zHit (zi 87) 7 0 = none := by decide +kernel
theorem vh_87_14_1 : zHit (zi 87) 14 1 = none := by decide +kernel
theorem vh_87_23_1 : zHit (zi 87) 23 1 = none := by decide +kernel
theorem vh_87_30_1 : zHit (zi 87) 30 1 = none := by decide +kernel
theorem vh_208_4_0 : (zHit (zi 208) 4 0).map (fun r => r.2.2.1) = some 14 := by decide +kernel
theorem vh_208_4_1 : (zHit (zi 208) 4 1).map (fun r => r.2.2.1) = some 18 := by decide +kernel
theorem vh_209_6_0 : (zHit (zi 209) 6 0).map (fun r => r.2.2.1) = some 16 := by decide +kernel
theorem vh_209_6_1 : (zHit (zi 209) 6 1).map (fun r => r.2.2.1) = some 20 := by decide +kernel
theorem vh_211_14_0 : (zHit (zi 211) 14 0).map (fun r => r.2.2.1) = some 24 := by decide +kernel
theorem vh_211_14_1 : (zHit (zi 211) 14 1).map (fun r => r.2.2.1) = some 28 := by decide +kernel
theorem vh_211_14_2 : (zHit (zi 211) 14 2).map (fun r => r.2.2.1) = some 32 := by decide +kernel
theorem vh_212_6_0 : (zHit (zi 212) 6 0).map (fun r => r.2.2.1) = some 16 := by decide +kernel
theorem vh_212_6_1 : (zHit (zi 212) 6 1).map (fun r => r.2.2.1) = some 20 := by decide +kernel
theorem vh_213_14_0 : (zHit (zi 213) 14 0).map (fun r => r.2.2.1) = some 24 := by decide +kernel
theorem vh_213_14_1 : (zHit (zi 213) 14 1).map (fun r => r.2.2.1) = some 28 := by decide +kernel
theorem vh_213_14_2 : (zHit (zi 213) 14 2).map (fun r => r.2.2.1) = some 32 := by decide +kernel
theorem vh_226_3_1 : (zHit (zi 226) 3 1).map (fun r => r.2.2.1) = some 13 := by decide +kernel
theorem vh_226_3_2 : (zHit (zi 226) 3 2).map (fun r => r.2.2.1) = some 16 := by decide +kernel
theorem vh_227_4_0 : (zHit (zi 227) 4 0).map (fun r => r.2.2.1) = some 14 := by decide +kernel
theorem vh_237_10_0 : (zHit (zi 237) 10 0).map (fun r => r.2.2.1) = some 20 := by decide +kernel
theorem vh_237_10_1 : (zHit (zi 237) 10 1).map (fun r => r.2.2.1) = some 24 := by decide +kernel
theorem C_max (n : Nat) (x y : Int32) (h : List zC) (u : Nat) : zL zrx zi n 261 0 [(0, .int x), (1, .int y)] [] h u (fun o h2 _ => h2 = h ∧ o = .inl (some (.int (if x < y then y else x)))) := by
  refine zSiload (m := 1) (k := 0) vr_261_0 rfl rfl rfl (fun x40 e40 => ?_)
  cases e40
  refine zSiload (m := 1) (k := 1) vr_261_1 rfl rfl rfl (fun x41 e41 => ?_)
  cases e41
  refine zSb2 (f := fun x y => decide (x < y)) (off := 7) (t := 9) vr_261_2 rfl rfl rfl (fun x42 y42 e42 f42 q42 => ?_) (fun x42 y42 e42 f42 q42 => ?_)
  · cases e42
    cases f42
    refine zSiload (m := 1) (k := 1) vr_261_9 rfl rfl rfl (fun x43 e43 => ?_)
    cases e43
    refine zLiret vr_261_10 rfl (fun x44 e44 => ?_)
    cases e44
    refine ⟨rfl, ?_⟩
    simp_all [← Int32.not_lt]
  · cases e42
    cases f42
    refine zSiload (m := 1) (k := 0) vr_261_5 rfl rfl rfl (fun x45 e45 => ?_)
    cases e45
    refine zSgo (t := 10) vr_261_6 rfl rfl ?_
    refine zLiret vr_261_10 rfl (fun x47 e47 => ?_)
    cases e47
    refine ⟨rfl, ?_⟩
    simp_all [← Int32.not_lt]
theorem C_min (n : Nat) (x y : Int32) (h : List zC) (u : Nat) : zL zrx zi n 262 0 [(0, .int x), (1, .int y)] [] h u (fun o h2 _ => h2 = h ∧ o = .inl (some (.int (if y < x then y else x)))) := by
  refine zSiload (m := 1) (k := 0) vr_262_0 rfl rfl rfl (fun x48 e48 => ?_)
  cases e48
  refine zSiload (m := 1) (k := 1) vr_262_1 rfl rfl rfl (fun x49 e49 => ?_)
  cases e49
  refine zSb2 (f := fun x y => decide (y < x)) (off := 7) (t := 9) vr_262_2 rfl rfl rfl (fun x50 y50 e50 f50 q50 => ?_) (fun x50 y50 e50 f50 q50 => ?_)
  · cases e50
    cases f50
    refine zSiload (m := 1) (k := 1) vr_262_9 rfl rfl rfl (fun x51 e51 => ?_)
    cases e51
    refine zLiret vr_262_10 rfl (fun x52 e52 => ?_)
    cases e52
    refine ⟨rfl, ?_⟩
    simp_all [← Int32.not_lt]
  · cases e50
    cases f50
    refine zSiload (m := 1) (k := 0) vr_262_5 rfl rfl rfl (fun x53 e53 => ?_)
    cases e53
    refine zSgo (t := 10) vr_262_6 rfl rfl ?_
    refine zLiret vr_262_10 rfl (fun x55 e55 => ?_)
    cases e55
    refine ⟨rfl, ?_⟩
    simp_all [← Int32.not_lt]
theorem C_hugeL (n : Nat) (x y : Int32) (h : List zC) (u : Nat) : zL zrx zi n 318 0 [(0, .int x), (1, .int y)] [] h u (fun o h2 _ => h2 = h ∧ ∃ z : Int32, o = .inl (some (.int z))) := by
  refine zSiload (m := 1) (k := 0) vr_318_0 rfl rfl rfl (fun x56 e56 => ?_)
  cases e56
  refine zSiload (m := 1) (k := 1) vr_318_1 rfl rfl rfl (fun x57 e57 => ?_)
  cases e57
  refine zS2 (f := fun x y => .int (x + y)) vr_318_2 rfl rfl (fun x58 y58 e58 f58 => ?_)
  cases e58
  cases f58
  refine zSistore (m := 1) (k := 2) vr_318_3 rfl rfl (fun x59 e59 => ?_)
  cases e59
  show zL zrx zi _ 318 4 [(2, _), (0, _), (1, _)] [] _ _ _
  refine zSiload (m := 1) (k := 2) vr_318_4 rfl rfl rfl (fun x60 e60 => ?_)
  cases e60
  refine zSb1 (f := fun x => decide (0 ≤ x)) (off := 44) (t := 49) vr_318_5 rfl rfl rfl (fun x61 e61 q61 => ?_) (fun x61 e61 q61 => ?_)
  · cases e61
    refine zSiload (m := 1) (k := 2) vr_318_49 rfl rfl rfl (fun x62 e62 => ?_)
    cases e62
    refine zScstV (v := .int (Int32.ofNat 2147483639)) vr_318_50 rfl rfl ?_
    refine zSb2 (f := fun x y => decide (y < x)) (off := 6) (t := 58) vr_318_52 rfl rfl rfl (fun x64 y64 e64 f64 q64 => ?_) (fun x64 y64 e64 f64 q64 => ?_)
    · cases e64
      cases f64
      refine zSiload (m := 1) (k := 2) vr_318_58 rfl rfl rfl (fun x65 e65 => ?_)
      cases e65
      refine zLiret vr_318_59 rfl (fun x66 e66 => ?_)
      cases e66
      exact ⟨rfl, _, rfl⟩
    · cases e64
      cases f64
      refine zScstV (v := .int (Int32.ofNat 2147483639)) vr_318_55 rfl rfl ?_
      refine zLiret vr_318_57 rfl (fun x68 e68 => ?_)
      cases e68
      exact ⟨rfl, _, rfl⟩
  · cases e61
    exact zLnone (by decide +kernel)
theorem C_newLen (n : Nat) (x y z : Int32) (h : List zC) (u : Nat) : zL zrx zi n 317 0 [(0, .int x), (1, .int y), (2, .int z)] [] h u (fun o h2 _ => h2 = h ∧ ∃ z : Int32, o = .inl (some (.int z))) := by
  refine zSiload (m := 1) (k := 0) vr_317_0 rfl rfl rfl (fun x69 e69 => ?_)
  cases e69
  refine zSiload (m := 1) (k := 1) vr_317_1 rfl rfl rfl (fun x70 e70 => ?_)
  cases e70
  refine zSiload (m := 1) (k := 2) vr_317_2 rfl rfl rfl (fun x71 e71 => ?_)
  cases e71
  refine zScall vr_317_3 rfl rfl rfl (fun m72 _ => C_max _ _ _ _ _) (fun v72 h72 u72 q72 => ?_) (fun E72 h72 u72 q72 => ?_)
  · obtain ⟨eh72, z72⟩ := q72
    replace eh72 := eh72.symm
    subst eh72
    cases z72
    show zL zrx zi _ 317 6 [(0, _), (1, _), (2, _)] [_, _] _ _ _
    refine zS2 (f := fun x y => .int (x + y)) vr_317_6 rfl rfl (fun x73 y73 e73 f73 => ?_)
    cases e73
    cases f73
    refine zSistore (m := 1) (k := 3) vr_317_7 rfl rfl (fun x74 e74 => ?_)
    cases e74
    show zL zrx zi _ 317 8 [(3, _), (0, _), (1, _), (2, _)] [] _ _ _
    refine zSp0 (pc' := 9) (st' := .int (0) :: _) vr_317_8 rfl rfl ?_
    refine zSiload (m := 1) (k := 3) vr_317_9 rfl rfl rfl (fun x76 e76 => ?_)
    cases e76
    refine zSb2 (f := fun x y => decide (y ≤ x)) (off := 11) (t := 21) vr_317_10 rfl rfl rfl (fun x77 y77 e77 f77 q77 => ?_) (fun x77 y77 e77 f77 q77 => ?_)
    · cases e77
      cases f77
      refine zSiload (m := 1) (k := 0) vr_317_21 rfl rfl rfl (fun x78 e78 => ?_)
      cases e78
      refine zSiload (m := 1) (k := 1) vr_317_22 rfl rfl rfl (fun x79 e79 => ?_)
      cases e79
      refine zScall vr_317_23 rfl rfl rfl (fun m80 _ => C_hugeL _ _ _ _ _) (fun v80 h80 u80 q80 => ?_) (fun E80 h80 u80 q80 => ?_)
      · obtain ⟨eh80, w80, z80⟩ := q80
        replace eh80 := eh80.symm
        subst eh80
        cases z80
        show zL zrx zi _ 317 26 [(3, _), (0, _), (1, _), (2, _)] [_] _ _ _
        refine zLiret vr_317_26 rfl (fun x81 e81 => ?_)
        cases e81
        exact ⟨rfl, _, rfl⟩
      · obtain ⟨-, _, z⟩ := q80
        cases z
    · cases e77
      cases f77
      refine zSiload (m := 1) (k := 3) vr_317_13 rfl rfl rfl (fun x82 e82 => ?_)
      cases e82
      refine zScstV (v := .int (Int32.ofNat 2147483639)) vr_317_14 rfl rfl ?_
      refine zSb2 (f := fun x y => decide (y < x)) (off := 5) (t := 21) vr_317_16 rfl rfl rfl (fun x84 y84 e84 f84 q84 => ?_) (fun x84 y84 e84 f84 q84 => ?_)
      · cases e84
        cases f84
        refine zSiload (m := 1) (k := 0) vr_317_21 rfl rfl rfl (fun x85 e85 => ?_)
        cases e85
        refine zSiload (m := 1) (k := 1) vr_317_22 rfl rfl rfl (fun x86 e86 => ?_)
        cases e86
        refine zScall vr_317_23 rfl rfl rfl (fun m87 _ => C_hugeL _ _ _ _ _) (fun v87 h87 u87 q87 => ?_) (fun E87 h87 u87 q87 => ?_)
        · obtain ⟨eh87, w87, z87⟩ := q87
          replace eh87 := eh87.symm
          subst eh87
          cases z87
          show zL zrx zi _ 317 26 [(3, _), (0, _), (1, _), (2, _)] [_] _ _ _
          refine zLiret vr_317_26 rfl (fun x88 e88 => ?_)
          cases e88
          exact ⟨rfl, _, rfl⟩
        · obtain ⟨-, _, z⟩ := q87
          cases z
      · cases e84
        cases f84
        refine zSiload (m := 1) (k := 3) vr_317_19 rfl rfl rfl (fun x89 e89 => ?_)
        cases e89
        refine zLiret vr_317_20 rfl (fun x90 e90 => ?_)
        cases e90
        exact ⟨rfl, _, rfl⟩
  · obtain ⟨-, z⟩ := q72
    cases z
theorem C_copy3 (n : Nat) (q : Nat) (m : Int32) (h : List zC) (u : Nat) {l : Nat} (hq : gN h q = some l) (hl2 : l < 2147483648) : zL zrx zi n 311 0 [(0, .ref q), (1, .int m), (2, .ref 7)] [] h u (fun o h2 _ => o = .inl (some (.ref h.length)) ∧ lCopy h h2 q l m) := by
  refine zSaload (m := 1) (k := 2) vr_311_0 rfl rfl rfl ?_
  refine zScstV (v := .ref 7) vr_311_1 rfl rfl ?_
  refine zLacmNe (t := 13) vr_311_3 rfl rfl (fun a93 b93 e93 f93 q93 => ?_) (fun a93 b93 e93 f93 q93 => ?_)
  · cases e93
    cases f93
    refine zSaload (m := 1) (k := 2) vr_311_13 rfl rfl rfl ?_
    exact zLnone (by decide +kernel)
  · cases e93
    cases f93
    refine zSiload (m := 1) (k := 1) vr_311_6 rfl rfl rfl (fun x95 e95 => ?_)
    cases e95
    refine zLanew vr_311_7 rfl (fun m96 k96 u96 e96 n96 g96 => ?_)
    cases e96
    refine zSgo (t := 24) vr_311_10 rfl rfl ?_
    refine zSastore (m := 1) (k := 3) vr_311_24 rfl rfl ?_
    show zL zrx zi _ 311 25 [(3, _), (0, _), (1, _), (2, _)] [] _ _ _
    refine zSaload (m := 1) (k := 0) vr_311_25 rfl rfl rfl ?_
    refine zSp0 (pc' := 27) (st' := .int (0) :: _) vr_311_26 rfl rfl ?_
    refine zSaload (m := 1) (k := 3) vr_311_27 rfl rfl rfl ?_
    refine zSp0 (pc' := 29) (st' := .int (0) :: _) vr_311_28 rfl rfl ?_
    refine zSaload (m := 1) (k := 0) vr_311_29 rfl rfl rfl ?_
    refine zLlen vr_311_30 rfl (fun p104 m104 e104 g104 => ?_)
    cases e104
    refine zSiload (m := 1) (k := 1) vr_311_31 rfl rfl rfl (fun x105 e105 => ?_)
    cases e105
    refine zScall vr_311_32 rfl rfl rfl (fun m106 _ => C_min _ _ _ _ _) (fun v106 h106 u106 q106 => ?_) (fun E106 h106 u106 q106 => ?_)
    · obtain ⟨eh106, z106⟩ := q106
      replace eh106 := eh106.symm
      subst eh106
      cases z106
      show zL zrx zi _ 311 35 [(3, _), (0, _), (1, _), (2, _)] [_, _, _, _, _] _ _ _
      refine zLarc vr_311_35 rfl (fun p107 d107 x107 y107 m107 k107 e107 f107 i107 j107 l107 n107 o107 s107 c107 => ?_)
      cases e107
      cases f107
      cases i107
      cases j107
      cases l107
      refine zSaload (m := 1) (k := 3) vr_311_38 rfl rfl rfl ?_
      refine zSaret vr_311_39 rfl ?_
      first
        | exact ⟨rfl, copy_end hq hl2 n96 g96 g104 c107⟩
        | exact absurd rfl q93
    · obtain ⟨-, z⟩ := q106
      cases z
theorem C_copy2 (n : Nat) (q : Nat) (m : Int32) (h : List zC) (u : Nat) {l : Nat} (hq : gN h q = some l) (hl2 : l < 2147483648) : zL zrx zi n 310 0 [(0, .ref q), (1, .int m)] [] h u (fun o h2 _ => o = .inl (some (.ref h.length)) ∧ lCopy h h2 q l m) := by
  refine zSaload (m := 1) (k := 0) vr_310_0 rfl rfl rfl ?_
  refine zSiload (m := 1) (k := 1) vr_310_1 rfl rfl rfl (fun x111 e111 => ?_)
  cases e111
  refine zSaload (m := 1) (k := 0) vr_310_2 rfl rfl rfl ?_
  refine zLgcl vr_310_3 rfl (fun p113 e113 t113 => ?_)
  cases e113
  refine zScall vr_310_6 rfl rfl rfl (fun m114 _ => C_copy3 _ _ _ _ _ hq hl2) (fun v114 h114 u114 q114 => ?_) (fun E114 h114 u114 q114 => ?_)
  · obtain ⟨z114, k1⟩ := q114
    cases z114
    show zL zrx zi _ 310 9 [(0, _), (1, _)] [_] _ _ _
    refine zSaret vr_310_9 rfl ?_
    exact ⟨rfl, k1⟩
  · obtain ⟨z, -⟩ := q114
    cases z
theorem C_grow2 (n : Nat) (L : Nat) (m : Int32) (h : List zC) (u : Nat) {el l : Nat} (hL : gF h L 1 = some (.ref el)) (hn : gN h el = some l) (hl2 : l < 2147483648) : zL zrx zi n 302 0 [(0, .ref L), (1, .int m)] [] h u (fun o h2 _ => ∃ r, o = .inl (some r) ∧ lGrow h h2 L el l r) := by
  refine zSaload (m := 1) (k := 0) vr_302_0 rfl rfl rfl ?_
  refine zLget vr_302_1 rfl (fun p117 w117 e117 t117 g117 => ?_)
  cases e117
  first | (rw [hL] at g117; cases g117) | skip
  refine zLlen vr_302_4 rfl (fun p118 m118 e118 g118 => ?_)
  cases e118
  refine zSistore (m := 1) (k := 2) vr_302_5 rfl rfl (fun x119 e119 => ?_)
  cases e119
  show zL zrx zi _ 302 6 [(2, _), (0, _), (1, _)] [] _ _ _
  refine zSiload (m := 1) (k := 2) vr_302_6 rfl rfl rfl (fun x120 e120 => ?_)
  cases e120
  refine zSb1 (f := fun x => decide (0 < x)) (off := 13) (t := 20) vr_302_7 rfl rfl rfl (fun x121 e121 q121 => ?_) (fun x121 e121 q121 => ?_)
  · cases e121
    refine zSiload (m := 1) (k := 2) vr_302_20 rfl rfl rfl (fun x122 e122 => ?_)
    cases e122
    refine zSiload (m := 1) (k := 1) vr_302_21 rfl rfl rfl (fun x123 e123 => ?_)
    cases e123
    refine zSiload (m := 1) (k := 2) vr_302_22 rfl rfl rfl (fun x124 e124 => ?_)
    cases e124
    refine zS2 (f := fun x y => .int (x - y)) vr_302_23 rfl rfl (fun x125 y125 e125 f125 => ?_)
    cases e125
    cases f125
    refine zSiload (m := 1) (k := 2) vr_302_24 rfl rfl rfl (fun x126 e126 => ?_)
    cases e126
    refine zSp0 (pc' := 26) (st' := .int (1) :: _) vr_302_25 rfl rfl ?_
    refine zS2 (f := fun x y => .int (x >>> (y &&& 31))) vr_302_26 rfl rfl (fun x128 y128 e128 f128 => ?_)
    cases e128
    cases f128
    refine zScall vr_302_27 rfl rfl rfl (fun m129 _ => C_newLen _ _ _ _ _ _) (fun v129 h129 u129 q129 => ?_) (fun E129 h129 u129 q129 => ?_)
    · obtain ⟨eh129, w129, z129⟩ := q129
      replace eh129 := eh129.symm
      subst eh129
      cases z129
      show zL zrx zi _ 302 30 [(2, _), (0, _), (1, _)] [_] _ _ _
      refine zSistore (m := 1) (k := 3) vr_302_30 rfl rfl (fun x130 e130 => ?_)
      cases e130
      show zL zrx zi _ 302 31 [(3, _), (2, _), (0, _), (1, _)] [] _ _ _
      refine zSaload (m := 1) (k := 0) vr_302_31 rfl rfl rfl ?_
      refine zSaload (m := 1) (k := 0) vr_302_32 rfl rfl rfl ?_
      refine zLget vr_302_33 rfl (fun p133 w133 e133 t133 g133 => ?_)
      cases e133
      first | (rw [hL] at g133; cases g133) | skip
      refine zSiload (m := 1) (k := 3) vr_302_36 rfl rfl rfl (fun x134 e134 => ?_)
      cases e134
      refine zScall vr_302_37 rfl rfl rfl (fun m135 _ => C_copy2 _ _ _ _ _ hn hl2) (fun v135 h135 u135 q135 => ?_) (fun E135 h135 u135 q135 => ?_)
      · obtain ⟨z135, k1⟩ := q135
        cases z135
        show zL zrx zi _ 302 40 [(3, _), (2, _), (0, _), (1, _)] [_, _] _ _ _
        refine zSdupx vr_302_40 rfl rfl ?_
        refine zLput vr_302_41 rfl (fun p137 k137 e137 t137 g137 => ?_)
        cases e137
        refine zSaret vr_302_44 rfl ?_
        exact ⟨_, rfl, grow_end hL k1.1 k1.2.1 k1.2.2.2.1 k1.2.2.2.2.1 k1.2.2.2.2.2 g137⟩
      · obtain ⟨z, -⟩ := q135
        cases z
    · obtain ⟨-, _, z⟩ := q129
      cases z
  · cases e121
    refine zSaload (m := 1) (k := 0) vr_302_10 rfl rfl rfl ?_
    refine zLget vr_302_11 rfl (fun p140 w140 e140 t140 g140 => ?_)
    cases e140
    first | (rw [hL] at g140; cases g140) | skip
    refine zScstV (v := .ref 4) vr_302_14 rfl rfl ?_
    refine zLacmEq (t := 45) vr_302_17 rfl rfl (fun a142 b142 e142 f142 q142 => ?_) (fun a142 b142 e142 f142 q142 => ?_)
    · cases e142
      cases f142
      refine zSaload (m := 1) (k := 0) vr_302_45 rfl rfl rfl ?_
      refine zSp0 (pc' := 48) (st' := .int (10) :: _) vr_302_46 rfl rfl ?_
      refine zSiload (m := 1) (k := 1) vr_302_48 rfl rfl rfl (fun x145 e145 => ?_)
      cases e145
      refine zScall vr_302_49 rfl rfl rfl (fun m146 _ => C_max _ _ _ _ _) (fun v146 h146 u146 q146 => ?_) (fun E146 h146 u146 q146 => ?_)
      · obtain ⟨eh146, z146⟩ := q146
        replace eh146 := eh146.symm
        subst eh146
        cases z146
        show zL zrx zi _ 302 52 [(2, _), (0, _), (1, _)] [_, _] _ _ _
        refine zLanew vr_302_52 rfl (fun m147 k147 u147 e147 n147 g147 => ?_)
        cases e147
        refine zSdupx vr_302_55 rfl rfl ?_
        refine zLput vr_302_56 rfl (fun p149 k149 e149 t149 g149 => ?_)
        cases e149
        refine zSaret vr_302_59 rfl ?_
        have hz : l = 0 := by
          have h1 := g118
          rw [hn] at h1
          cases h1
          have h2 := q121
          have h3 := (toNat_ofNat hl2).2
          simp only [decide_eq_true_eq, i32_lt] at h2
          have z0 : (0 : Int32).toInt = 0 := rfl
          omega
        exact ⟨_, rfl, grow_end hL g147.ext g147.len g147.cn.1 g147.cn.2 (fun k _ k2 => absurd k2 (by omega)) g149⟩
      · obtain ⟨-, z⟩ := q146
        cases z
    · cases e142
      cases f142
      refine zSiload (m := 1) (k := 2) vr_302_20 rfl rfl rfl (fun x151 e151 => ?_)
      cases e151
      refine zSiload (m := 1) (k := 1) vr_302_21 rfl rfl rfl (fun x152 e152 => ?_)
      cases e152
      refine zSiload (m := 1) (k := 2) vr_302_22 rfl rfl rfl (fun x153 e153 => ?_)
      cases e153
      refine zS2 (f := fun x y => .int (x - y)) vr_302_23 rfl rfl (fun x154 y154 e154 f154 => ?_)
      cases e154
      cases f154
      refine zSiload (m := 1) (k := 2) vr_302_24 rfl rfl rfl (fun x155 e155 => ?_)
      cases e155
      refine zSp0 (pc' := 26) (st' := .int (1) :: _) vr_302_25 rfl rfl ?_
      refine zS2 (f := fun x y => .int (x >>> (y &&& 31))) vr_302_26 rfl rfl (fun x157 y157 e157 f157 => ?_)
      cases e157
      cases f157
      refine zScall vr_302_27 rfl rfl rfl (fun m158 _ => C_newLen _ _ _ _ _ _) (fun v158 h158 u158 q158 => ?_) (fun E158 h158 u158 q158 => ?_)
      · obtain ⟨eh158, w158, z158⟩ := q158
        replace eh158 := eh158.symm
        subst eh158
        cases z158
        show zL zrx zi _ 302 30 [(2, _), (0, _), (1, _)] [_] _ _ _
        refine zSistore (m := 1) (k := 3) vr_302_30 rfl rfl (fun x159 e159 => ?_)
        cases e159
        show zL zrx zi _ 302 31 [(3, _), (2, _), (0, _), (1, _)] [] _ _ _
        refine zSaload (m := 1) (k := 0) vr_302_31 rfl rfl rfl ?_
        refine zSaload (m := 1) (k := 0) vr_302_32 rfl rfl rfl ?_
        refine zLget vr_302_33 rfl (fun p162 w162 e162 t162 g162 => ?_)
        cases e162
        first | (rw [hL] at g162; cases g162) | skip
        refine zSiload (m := 1) (k := 3) vr_302_36 rfl rfl rfl (fun x163 e163 => ?_)
        cases e163
        refine zScall vr_302_37 rfl rfl rfl (fun m164 _ => C_copy2 _ _ _ _ _ hn hl2) (fun v164 h164 u164 q164 => ?_) (fun E164 h164 u164 q164 => ?_)
        · obtain ⟨z164, k1⟩ := q164
          cases z164
          show zL zrx zi _ 302 40 [(3, _), (2, _), (0, _), (1, _)] [_, _] _ _ _
          refine zSdupx vr_302_40 rfl rfl ?_
          refine zLput vr_302_41 rfl (fun p166 k166 e166 t166 g166 => ?_)
          cases e166
          refine zSaret vr_302_44 rfl ?_
          exact ⟨_, rfl, grow_end hL k1.1 k1.2.1 k1.2.2.2.1 k1.2.2.2.2.1 k1.2.2.2.2.2 g166⟩
        · obtain ⟨z, -⟩ := q164
          cases z
      · obtain ⟨-, _, z⟩ := q158
        cases z
theorem C_grow1 (n : Nat) (L : Nat) (h : List zC) (u : Nat) {el l : Nat} (hL : gF h L 1 = some (.ref el)) (hn : gN h el = some l) (hl2 : l < 2147483648) : zL zrx zi n 303 0 [(0, .ref L)] [] h u (fun o h2 _ => ∃ r, o = .inl (some r) ∧ lGrow h h2 L el l r) := by
  refine zSaload (m := 1) (k := 0) vr_303_0 rfl rfl rfl ?_
  refine zSaload (m := 1) (k := 0) vr_303_1 rfl rfl rfl ?_
  refine zLget vr_303_2 rfl (fun p170 w170 e170 t170 g170 => ?_)
  cases e170
  refine zSp0 (pc' := 6) (st' := .int (1) :: _) vr_303_5 rfl rfl ?_
  refine zS2 (f := fun x y => .int (x + y)) vr_303_6 rfl rfl (fun x172 y172 e172 f172 => ?_)
  cases e172
  cases f172
  refine zScall vr_303_7 rfl rfl rfl (fun m173 _ => C_grow2 _ _ _ _ _ hL hn hl2) (fun v173 h173 u173 q173 => ?_) (fun E173 h173 u173 q173 => ?_)
  · obtain ⟨r173, z173, k1⟩ := q173
    cases z173
    show zL zrx zi _ 303 10 [(0, _)] [_] _ _ _
    refine zSaret vr_303_10 rfl ?_
    exact ⟨_, rfl, k1⟩
  · obtain ⟨r, z, -⟩ := q173
    cases z
theorem C_add3 (n : Nat) (L e el : Nat) (s : Int32) (h : List zC) (u : Nat) {l : Nat} (hL : gF h L 1 = some (.ref el)) (hn : gN h el = some l) (hl2 : l < 2147483648) (tE : ∃ t, gT h el = some t ∧ 93 ≤ t) : zL zrx zi n 308 0 [(0, .ref L), (1, .ref e), (2, .ref el), (3, .int s)] [] h u (fun o h2 _ => o = .inl none ∧ lAdd h h2 L el s e) := by
  refine zSiload (m := 1) (k := 3) vr_308_0 rfl rfl rfl (fun x175 e175 => ?_)
  cases e175
  refine zSaload (m := 1) (k := 2) vr_308_1 rfl rfl rfl ?_
  refine zLlen vr_308_2 rfl (fun p177 m177 e177 g177 => ?_)
  cases e177
  have hb := g177
  rw [hn] at hb
  cases hb
  refine zSb2 (f := fun x y => decide (¬ x = y)) (off := 8) (t := 11) vr_308_3 rfl rfl rfl (fun x178 y178 e178 f178 q178 => ?_) (fun x178 y178 e178 f178 q178 => ?_)
  · cases e178
    cases f178
    refine zSaload (m := 1) (k := 2) vr_308_11 rfl rfl rfl ?_
    refine zSiload (m := 1) (k := 3) vr_308_12 rfl rfl rfl (fun x180 e180 => ?_)
    cases e180
    refine zSaload (m := 1) (k := 1) vr_308_13 rfl rfl rfl ?_
    refine zLaast2 vr_308_14 rfl (fun p182 x182 z182 k182 e182 f182 d182 c182 t182 l182 g182 => ?_)
    cases e182
    cases f182
    cases d182
    refine zSaload (m := 1) (k := 0) vr_308_15 rfl rfl rfl ?_
    refine zSiload (m := 1) (k := 3) vr_308_16 rfl rfl rfl (fun x184 e184 => ?_)
    cases e184
    refine zSp0 (pc' := 18) (st' := .int (1) :: _) vr_308_17 rfl rfl ?_
    refine zS2 (f := fun x y => .int (x + y)) vr_308_18 rfl rfl (fun x186 y186 e186 f186 => ?_)
    cases e186
    cases f186
    refine zLput vr_308_19 rfl (fun p187 k187 e187 t187 g187 => ?_)
    cases e187
    refine zSvoid vr_308_22 rfl ?_
    first
      | exact ⟨rfl, add_end1 hL t187 t182 c182 g182 g187⟩
      | exact ⟨rfl, add_end2 hL hn hl2 (by simpa using q178) k1 t187 tE l182 c182 g182 g187⟩
  · cases e178
    cases f178
    refine zSaload (m := 1) (k := 0) vr_308_6 rfl rfl rfl ?_
    refine zScall vr_308_7 rfl rfl rfl (fun m190 _ => C_grow1 _ _ _ _ hL hn hl2) (fun v190 h190 u190 q190 => ?_) (fun E190 h190 u190 q190 => ?_)
    · obtain ⟨r190, z190, k1⟩ := q190
      cases z190
      obtain ⟨k2, k3, k4⟩ := k1
      cases k3
      have k1 : lGrow h _ L el l (.ref h.length) := ⟨k2, rfl, k4⟩
      show zL zrx zi _ 308 10 [(0, _), (1, _), (2, _), (3, _)] [_] _ _ _
      refine zSastore (m := 1) (k := 2) vr_308_10 rfl rfl ?_
      show zL zrx zi _ 308 11 [(2, _), (0, _), (1, _), (3, _)] [] _ _ _
      refine zSaload (m := 1) (k := 2) vr_308_11 rfl rfl rfl ?_
      refine zSiload (m := 1) (k := 3) vr_308_12 rfl rfl rfl (fun x193 e193 => ?_)
      cases e193
      refine zSaload (m := 1) (k := 1) vr_308_13 rfl rfl rfl ?_
      refine zLaast2 vr_308_14 rfl (fun p195 x195 z195 k195 e195 f195 d195 c195 t195 l195 g195 => ?_)
      cases e195
      cases f195
      cases d195
      refine zSaload (m := 1) (k := 0) vr_308_15 rfl rfl rfl ?_
      refine zSiload (m := 1) (k := 3) vr_308_16 rfl rfl rfl (fun x197 e197 => ?_)
      cases e197
      refine zSp0 (pc' := 18) (st' := .int (1) :: _) vr_308_17 rfl rfl ?_
      refine zS2 (f := fun x y => .int (x + y)) vr_308_18 rfl rfl (fun x199 y199 e199 f199 => ?_)
      cases e199
      cases f199
      refine zLput vr_308_19 rfl (fun p200 k200 e200 t200 g200 => ?_)
      cases e200
      refine zSvoid vr_308_22 rfl ?_
      first
        | exact ⟨rfl, add_end1 hL t200 t195 c195 g195 g200⟩
        | exact ⟨rfl, add_end2 hL hn hl2 (by simpa using q178) k1 t200 tE l195 c195 g195 g200⟩
    · obtain ⟨r, z, -⟩ := q190
      cases z
theorem C_add (n : Nat) (L e : Nat) (h : List zC) (u : Nat) {el l : Nat} {s : Int32} (hL : gF h L 1 = some (.ref el)) (hs : gF h L 2 = some (.int s)) (hn : gN h el = some l) (hl2 : l < 2147483648) (tE : ∃ t, gT h el = some t ∧ 93 ≤ t) : zL zrx zi n 309 0 [(0, .ref L), (1, .ref e)] [] h u (fun o h2 _ => o = .inl (some (.int 1)) ∧ lAdd h h2 L el s e) := by
  refine zSaload (m := 1) (k := 0) vr_309_0 rfl rfl rfl ?_
  refine zSdup vr_309_1 rfl ?_
  refine zLgmod vr_309_2 rfl (fun p204 w204 e204 t204 g204 => ?_)
  cases e204
  first | (rw [hL1] at g204; cases g204) | (rw [hs1] at g204; cases g204) | skip
  refine zSp0 (pc' := 6) (st' := .int (1) :: _) vr_309_5 rfl rfl ?_
  refine zS2 (f := fun x y => .int (x + y)) vr_309_6 rfl rfl (fun x206 y206 e206 f206 => ?_)
  cases e206
  cases f206
  refine zLpmod vr_309_7 rfl (fun p207 k207 e207 t207 g207 => ?_)
  cases e207
  have p0 := g207
  have hL1 := (p0.2.1 L 1).trans ((if_neg (by omega)).trans hL)
  have hs1 := (p0.2.1 L 2).trans ((if_neg (by omega)).trans hs)
  refine zSaload (m := 1) (k := 0) vr_309_10 rfl rfl rfl ?_
  refine zSaload (m := 1) (k := 1) vr_309_11 rfl rfl rfl ?_
  refine zSaload (m := 1) (k := 0) vr_309_12 rfl rfl rfl ?_
  refine zLget vr_309_13 rfl (fun p211 w211 e211 t211 g211 => ?_)
  cases e211
  first | (rw [hL1] at g211; cases g211) | (rw [hs1] at g211; cases g211) | skip
  refine zSaload (m := 1) (k := 0) vr_309_16 rfl rfl rfl ?_
  refine zLget vr_309_17 rfl (fun p213 w213 e213 t213 g213 => ?_)
  cases e213
  first | (rw [hL1] at g213; cases g213) | (rw [hs1] at g213; cases g213) | skip
  refine zScall vr_309_20 rfl rfl rfl (fun m214 _ => C_add3 _ _ _ _ _ _ _ hL1 ((p0.2.2.2 el).trans hn) hl2 (by rw [p0.2.2.1]; exact tE)) (fun v214 h214 u214 q214 => ?_) (fun E214 h214 u214 q214 => ?_)
  · obtain ⟨z214, k1⟩ := q214
    cases z214
    show zL zrx zi _ 309 23 [(0, _), (1, _)] [] _ _ _
    refine zSp0 (pc' := 24) (st' := .int (1) :: _) vr_309_23 rfl rfl ?_
    refine zLiret vr_309_24 rfl (fun x216 e216 => ?_)
    cases e216
    exact ⟨rfl, k1.pre p0⟩
  · obtain ⟨z, -⟩ := q214
    cases z
theorem C_lsize (n : Nat) (L : Nat) (h : List zC) (u : Nat) {s : Int32} (hs : gF h L 2 = some (.int s)) : zL zrx zi n 304 0 [(0, .ref L)] [] h u (fun o h2 _ => h2 = h ∧ o = .inl (some (.int s))) := by
  refine zSaload (m := 1) (k := 0) vr_304_0 rfl rfl rfl ?_
  refine zLget vr_304_1 rfl (fun p218 w218 e218 t218 g218 => ?_)
  cases e218
  first | (rw [hs] at g218; cases g218) | skip
  refine zLiret vr_304_4 rfl (fun x219 e219 => ?_)
  cases e219
  exact ⟨rfl, rfl⟩
theorem C_chk3 (n : Nat) (x y : Int32) (h : List zC) (u : Nat) : zL zrx zi n 319 0 [(0, .int x), (1, .int y), (2, .null)] [] h u (fun o h2 _ => h2 = h ∧ o = .inl (some (.int x))) := by
  refine zSiload (m := 1) (k := 0) vr_319_0 rfl rfl rfl (fun x220 e220 => ?_)
  cases e220
  refine zSb1 (f := fun x => decide (x < 0)) (off := 8) (t := 9) vr_319_1 rfl rfl rfl (fun x221 e221 q221 => ?_) (fun x221 e221 q221 => ?_)
  · cases e221
    refine zSaload (m := 1) (k := 2) vr_319_9 rfl rfl rfl ?_
    refine zSiload (m := 1) (k := 0) vr_319_10 rfl rfl rfl (fun x223 e223 => ?_)
    cases e223
    refine zSiload (m := 1) (k := 1) vr_319_11 rfl rfl rfl (fun x224 e224 => ?_)
    cases e224
    exact zLnone (by decide +kernel)
  · cases e221
    refine zSiload (m := 1) (k := 0) vr_319_4 rfl rfl rfl (fun x225 e225 => ?_)
    cases e225
    refine zSiload (m := 1) (k := 1) vr_319_5 rfl rfl rfl (fun x226 e226 => ?_)
    cases e226
    refine zSb2 (f := fun x y => decide (x < y)) (off := 10) (t := 16) vr_319_6 rfl rfl rfl (fun x227 y227 e227 f227 q227 => ?_) (fun x227 y227 e227 f227 q227 => ?_)
    · cases e227
      cases f227
      refine zSiload (m := 1) (k := 0) vr_319_16 rfl rfl rfl (fun x228 e228 => ?_)
      cases e228
      refine zLiret vr_319_17 rfl (fun x229 e229 => ?_)
      cases e229
      exact ⟨rfl, rfl⟩
    · cases e227
      cases f227
      refine zSaload (m := 1) (k := 2) vr_319_9 rfl rfl rfl ?_
      refine zSiload (m := 1) (k := 0) vr_319_10 rfl rfl rfl (fun x231 e231 => ?_)
      cases e231
      refine zSiload (m := 1) (k := 1) vr_319_11 rfl rfl rfl (fun x232 e232 => ?_)
      cases e232
      exact zLnone (by decide +kernel)
theorem C_chk2 (n : Nat) (x y : Int32) (h : List zC) (u : Nat) : zL zrx zi n 316 0 [(0, .int x), (1, .int y)] [] h u (fun o h2 _ => h2 = h ∧ o = .inl (some (.int x))) := by
  refine zSiload (m := 1) (k := 0) vr_316_0 rfl rfl rfl (fun x233 e233 => ?_)
  cases e233
  refine zSiload (m := 1) (k := 1) vr_316_1 rfl rfl rfl (fun x234 e234 => ?_)
  cases e234
  refine zSp0 vr_316_2 rfl rfl ?_
  refine zScall vr_316_3 rfl rfl rfl (fun m236 _ => C_chk3 _ _ _ _ _) (fun v236 h236 u236 q236 => ?_) (fun E236 h236 u236 q236 => ?_)
  · obtain ⟨eh236, z236⟩ := q236
    replace eh236 := eh236.symm
    subst eh236
    cases z236
    show zL zrx zi _ 316 6 [(0, _), (1, _)] [_] _ _ _
    refine zLiret vr_316_6 rfl (fun x237 e237 => ?_)
    cases e237
    exact ⟨rfl, rfl⟩
  · obtain ⟨-, z⟩ := q236
    cases z
theorem C_elem (n : Nat) (L : Nat) (k : Int32) (h : List zC) (u : Nat) {el : Nat} (hL : gF h L 1 = some (.ref el)) : zL zrx zi n 305 0 [(0, .ref L), (1, .int k)] [] h u (fun o h2 _ => h2 = h ∧ ¬ k < 0 ∧ ∃ w, o = .inl (some w) ∧ gF h el k.toNatClampNeg = some w) := by
  refine zSaload (m := 1) (k := 0) vr_305_0 rfl rfl rfl ?_
  refine zLget vr_305_1 rfl (fun p239 w239 e239 t239 g239 => ?_)
  cases e239
  first | (rw [hL] at g239; cases g239) | skip
  refine zSiload (m := 1) (k := 1) vr_305_4 rfl rfl rfl (fun x240 e240 => ?_)
  cases e240
  refine zLaald vr_305_5 rfl (fun p241 x241 w241 e241 f241 c241 t241 g241 => ?_)
  cases e241
  cases f241
  first | (rw [hL] at g241; cases g241) | skip
  refine zSaret vr_305_6 rfl ?_
  exact ⟨rfl, c241, _, rfl, g241⟩
theorem C_get (n : Nat) (L : Nat) (k : Int32) (h : List zC) (u : Nat) {el : Nat} {s : Int32} (hL : gF h L 1 = some (.ref el)) (hs : gF h L 2 = some (.int s)) : zL zrx zi n 306 0 [(0, .ref L), (1, .int k)] [] h u (fun o h2 _ => h2 = h ∧ ¬ k < 0 ∧ ∃ w, o = .inl (some w) ∧ gF h el k.toNatClampNeg = some w) := by
  refine zSiload (m := 1) (k := 1) vr_306_0 rfl rfl rfl (fun x243 e243 => ?_)
  cases e243
  refine zSaload (m := 1) (k := 0) vr_306_1 rfl rfl rfl ?_
  refine zLget vr_306_2 rfl (fun p245 w245 e245 t245 g245 => ?_)
  cases e245
  first | (rw [hs] at g245; cases g245) | skip
  refine zScall vr_306_5 rfl rfl rfl (fun m246 _ => C_chk2 _ _ _ _ _) (fun v246 h246 u246 q246 => ?_) (fun E246 h246 u246 q246 => ?_)
  · obtain ⟨eh246, z246⟩ := q246
    replace eh246 := eh246.symm
    subst eh246
    cases z246
    show zL zrx zi _ 306 8 [(0, _), (1, _)] [_] _ _ _
    refine zSpop vr_306_8 rfl ?_
    refine zSaload (m := 1) (k := 0) vr_306_9 rfl rfl rfl ?_
    refine zSiload (m := 1) (k := 1) vr_306_10 rfl rfl rfl (fun x249 e249 => ?_)
    cases e249
    refine zScall vr_306_11 rfl rfl rfl (fun m250 _ => C_elem _ _ _ _ _ hL) (fun v250 h250 u250 q250 => ?_) (fun E250 h250 u250 q250 => ?_)
    · obtain ⟨eh250, k1, w250, z250, k2⟩ := q250
      replace eh250 := eh250.symm
      subst eh250
      cases z250
      show zL zrx zi _ 306 14 [(0, _), (1, _)] [_] _ _ _
      refine zSaret vr_306_14 rfl ?_
      exact ⟨rfl, k1, _, rfl, k2⟩
    · obtain ⟨-, -, w, z, -⟩ := q250
      cases z
  · obtain ⟨-, z⟩ := q246
    cases z
theorem C_bits (n : Nat) (x : Int32) (h : List zC) (u : Nat) : zL zrx zi n 260 0 [(0, .int x)] [] h u (fun o h2 _ => h2 = h ∧ o = .inl (some (.int (bcO x)))) := by
  refine zSiload (m := 1) (k := 0) vr_260_0 rfl rfl rfl (fun x252 e252 => ?_)
  cases e252
  refine zSiload (m := 1) (k := 0) vr_260_1 rfl rfl rfl (fun x253 e253 => ?_)
  cases e253
  refine zSp0 (pc' := 3) (st' := .int (1) :: _) vr_260_2 rfl rfl ?_
  refine zS2 (f := fun x y => .int (x.toUInt32 >>> (y.toUInt32 &&& Int32.toUInt32 31)).toInt32) vr_260_3 rfl rfl (fun x255 y255 e255 f255 => ?_)
  cases e255
  cases f255
  refine zScstV (v := .int (Int32.ofNat 1431655765)) vr_260_4 rfl rfl ?_
  refine zS2 (f := fun x y => .int (x &&& y)) vr_260_7 rfl rfl (fun x257 y257 e257 f257 => ?_)
  cases e257
  cases f257
  refine zS2 (f := fun x y => .int (x - y)) vr_260_8 rfl rfl (fun x258 y258 e258 f258 => ?_)
  cases e258
  cases f258
  refine zSistore (m := 1) (k := 0) vr_260_9 rfl rfl (fun x259 e259 => ?_)
  cases e259
  show zL zrx zi _ 260 10 [(0, _)] [] _ _ _
  refine zSiload (m := 1) (k := 0) vr_260_10 rfl rfl rfl (fun x260 e260 => ?_)
  cases e260
  refine zScstV (v := .int (Int32.ofNat 858993459)) vr_260_11 rfl rfl ?_
  refine zS2 (f := fun x y => .int (x &&& y)) vr_260_14 rfl rfl (fun x262 y262 e262 f262 => ?_)
  cases e262
  cases f262
  refine zSiload (m := 1) (k := 0) vr_260_15 rfl rfl rfl (fun x263 e263 => ?_)
  cases e263
  refine zSp0 (pc' := 17) (st' := .int (2) :: _) vr_260_16 rfl rfl ?_
  refine zS2 (f := fun x y => .int (x.toUInt32 >>> (y.toUInt32 &&& Int32.toUInt32 31)).toInt32) vr_260_17 rfl rfl (fun x265 y265 e265 f265 => ?_)
  cases e265
  cases f265
  refine zScstV (v := .int (Int32.ofNat 858993459)) vr_260_18 rfl rfl ?_
  refine zS2 (f := fun x y => .int (x &&& y)) vr_260_21 rfl rfl (fun x267 y267 e267 f267 => ?_)
  cases e267
  cases f267
  refine zS2 (f := fun x y => .int (x + y)) vr_260_22 rfl rfl (fun x268 y268 e268 f268 => ?_)
  cases e268
  cases f268
  refine zSistore (m := 1) (k := 0) vr_260_23 rfl rfl (fun x269 e269 => ?_)
  cases e269
  show zL zrx zi _ 260 24 [(0, _)] [] _ _ _
  refine zSiload (m := 1) (k := 0) vr_260_24 rfl rfl rfl (fun x270 e270 => ?_)
  cases e270
  refine zSiload (m := 1) (k := 0) vr_260_25 rfl rfl rfl (fun x271 e271 => ?_)
  cases e271
  refine zSp0 (pc' := 27) (st' := .int (4) :: _) vr_260_26 rfl rfl ?_
  refine zS2 (f := fun x y => .int (x.toUInt32 >>> (y.toUInt32 &&& Int32.toUInt32 31)).toInt32) vr_260_27 rfl rfl (fun x273 y273 e273 f273 => ?_)
  cases e273
  cases f273
  refine zS2 (f := fun x y => .int (x + y)) vr_260_28 rfl rfl (fun x274 y274 e274 f274 => ?_)
  cases e274
  cases f274
  refine zScstV (v := .int (Int32.ofNat 252645135)) vr_260_29 rfl rfl ?_
  refine zS2 (f := fun x y => .int (x &&& y)) vr_260_32 rfl rfl (fun x276 y276 e276 f276 => ?_)
  cases e276
  cases f276
  refine zSistore (m := 1) (k := 0) vr_260_33 rfl rfl (fun x277 e277 => ?_)
  cases e277
  show zL zrx zi _ 260 34 [(0, _)] [] _ _ _
  refine zSiload (m := 1) (k := 0) vr_260_34 rfl rfl rfl (fun x278 e278 => ?_)
  cases e278
  refine zSiload (m := 1) (k := 0) vr_260_35 rfl rfl rfl (fun x279 e279 => ?_)
  cases e279
  refine zSp0 (pc' := 38) (st' := .int (8) :: _) vr_260_36 rfl rfl ?_
  refine zS2 (f := fun x y => .int (x.toUInt32 >>> (y.toUInt32 &&& Int32.toUInt32 31)).toInt32) vr_260_38 rfl rfl (fun x281 y281 e281 f281 => ?_)
  cases e281
  cases f281
  refine zS2 (f := fun x y => .int (x + y)) vr_260_39 rfl rfl (fun x282 y282 e282 f282 => ?_)
  cases e282
  cases f282
  refine zSistore (m := 1) (k := 0) vr_260_40 rfl rfl (fun x283 e283 => ?_)
  cases e283
  show zL zrx zi _ 260 41 [(0, _)] [] _ _ _
  refine zSiload (m := 1) (k := 0) vr_260_41 rfl rfl rfl (fun x284 e284 => ?_)
  cases e284
  refine zSiload (m := 1) (k := 0) vr_260_42 rfl rfl rfl (fun x285 e285 => ?_)
  cases e285
  refine zSp0 (pc' := 45) (st' := .int (16) :: _) vr_260_43 rfl rfl ?_
  refine zS2 (f := fun x y => .int (x.toUInt32 >>> (y.toUInt32 &&& Int32.toUInt32 31)).toInt32) vr_260_45 rfl rfl (fun x287 y287 e287 f287 => ?_)
  cases e287
  cases f287
  refine zS2 (f := fun x y => .int (x + y)) vr_260_46 rfl rfl (fun x288 y288 e288 f288 => ?_)
  cases e288
  cases f288
  refine zSistore (m := 1) (k := 0) vr_260_47 rfl rfl (fun x289 e289 => ?_)
  cases e289
  show zL zrx zi _ 260 48 [(0, _)] [] _ _ _
  refine zSiload (m := 1) (k := 0) vr_260_48 rfl rfl rfl (fun x290 e290 => ?_)
  cases e290
  refine zSp0 (pc' := 51) (st' := .int (63) :: _) vr_260_49 rfl rfl ?_
  refine zS2 (f := fun x y => .int (x &&& y)) vr_260_51 rfl rfl (fun x292 y292 e292 f292 => ?_)
  cases e292
  cases f292
  refine zLiret vr_260_52 rfl (fun x293 e293 => ?_)
  cases e293
  exact ⟨rfl, rfl⟩
theorem C_rule (n : Nat) (p m c a b s r : Int32) (h : List zC) (u : Nat) {cnt : Int32} (hS : Stc h) (hc : gF h 28 2 = some (.int cnt)) : zL zrx zi n 60 0 [(0, .ref 16), (1, .int p), (2, .int m), (3, .int c), (4, .int a), (5, .int b), (6, .int s), (7, .int r)] [] h u (fun o h2 _ => match o with
  | .inl v => okR p m c a b s r cnt ∧ (∃ x : Int32, v = some (.int x)) ∧ RM h h2 (31 + cnt.toNatClampNeg) cnt p m c a b s r
  | .inr E => (E = 0 ∨ E = 1 ∨ E = 2) ∧ hExt h h2 ∧ ¬ okR p m c a b s r cnt) := by
  refine zSiload (m := 1) (k := 1) vr_60_0 rfl rfl rfl (fun x294 e294 => ?_)
  cases e294
  refine zSp0 (pc' := 3) (st' := .int (6) :: _) vr_60_1 rfl rfl ?_
  refine zScall vr_60_3 rfl rfl rfl (fun m296 _ => C_num6 _ _ _ _ (m := 6) (by rfl)) (fun v296 h296 u296 q296 => ?_) (fun E296 h296 u296 q296 => ?_)
  · obtain ⟨eh296, rfl, r1⟩ := q296
    replace eh296 := eh296.symm
    subst eh296
    show zL zrx zi _ 60 6 [(0, _), (1, _), (2, _), (3, _), (4, _), (5, _), (6, _), (7, _)] [] _ _ _
    refine zSiload (m := 1) (k := 2) vr_60_6 rfl rfl rfl (fun x297 e297 => ?_)
    cases e297
    refine zSp0 (pc' := 8) (st' := .int (4) :: _) vr_60_7 rfl rfl ?_
    refine zScall vr_60_8 rfl rfl rfl (fun m299 _ => C_num6 _ _ _ _ (m := 4) (by rfl)) (fun v299 h299 u299 q299 => ?_) (fun E299 h299 u299 q299 => ?_)
    · obtain ⟨eh299, rfl, r2⟩ := q299
      replace eh299 := eh299.symm
      subst eh299
      show zL zrx zi _ 60 11 [(0, _), (1, _), (2, _), (3, _), (4, _), (5, _), (6, _), (7, _)] [] _ _ _
      refine zSiload (m := 1) (k := 3) vr_60_11 rfl rfl rfl (fun x300 e300 => ?_)
      cases e300
      refine zSp0 (pc' := 13) (st' := .int (1) :: _) vr_60_12 rfl rfl ?_
      refine zSp0 (pc' := 15) (st' := .int (15) :: _) vr_60_13 rfl rfl ?_
      refine zScall vr_60_15 rfl rfl rfl (fun m303 _ => C_val _ _ _ _ _ _) (fun v303 h303 u303 q303 => ?_) (fun E303 h303 u303 q303 => ?_)
      · obtain ⟨eh303, rfl, r3⟩ := q303
        replace eh303 := eh303.symm
        subst eh303
        show zL zrx zi _ 60 18 [(0, _), (1, _), (2, _), (3, _), (4, _), (5, _), (6, _), (7, _)] [] _ _ _
        refine zSiload (m := 2) (k := 4) vr_60_18 rfl rfl rfl (fun x304 e304 => ?_)
        cases e304
        refine zSp0 (pc' := 21) (st' := .int (0) :: _) vr_60_20 rfl rfl ?_
        refine zSp0 (pc' := 23) (st' := .int (63) :: _) vr_60_21 rfl rfl ?_
        refine zScall vr_60_23 rfl rfl rfl (fun m307 _ => C_val _ _ _ _ _ _) (fun v307 h307 u307 q307 => ?_) (fun E307 h307 u307 q307 => ?_)
        · obtain ⟨eh307, rfl, r4⟩ := q307
          replace eh307 := eh307.symm
          subst eh307
          show zL zrx zi _ 60 26 [(0, _), (1, _), (2, _), (3, _), (4, _), (5, _), (6, _), (7, _)] [] _ _ _
          refine zSiload (m := 2) (k := 5) vr_60_26 rfl rfl rfl (fun x308 e308 => ?_)
          cases e308
          refine zSp0 (pc' := 29) (st' := .int (0) :: _) vr_60_28 rfl rfl ?_
          refine zSp0 (pc' := 31) (st' := .int (63) :: _) vr_60_29 rfl rfl ?_
          refine zScall vr_60_31 rfl rfl rfl (fun m311 _ => C_val _ _ _ _ _ _) (fun v311 h311 u311 q311 => ?_) (fun E311 h311 u311 q311 => ?_)
          · obtain ⟨eh311, rfl, r5⟩ := q311
            replace eh311 := eh311.symm
            subst eh311
            show zL zrx zi _ 60 34 [(0, _), (1, _), (2, _), (3, _), (4, _), (5, _), (6, _), (7, _)] [] _ _ _
            refine zSiload (m := 2) (k := 4) vr_60_34 rfl rfl rfl (fun x312 e312 => ?_)
            cases e312
            refine zSiload (m := 2) (k := 5) vr_60_36 rfl rfl rfl (fun x313 e313 => ?_)
            cases e313
            refine zS2 (f := fun x y => .int (x &&& y)) vr_60_38 rfl rfl (fun x314 y314 e314 f314 => ?_)
            cases e314
            cases f314
            refine zSp0 (pc' := 40) (st' := .int (0) :: _) vr_60_39 rfl rfl ?_
            refine zSp0 (pc' := 41) (st' := .int (0) :: _) vr_60_40 rfl rfl ?_
            refine zScall vr_60_41 rfl rfl rfl (fun m317 _ => C_val _ _ _ _ _ _) (fun v317 h317 u317 q317 => ?_) (fun E317 h317 u317 q317 => ?_)
            · obtain ⟨eh317, rfl, r6⟩ := q317
              replace eh317 := eh317.symm
              subst eh317
              show zL zrx zi _ 60 44 [(0, _), (1, _), (2, _), (3, _), (4, _), (5, _), (6, _), (7, _)] [] _ _ _
              refine zSiload (m := 2) (k := 6) vr_60_44 rfl rfl rfl (fun x318 e318 => ?_)
              cases e318
              refine zSp0 (pc' := 47) (st' := .int (0) :: _) vr_60_46 rfl rfl ?_
              refine zSp0 (pc' := 49) (st' := .int (100) :: _) vr_60_47 rfl rfl ?_
              refine zScall vr_60_49 rfl rfl rfl (fun m321 _ => C_val _ _ _ _ _ _) (fun v321 h321 u321 q321 => ?_) (fun E321 h321 u321 q321 => ?_)
              · obtain ⟨eh321, rfl, r7⟩ := q321
                replace eh321 := eh321.symm
                subst eh321
                show zL zrx zi _ 60 52 [(0, _), (1, _), (2, _), (3, _), (4, _), (5, _), (6, _), (7, _)] [] _ _ _
                refine zSiload (m := 2) (k := 7) vr_60_52 rfl rfl rfl (fun x322 e322 => ?_)
                cases e322
                refine zSp0 (pc' := 55) (st' := .int (1) :: _) vr_60_54 rfl rfl ?_
                refine zSp0 (pc' := 56) (st' := .int (5) :: _) vr_60_55 rfl rfl ?_
                refine zScall vr_60_56 rfl rfl rfl (fun m325 _ => C_val _ _ _ _ _ _) (fun v325 h325 u325 q325 => ?_) (fun E325 h325 u325 q325 => ?_)
                · obtain ⟨eh325, rfl, r8⟩ := q325
                  replace eh325 := eh325.symm
                  subst eh325
                  show zL zrx zi _ 60 59 [(0, _), (1, _), (2, _), (3, _), (4, _), (5, _), (6, _), (7, _)] [] _ _ _
                  refine zSaload (m := 1) (k := 0) vr_60_59 rfl rfl rfl ?_
                  refine zLget vr_60_60 rfl (fun p327 w327 e327 t327 g327 => ?_)
                  cases e327
                  first | (rw [(st_16_9 hS)] at g327; cases g327) | (rw [(st_28_0 hS)] at g327; cases g327) | (rw [hc] at g327; cases g327) | (rw [(st_rule hS hk)] at g327; cases g327) | skip
                  refine zLget vr_60_63 rfl (fun p328 w328 e328 t328 g328 => ?_)
                  cases e328
                  first | (rw [(st_16_9 hS)] at g328; cases g328) | (rw [(st_28_0 hS)] at g328; cases g328) | (rw [hc] at g328; cases g328) | (rw [(st_rule hS hk)] at g328; cases g328) | skip
                  refine zSp0 (pc' := 68) (st' := .int (40) :: _) vr_60_66 rfl rfl ?_
                  refine zSb2 (f := fun x y => decide (y ≤ x)) (off := 7) (t := 75) vr_60_68 rfl rfl rfl (fun x330 y330 e330 f330 q330 => ?_) (fun x330 y330 e330 f330 q330 => ?_)
                  · cases e330
                    cases f330
                    refine zSp0 (pc' := 76) (st' := .int (0) :: _) vr_60_75 rfl rfl ?_
                    refine zScall vr_60_76 rfl rfl rfl (fun m _ => C_needState _ _ _ _) (fun v h u q => absurd rfl q.2.2) (fun E h3 u q => ?_)
                    obtain ⟨rfl, -, q2⟩ := q
                    rw [zCat_no vh_60_76_2]
                    refine ⟨Or.inr (Or.inr rfl), q2, fun z => ?_⟩
                    have y := q330
                    have z40 : (40 : Int32).toInt = 40 := rfl
                    simp only [decide_eq_true_eq, i32_le] at y
                    have := z.2.2
                    omega
                  · cases e330
                    cases f330
                    have hcn : cnt.toInt < 40 := by
                      have y := q330
                      have z40 : (40 : Int32).toInt = 40 := rfl
                      simp only [decide_eq_true_eq, i32_le] at y
                      omega
                    have hk := n40 hcn
                    refine zSp0 (pc' := 72) (st' := .int (1) :: _) vr_60_71 rfl rfl ?_
                    refine zSgo (t := 76) vr_60_72 rfl rfl ?_
                    refine zScall vr_60_76 rfl rfl rfl (fun m333 _ => C_needState _ _ _ _) (fun v333 h333 u333 q333 => ?_) (fun E333 h333 u333 q333 => ?_)
                    · obtain ⟨eh333, rfl, -⟩ := q333
                      replace eh333 := eh333.symm
                      subst eh333
                      show zL zrx zi _ 60 79 [(0, _), (1, _), (2, _), (3, _), (4, _), (5, _), (6, _), (7, _)] [] _ _ _
                      refine zSaload (m := 1) (k := 0) vr_60_79 rfl rfl rfl ?_
                      refine zLget vr_60_80 rfl (fun p335 w335 e335 t335 g335 => ?_)
                      cases e335
                      first | (rw [(st_16_9 hS)] at g335; cases g335) | (rw [(st_28_0 hS)] at g335; cases g335) | (rw [hc] at g335; cases g335) | (rw [(st_rule hS hk)] at g335; cases g335) | skip
                      refine zLget vr_60_83 rfl (fun p336 w336 e336 t336 g336 => ?_)
                      cases e336
                      first | (rw [(st_16_9 hS)] at g336; cases g336) | (rw [(st_28_0 hS)] at g336; cases g336) | (rw [hc] at g336; cases g336) | (rw [(st_rule hS hk)] at g336; cases g336) | skip
                      refine zSaload (m := 1) (k := 0) vr_60_86 rfl rfl rfl ?_
                      refine zLget vr_60_87 rfl (fun p338 w338 e338 t338 g338 => ?_)
                      cases e338
                      first | (rw [(st_16_9 hS)] at g338; cases g338) | (rw [(st_28_0 hS)] at g338; cases g338) | (rw [hc] at g338; cases g338) | (rw [(st_rule hS hk)] at g338; cases g338) | skip
                      refine zLget vr_60_90 rfl (fun p339 w339 e339 t339 g339 => ?_)
                      cases e339
                      first | (rw [(st_16_9 hS)] at g339; cases g339) | (rw [(st_28_0 hS)] at g339; cases g339) | (rw [hc] at g339; cases g339) | (rw [(st_rule hS hk)] at g339; cases g339) | skip
                      refine zLaald vr_60_93 rfl (fun p340 x340 w340 e340 f340 c340 t340 g340 => ?_)
                      cases e340
                      cases f340
                      first | (rw [(st_16_9 hS)] at g340; cases g340) | (rw [(st_28_0 hS)] at g340; cases g340) | (rw [hc] at g340; cases g340) | (rw [(st_rule hS hk)] at g340; cases g340) | skip
                      refine zSastore (m := 2) (k := 8) vr_60_94 rfl rfl ?_
                      show zL zrx zi _ 60 96 [(8, _), (0, _), (1, _), (2, _), (3, _), (4, _), (5, _), (6, _), (7, _)] [] _ _ _
                      refine zSaload (m := 2) (k := 8) vr_60_96 rfl rfl rfl ?_
                      refine zSiload (m := 1) (k := 1) vr_60_98 rfl rfl rfl (fun x343 e343 => ?_)
                      cases e343
                      refine zLput vr_60_99 rfl (fun p344 k344 e344 t344 g344 => ?_)
                      cases e344
                      refine zSaload (m := 2) (k := 8) vr_60_102 rfl rfl rfl ?_
                      refine zSiload (m := 1) (k := 2) vr_60_104 rfl rfl rfl (fun x346 e346 => ?_)
                      cases e346
                      refine zLput vr_60_105 rfl (fun p347 k347 e347 t347 g347 => ?_)
                      cases e347
                      refine zSaload (m := 2) (k := 8) vr_60_108 rfl rfl rfl ?_
                      refine zSiload (m := 1) (k := 3) vr_60_110 rfl rfl rfl (fun x349 e349 => ?_)
                      cases e349
                      refine zLput vr_60_111 rfl (fun p350 k350 e350 t350 g350 => ?_)
                      cases e350
                      refine zSaload (m := 2) (k := 8) vr_60_114 rfl rfl rfl ?_
                      refine zSiload (m := 2) (k := 4) vr_60_116 rfl rfl rfl (fun x352 e352 => ?_)
                      cases e352
                      refine zLput vr_60_118 rfl (fun p353 k353 e353 t353 g353 => ?_)
                      cases e353
                      refine zSaload (m := 2) (k := 8) vr_60_121 rfl rfl rfl ?_
                      refine zSiload (m := 2) (k := 5) vr_60_123 rfl rfl rfl (fun x355 e355 => ?_)
                      cases e355
                      refine zLput vr_60_125 rfl (fun p356 k356 e356 t356 g356 => ?_)
                      cases e356
                      refine zSaload (m := 2) (k := 8) vr_60_128 rfl rfl rfl ?_
                      refine zSiload (m := 2) (k := 6) vr_60_130 rfl rfl rfl (fun x358 e358 => ?_)
                      cases e358
                      refine zLput vr_60_132 rfl (fun p359 k359 e359 t359 g359 => ?_)
                      cases e359
                      refine zSaload (m := 2) (k := 8) vr_60_135 rfl rfl rfl ?_
                      refine zSiload (m := 2) (k := 7) vr_60_137 rfl rfl rfl (fun x361 e361 => ?_)
                      cases e361
                      refine zLput vr_60_139 rfl (fun p362 k362 e362 t362 g362 => ?_)
                      cases e362
                      refine zSaload (m := 2) (k := 8) vr_60_142 rfl rfl rfl ?_
                      refine zSp0 (pc' := 146) (st' := .int (10) :: _) vr_60_144 rfl rfl ?_
                      refine zSiload (m := 2) (k := 4) vr_60_146 rfl rfl rfl (fun x365 e365 => ?_)
                      cases e365
                      refine zSiload (m := 2) (k := 5) vr_60_148 rfl rfl rfl (fun x366 e366 => ?_)
                      cases e366
                      refine zS2 (f := fun x y => .int (x ||| y)) vr_60_150 rfl rfl (fun x367 y367 e367 f367 => ?_)
                      cases e367
                      cases f367
                      refine zScall vr_60_151 rfl rfl rfl (fun m368 _ => C_bits _ _ _ _) (fun v368 h368 u368 q368 => ?_) (fun E368 h368 u368 q368 => ?_)
                      · obtain ⟨eh368, z368⟩ := q368
                        replace eh368 := eh368.symm
                        subst eh368
                        cases z368
                        show zL zrx zi _ 60 154 [(8, _), (0, _), (1, _), (2, _), (3, _), (4, _), (5, _), (6, _), (7, _)] [_, _, _] _ _ _
                        refine zS2 (f := fun x y => .int (x * y)) vr_60_154 rfl rfl (fun x369 y369 e369 f369 => ?_)
                        cases e369
                        cases f369
                        refine zSiload (m := 2) (k := 7) vr_60_155 rfl rfl rfl (fun x370 e370 => ?_)
                        cases e370
                        refine zS2 (f := fun x y => .int (x + y)) vr_60_157 rfl rfl (fun x371 y371 e371 f371 => ?_)
                        cases e371
                        cases f371
                        refine zLput vr_60_158 rfl (fun p372 k372 e372 t372 g372 => ?_)
                        cases e372
                        have fr1 : ∀ q k, ¬ q = (31 + cnt.toNatClampNeg) → gF k372 q k = gF h q k := fun q k z => by
                          rw [g372.2.1, if_neg (fun y => z y.1), g362.2.1, if_neg (fun y => z y.1), g359.2.1, if_neg (fun y => z y.1), g356.2.1, if_neg (fun y => z y.1), g353.2.1, if_neg (fun y => z y.1), g350.2.1, if_neg (fun y => z y.1), g347.2.1, if_neg (fun y => z y.1), g344.2.1, if_neg (fun y => z y.1)]
                        refine zSaload (m := 2) (k := 8) vr_60_161 rfl rfl rfl ?_
                        refine zSaload (m := 1) (k := 0) vr_60_163 rfl rfl rfl ?_
                        refine zLget vr_60_164 rfl (fun p375 w375 e375 t375 g375 => ?_)
                        cases e375
                        first | (rw [((fr1 16 9 (by omega)).trans (st_16_9 hS))] at g375; cases g375) | skip
                        have gd := g375
                        rw [fr1 16 0 (by omega)] at gd
                        refine zLput vr_60_167 rfl (fun p376 k376 e376 t376 g376 => ?_)
                        cases e376
                        have fr2 : ∀ q k, ¬ q = (31 + cnt.toNatClampNeg) → gF k376 q k = gF h q k := fun q k z => by
                          rw [g376.2.1, if_neg (fun y => z y.1), g372.2.1, if_neg (fun y => z y.1), g362.2.1, if_neg (fun y => z y.1), g359.2.1, if_neg (fun y => z y.1), g356.2.1, if_neg (fun y => z y.1), g353.2.1, if_neg (fun y => z y.1), g350.2.1, if_neg (fun y => z y.1), g347.2.1, if_neg (fun y => z y.1), g344.2.1, if_neg (fun y => z y.1)]
                        refine zSaload (m := 1) (k := 0) vr_60_170 rfl rfl rfl ?_
                        refine zLget vr_60_171 rfl (fun p378 w378 e378 t378 g378 => ?_)
                        cases e378
                        first | (rw [((fr2 16 9 (by omega)).trans (st_16_9 hS))] at g378; cases g378) | (rw [((fr2 28 2 (by omega)).trans hc)] at g378; cases g378) | skip
                        refine zSdup vr_60_174 rfl ?_
                        refine zLget vr_60_175 rfl (fun p380 w380 e380 t380 g380 => ?_)
                        cases e380
                        first | (rw [((fr2 16 9 (by omega)).trans (st_16_9 hS))] at g380; cases g380) | (rw [((fr2 28 2 (by omega)).trans hc)] at g380; cases g380) | skip
                        refine zSp0 (pc' := 179) (st' := .int (1) :: _) vr_60_178 rfl rfl ?_
                        refine zS2 (f := fun x y => .int (x + y)) vr_60_179 rfl rfl (fun x382 y382 e382 f382 => ?_)
                        cases e382
                        cases f382
                        refine zLput vr_60_180 rfl (fun p383 k383 e383 t383 g383 => ?_)
                        cases e383
                        have fr3 : ∀ q k, ¬ q = (31 + cnt.toNatClampNeg) → ¬ (q = 28 ∧ k = 2) → gF k383 q k = gF h q k := fun q k z y => by
                          rw [g383.2.1, if_neg y, fr2 q k z]
                        have cn3 : gF k383 28 2 = some (.int (cnt + 1)) := by
                          rw [g383.2.1, if_pos ⟨rfl, rfl⟩]
                        refine zSaload (m := 1) (k := 0) vr_60_183 rfl rfl rfl ?_
                        refine zLget vr_60_184 rfl (fun p385 w385 e385 t385 g385 => ?_)
                        cases e385
                        first | (rw [((fr3 16 9 (by omega) (by omega)).trans (st_16_9 hS))] at g385; cases g385) | (rw [cn3] at g385; cases g385) | skip
                        refine zLget vr_60_187 rfl (fun p386 w386 e386 t386 g386 => ?_)
                        cases e386
                        first | (rw [((fr3 16 9 (by omega) (by omega)).trans (st_16_9 hS))] at g386; cases g386) | (rw [cn3] at g386; cases g386) | skip
                        refine zSp0 (pc' := 191) (st' := .int (1) :: _) vr_60_190 rfl rfl ?_
                        refine zS2 (f := fun x y => .int (x - y)) vr_60_191 rfl rfl (fun x388 y388 e388 f388 => ?_)
                        cases e388
                        cases f388
                        refine zLiret vr_60_192 rfl (fun x389 e389 => ?_)
                        cases e389
                        exact ⟨⟨⟨r1, r2⟩, ⟨r3, r4, r5, r6, r7, r8⟩, hcn⟩, ⟨_, rfl⟩, fr3, cn3, ⟨by rw [g383.2.1, if_neg (by omega), g376.2.1, if_neg (by omega), g372.2.1, if_neg (by omega), g362.2.1, if_neg (by omega), g359.2.1, if_neg (by omega), g356.2.1, if_neg (by omega), g353.2.1, if_neg (by omega), g350.2.1, if_neg (by omega), g347.2.1, if_neg (by omega), g344.2.1, if_pos ⟨rfl, rfl⟩], by rw [g383.2.1, if_neg (by omega), g376.2.1, if_neg (by omega), g372.2.1, if_neg (by omega), g362.2.1, if_neg (by omega), g359.2.1, if_neg (by omega), g356.2.1, if_neg (by omega), g353.2.1, if_neg (by omega), g350.2.1, if_neg (by omega), g347.2.1, if_pos ⟨rfl, rfl⟩], by rw [g383.2.1, if_neg (by omega), g376.2.1, if_neg (by omega), g372.2.1, if_neg (by omega), g362.2.1, if_neg (by omega), g359.2.1, if_neg (by omega), g356.2.1, if_neg (by omega), g353.2.1, if_neg (by omega), g350.2.1, if_pos ⟨rfl, rfl⟩], by rw [g383.2.1, if_neg (by omega), g376.2.1, if_neg (by omega), g372.2.1, if_neg (by omega), g362.2.1, if_neg (by omega), g359.2.1, if_neg (by omega), g356.2.1, if_neg (by omega), g353.2.1, if_pos ⟨rfl, rfl⟩], by rw [g383.2.1, if_neg (by omega), g376.2.1, if_neg (by omega), g372.2.1, if_neg (by omega), g362.2.1, if_neg (by omega), g359.2.1, if_neg (by omega), g356.2.1, if_pos ⟨rfl, rfl⟩], by rw [g383.2.1, if_neg (by omega), g376.2.1, if_neg (by omega), g372.2.1, if_neg (by omega), g362.2.1, if_neg (by omega), g359.2.1, if_pos ⟨rfl, rfl⟩], by rw [g383.2.1, if_neg (by omega), g376.2.1, if_neg (by omega), g372.2.1, if_neg (by omega), g362.2.1, if_pos ⟨rfl, rfl⟩]⟩, by rw [g383.2.1, if_neg (by omega), g376.2.1, if_neg (by omega), g372.2.1, if_pos ⟨rfl, rfl⟩], Eq.trans (by rw [g383.2.1, if_neg (by omega), g376.2.1, if_pos ⟨rfl, rfl⟩]) gd.symm, by rw [g383.2.1, if_neg (by omega), g376.2.1, if_neg (by omega), g372.2.1, if_neg (by omega), g362.2.1, if_neg (by omega), g359.2.1, if_neg (by omega), g356.2.1, if_neg (by omega), g353.2.1, if_neg (by omega), g350.2.1, if_neg (by omega), g347.2.1, if_neg (by omega), g344.2.1, if_neg (by omega)], by rw [g383.2.1, if_neg (by omega), g376.2.1, if_neg (by omega), g372.2.1, if_neg (by omega), g362.2.1, if_neg (by omega), g359.2.1, if_neg (by omega), g356.2.1, if_neg (by omega), g353.2.1, if_neg (by omega), g350.2.1, if_neg (by omega), g347.2.1, if_neg (by omega), g344.2.1, if_neg (by omega)], by rw [g383.1, g376.1, g372.1, g362.1, g359.1, g356.1, g353.1, g350.1, g347.1, g344.1], fun p => ⟨by rw [g383.2.2.1, g376.2.2.1, g372.2.2.1, g362.2.2.1, g359.2.2.1, g356.2.2.1, g353.2.2.1, g350.2.2.1, g347.2.2.1, g344.2.2.1], by rw [g383.2.2.2, g376.2.2.2, g372.2.2.2, g362.2.2.2, g359.2.2.2, g356.2.2.2, g353.2.2.2, g350.2.2.2, g347.2.2.2, g344.2.2.2]⟩⟩
                      · obtain ⟨-, z⟩ := q368
                        cases z
                    · obtain ⟨-, z, -⟩ := q333
                      exact absurd z (by decide)
                · obtain ⟨rfl, q1, q2⟩ := q325
                  rw [zCat_no vh_60_56_1]
                  exact ⟨Or.inr (Or.inl rfl), q2, fun z => q1 z.2.1.2.2.2.2.2⟩
              · obtain ⟨rfl, q1, q2⟩ := q321
                rw [zCat_no vh_60_49_1]
                exact ⟨Or.inr (Or.inl rfl), q2, fun z => q1 z.2.1.2.2.2.2.1⟩
            · obtain ⟨rfl, q1, q2⟩ := q317
              rw [zCat_no vh_60_41_1]
              exact ⟨Or.inr (Or.inl rfl), q2, fun z => q1 z.2.1.2.2.2.1⟩
          · obtain ⟨rfl, q1, q2⟩ := q311
            rw [zCat_no vh_60_31_1]
            exact ⟨Or.inr (Or.inl rfl), q2, fun z => q1 z.2.1.2.2.1⟩
        · obtain ⟨rfl, q1, q2⟩ := q307
          rw [zCat_no vh_60_23_1]
          exact ⟨Or.inr (Or.inl rfl), q2, fun z => q1 z.2.1.2.1⟩
      · obtain ⟨rfl, q1, q2⟩ := q303
        rw [zCat_no vh_60_15_1]
        exact ⟨Or.inr (Or.inl rfl), q2, fun z => q1 z.2.1.1⟩
    · obtain ⟨rfl, q1, q2⟩ := q299
      rw [zCat_no vh_60_8_0]
      exact ⟨Or.inl rfl, q2, fun z => q1 z.1.2⟩
  · obtain ⟨rfl, q1, q2⟩ := q296
    rw [zCat_no vh_60_3_0]
    exact ⟨Or.inl rfl, q2, fun z => q1 z.1.1⟩
abbrev Q_Lrule (cnt : Int32) (p m c a b s r : Int32) (h : List zC) : zK := fun o h2 _ => ∃ k : Int32, o = .inl (some (.int k)) ∧ ((k = 0 ∧ okR p m c a b s r cnt ∧ ∃ (h1 : List zC) (w : Value), RM h h1 (31 + cnt.toNatClampNeg) cnt p m c a b s r ∧ hPut h1 h2 238 0 w) ∨ (¬ k = 0 ∧ ¬ okR p m c a b s r cnt ∧ hExt h h2))
theorem C_Lrule (n : Nat) (p m c a b s r : Int32) (h : List zC) (u : Nat) {cnt : Int32} (hS : Stc h) (hc : gF h 28 2 = some (.int cnt)) : zL zrx zi n 211 0 [(0, .ref 16), (1, .int p), (2, .int m), (3, .int c), (4, .int a), (5, .int b), (6, .int s), (7, .int r), (8, .ref 238)] [] h u (Q_Lrule cnt p m c a b s r h) := by
  refine zSaload (m := 2) (k := 8) vr_211_0 rfl rfl rfl ?_
  refine zSaload (m := 1) (k := 0) vr_211_2 rfl rfl rfl ?_
  refine zSiload (m := 1) (k := 1) vr_211_3 rfl rfl rfl (fun x392 e392 => ?_)
  cases e392
  refine zSiload (m := 1) (k := 2) vr_211_4 rfl rfl rfl (fun x393 e393 => ?_)
  cases e393
  refine zSiload (m := 1) (k := 3) vr_211_5 rfl rfl rfl (fun x394 e394 => ?_)
  cases e394
  refine zSiload (m := 2) (k := 4) vr_211_6 rfl rfl rfl (fun x395 e395 => ?_)
  cases e395
  refine zSiload (m := 2) (k := 5) vr_211_8 rfl rfl rfl (fun x396 e396 => ?_)
  cases e396
  refine zSiload (m := 2) (k := 6) vr_211_10 rfl rfl rfl (fun x397 e397 => ?_)
  cases e397
  refine zSiload (m := 2) (k := 7) vr_211_12 rfl rfl rfl (fun x398 e398 => ?_)
  cases e398
  refine zScall vr_211_14 rfl rfl rfl (fun m399 _ => C_rule _ _ _ _ _ _ _ _ _ _ hS hc) (fun v399 h399 u399 q399 => ?_) (fun E399 h399 u399 q399 => ?_)
  · obtain ⟨k1, ⟨x399, rfl⟩, k2⟩ := q399
    show zL zrx zi _ 211 17 [(0, _), (1, _), (2, _), (3, _), (4, _), (5, _), (6, _), (7, _), (8, _)] [_, _] _ _ _
    refine zS1 (f := fun x => .long x.toInt64) vr_211_17 rfl rfl (fun x400 e400 => ?_)
    cases e400
    refine zLput vr_211_18 rfl (fun p401 k401 e401 t401 g401 => ?_)
    cases e401
    have gP := g401
    refine zSgo (t := 36) vr_211_21 rfl rfl ?_
    refine zSp0 (pc' := 37) (st' := .int (0) :: _) vr_211_36 rfl rfl ?_
    refine zLiret vr_211_37 rfl (fun x404 e404 => ?_)
    cases e404
    exact ⟨_, rfl, Or.inl ⟨rfl, k1, _, _, k2, gP⟩⟩
  · obtain ⟨e, q1, z⟩ := q399
    rcases e with rfl | rfl | rfl
    · rw [zCat_hit (k := 9) (m := 2) vh_211_14_0 vr_211_24 rfl (by decide)]
      show zL zrx zi _ 211 26 [(0, _), (1, _), (2, _), (3, _), (4, _), (5, _), (6, _), (7, _), (8, _)] [] _ _ _
      refine zSp0 (pc' := 27) (st' := .int (1) :: _) vr_211_26 rfl rfl ?_
      refine zLiret vr_211_27 rfl (fun x406 e406 => ?_)
      cases e406
      exact ⟨_, rfl, Or.inr ⟨by decide, z, q1⟩⟩
    · rw [zCat_hit (k := 9) (m := 2) vh_211_14_1 vr_211_28 rfl (by decide)]
      show zL zrx zi _ 211 30 [(0, _), (1, _), (2, _), (3, _), (4, _), (5, _), (6, _), (7, _), (8, _)] [] _ _ _
      refine zSp0 (pc' := 31) (st' := .int (2) :: _) vr_211_30 rfl rfl ?_
      refine zLiret vr_211_31 rfl (fun x408 e408 => ?_)
      cases e408
      exact ⟨_, rfl, Or.inr ⟨by decide, z, q1⟩⟩
    · rw [zCat_hit (k := 9) (m := 2) vh_211_14_2 vr_211_32 rfl (by decide)]
      show zL zrx zi _ 211 34 [(0, _), (1, _), (2, _), (3, _), (4, _), (5, _), (6, _), (7, _), (8, _)] [] _ _ _
      refine zSp0 (pc' := 35) (st' := .int (3) :: _) vr_211_34 rfl rfl ?_
      refine zLiret vr_211_35 rfl (fun x410 e410 => ?_)
      cases e410
      exact ⟨_, rfl, Or.inr ⟨by decide, z, q1⟩⟩
theorem C_irule (n : Nat) (q : Nat) (p m c a b s r d : Int32) (h : List zC) (u : Nat) : zL zrx zi n 126 0 [(0, .ref q), (1, .int p), (2, .int m), (3, .int c), (4, .int a), (5, .int b), (6, .int s), (7, .int r), (8, .int d)] [] h u (fun o h2 _ => o = .inl none ∧ IM h h2 q p m c a b s r d) := by
  refine zSaload (m := 1) (k := 0) vr_126_0 rfl rfl rfl ?_
  refine zSobj vr_126_1 rfl ?_
  refine zSaload (m := 1) (k := 0) vr_126_4 rfl rfl rfl ?_
  refine zSp0 (pc' := 8) (st' := .int (999) :: _) vr_126_5 rfl rfl ?_
  refine zLput vr_126_8 rfl (fun p415 k415 e415 t415 g415 => ?_)
  cases e415
  refine zSaload (m := 1) (k := 0) vr_126_11 rfl rfl rfl ?_
  refine zSiload (m := 1) (k := 1) vr_126_12 rfl rfl rfl (fun x417 e417 => ?_)
  cases e417
  refine zLput vr_126_13 rfl (fun p418 k418 e418 t418 g418 => ?_)
  cases e418
  refine zSaload (m := 1) (k := 0) vr_126_16 rfl rfl rfl ?_
  refine zSiload (m := 1) (k := 2) vr_126_17 rfl rfl rfl (fun x420 e420 => ?_)
  cases e420
  refine zLput vr_126_18 rfl (fun p421 k421 e421 t421 g421 => ?_)
  cases e421
  refine zSaload (m := 1) (k := 0) vr_126_21 rfl rfl rfl ?_
  refine zSiload (m := 1) (k := 3) vr_126_22 rfl rfl rfl (fun x423 e423 => ?_)
  cases e423
  refine zLput vr_126_23 rfl (fun p424 k424 e424 t424 g424 => ?_)
  cases e424
  refine zSaload (m := 1) (k := 0) vr_126_26 rfl rfl rfl ?_
  refine zSiload (m := 2) (k := 4) vr_126_27 rfl rfl rfl (fun x426 e426 => ?_)
  cases e426
  refine zLput vr_126_29 rfl (fun p427 k427 e427 t427 g427 => ?_)
  cases e427
  refine zSaload (m := 1) (k := 0) vr_126_32 rfl rfl rfl ?_
  refine zSiload (m := 2) (k := 5) vr_126_33 rfl rfl rfl (fun x429 e429 => ?_)
  cases e429
  refine zLput vr_126_35 rfl (fun p430 k430 e430 t430 g430 => ?_)
  cases e430
  refine zSaload (m := 1) (k := 0) vr_126_38 rfl rfl rfl ?_
  refine zSiload (m := 2) (k := 6) vr_126_39 rfl rfl rfl (fun x432 e432 => ?_)
  cases e432
  refine zLput vr_126_41 rfl (fun p433 k433 e433 t433 g433 => ?_)
  cases e433
  refine zSaload (m := 1) (k := 0) vr_126_44 rfl rfl rfl ?_
  refine zSiload (m := 2) (k := 7) vr_126_45 rfl rfl rfl (fun x435 e435 => ?_)
  cases e435
  refine zLput vr_126_47 rfl (fun p436 k436 e436 t436 g436 => ?_)
  cases e436
  refine zSaload (m := 1) (k := 0) vr_126_50 rfl rfl rfl ?_
  refine zSiload (m := 2) (k := 8) vr_126_51 rfl rfl rfl (fun x438 e438 => ?_)
  cases e438
  refine zLput vr_126_53 rfl (fun p439 k439 e439 t439 g439 => ?_)
  cases e439
  refine zSvoid vr_126_56 rfl ?_
  exact ⟨rfl, fun x k z => by rw [g439.2.1, if_neg (fun y => z y.1), g436.2.1, if_neg (fun y => z y.1), g433.2.1, if_neg (fun y => z y.1), g430.2.1, if_neg (fun y => z y.1), g427.2.1, if_neg (fun y => z y.1), g424.2.1, if_neg (fun y => z y.1), g421.2.1, if_neg (fun y => z y.1), g418.2.1, if_neg (fun y => z y.1), g415.2.1, if_neg (fun y => z y.1)], ⟨by rw [g439.2.1, if_neg (by omega), g436.2.1, if_neg (by omega), g433.2.1, if_neg (by omega), g430.2.1, if_neg (by omega), g427.2.1, if_neg (by omega), g424.2.1, if_neg (by omega), g421.2.1, if_neg (by omega), g418.2.1, if_pos ⟨rfl, rfl⟩], by rw [g439.2.1, if_neg (by omega), g436.2.1, if_neg (by omega), g433.2.1, if_neg (by omega), g430.2.1, if_neg (by omega), g427.2.1, if_neg (by omega), g424.2.1, if_neg (by omega), g421.2.1, if_pos ⟨rfl, rfl⟩], by rw [g439.2.1, if_neg (by omega), g436.2.1, if_neg (by omega), g433.2.1, if_neg (by omega), g430.2.1, if_neg (by omega), g427.2.1, if_neg (by omega), g424.2.1, if_pos ⟨rfl, rfl⟩], by rw [g439.2.1, if_neg (by omega), g436.2.1, if_neg (by omega), g433.2.1, if_neg (by omega), g430.2.1, if_neg (by omega), g427.2.1, if_pos ⟨rfl, rfl⟩], by rw [g439.2.1, if_neg (by omega), g436.2.1, if_neg (by omega), g433.2.1, if_neg (by omega), g430.2.1, if_pos ⟨rfl, rfl⟩], by rw [g439.2.1, if_neg (by omega), g436.2.1, if_neg (by omega), g433.2.1, if_pos ⟨rfl, rfl⟩], by rw [g439.2.1, if_neg (by omega), g436.2.1, if_pos ⟨rfl, rfl⟩], by rw [g439.2.1, if_pos ⟨rfl, rfl⟩]⟩, by rw [g439.2.1, if_neg (by omega), g436.2.1, if_neg (by omega), g433.2.1, if_neg (by omega), g430.2.1, if_neg (by omega), g427.2.1, if_neg (by omega), g424.2.1, if_neg (by omega), g421.2.1, if_neg (by omega), g418.2.1, if_neg (by omega), g415.2.1, if_neg (by omega)], by rw [g439.2.1, if_neg (by omega), g436.2.1, if_neg (by omega), g433.2.1, if_neg (by omega), g430.2.1, if_neg (by omega), g427.2.1, if_neg (by omega), g424.2.1, if_neg (by omega), g421.2.1, if_neg (by omega), g418.2.1, if_neg (by omega), g415.2.1, if_pos ⟨rfl, rfl⟩], by rw [g439.1, g436.1, g433.1, g430.1, g427.1, g424.1, g421.1, g418.1, g415.1], fun p => ⟨by rw [g439.2.2.1, g436.2.2.1, g433.2.2.1, g430.2.2.1, g427.2.2.1, g424.2.2.1, g421.2.2.1, g418.2.2.1, g415.2.2.1], by rw [g439.2.2.2, g436.2.2.2, g433.2.2.2, g430.2.2.2, g427.2.2.2, g424.2.2.2, g421.2.2.2, g418.2.2.2, g415.2.2.2]⟩⟩
abbrev Q_mrule (el : Nat) (cnt d : Int32) (p m c a b s r : Int32) (h : List zC) : zK := fun o h2 _ => ∃ (x : Int32) (h0 : List zC), o = .inl (some (.int x)) ∧ hPut h h0 213 0 (.int 0) ∧ ((okR p m c a b s r cnt ∧ MM h h2 el cnt p m c a b s r d) ∨ (¬ okR p m c a b s r cnt ∧ ∃ k : Int32, ¬ k = 0 ∧ hPut h0 h2 213 0 (.int k)))
theorem C_mrule (n : Nat) (p m c a b s r : Int32) (h : List zC) (u : Nat) {el l : Nat} {cnt : Int32} (hS : Stc h) (hs : gF h 223 2 = some (.int cnt)) (hL : gF h 223 1 = some (.ref el)) (hn : gN h el = some l) (hl2 : l < 2147483648) (tE : ∃ t, gT h el = some t ∧ 93 ≤ t) (h40 : cnt.toInt ≤ 40) (h213 : ¬ el = 213) {d : Int32} (hd : gF h 213 1 = some (.int d)) : zL zrx zi n 153 0 [(0, .ref 213), (1, .int p), (2, .int m), (3, .int c), (4, .int a), (5, .int b), (6, .int s), (7, .int r)] [] h u (Q_mrule el cnt d p m c a b s r h) := by
  refine zSaload (m := 1) (k := 0) vr_153_0 rfl rfl rfl ?_
  refine zSp0 (pc' := 2) (st' := .int (0) :: _) vr_153_1 rfl rfl ?_
  refine zLput vr_153_2 rfl (fun p443 k443 e443 t443 g443 => ?_)
  cases e443
  have t0 := g443
  have hS0 := hS.thr t0
  have f0 : ∀ q k, ¬ (q = 213 ∧ k = 0) → gF k443 q k = gF h q k := fun q k z => by rw [t0.2.1, if_neg z]
  have hs0 := (f0 223 2 (by omega)).trans hs
  refine zSiload (m := 1) (k := 1) vr_153_5 rfl rfl rfl (fun x444 e444 => ?_)
  cases e444
  refine zSp0 (pc' := 7) (st' := .int (0) :: _) vr_153_6 rfl rfl ?_
  refine zSp0 (pc' := 8) (st' := .int (5) :: _) vr_153_7 rfl rfl ?_
  refine zScall vr_153_8 rfl rfl rfl (fun m447 _ => C_in _ _ _ _ _ _) (fun v447 h447 u447 q447 => ?_) (fun E447 h447 u447 q447 => ?_)
  · obtain ⟨eh447, z447⟩ := q447
    replace eh447 := eh447.symm
    subst eh447
    cases z447
    show zL zrx zi _ 153 11 [(0, _), (1, _), (2, _), (3, _), (4, _), (5, _), (6, _), (7, _)] [_] _ _ _
    refine zSb1 (f := fun x => decide (x = 0)) (off := 12) (t := 23) vr_153_11 rfl rfl rfl (fun x448 e448 q448 => ?_) (fun x448 e448 q448 => ?_)
    · cases e448
      refine zSaload (m := 1) (k := 0) vr_153_23 rfl rfl rfl ?_
      refine zSp0 (pc' := 25) (st' := .int (1) :: _) vr_153_24 rfl rfl ?_
      refine zScall vr_153_25 rfl rfl rfl (fun m451 _ => C_no _ _ _ _ _) (fun v451 h451 u451 q451 => ?_) (fun E451 h451 u451 q451 => ?_)
      · obtain ⟨gn451, z451⟩ := q451
        cases z451
        show zL zrx zi _ 153 28 [(0, _), (1, _), (2, _), (3, _), (4, _), (5, _), (6, _), (7, _)] [_] _ _ _
        refine zLiret vr_153_28 rfl (fun x452 e452 => ?_)
        cases e452
        first
          | exact ⟨_, _, rfl, t0, Or.inr ⟨fun z => in_n (x := p) (hi := 5) (m := 6) (by decide) (of_decide_eq_true q448) z.1.1, _, by decide, gn451⟩⟩
          | exact ⟨_, _, rfl, t0, Or.inr ⟨fun z => in_n (x := m) (hi := 3) (m := 4) (by decide) (by simpa using q305) z.1.2, _, by decide, gn451⟩⟩
      · obtain ⟨-, z⟩ := q451
        cases z
    · cases e448
      refine zSiload (m := 1) (k := 2) vr_153_14 rfl rfl rfl (fun x453 e453 => ?_)
      cases e453
      refine zSp0 (pc' := 16) (st' := .int (0) :: _) vr_153_15 rfl rfl ?_
      refine zSp0 (pc' := 17) (st' := .int (3) :: _) vr_153_16 rfl rfl ?_
      refine zScall vr_153_17 rfl rfl rfl (fun m456 _ => C_in _ _ _ _ _ _) (fun v456 h456 u456 q456 => ?_) (fun E456 h456 u456 q456 => ?_)
      · obtain ⟨eh456, z456⟩ := q456
        replace eh456 := eh456.symm
        subst eh456
        cases z456
        show zL zrx zi _ 153 20 [(0, _), (1, _), (2, _), (3, _), (4, _), (5, _), (6, _), (7, _)] [_] _ _ _
        refine zSb1 (f := fun x => decide (¬ x = 0)) (off := 9) (t := 29) vr_153_20 rfl rfl rfl (fun x457 e457 q457 => ?_) (fun x457 e457 q457 => ?_)
        · cases e457
          refine zSiload (m := 1) (k := 3) vr_153_29 rfl rfl rfl (fun x458 e458 => ?_)
          cases e458
          refine zSp0 (pc' := 31) (st' := .int (1) :: _) vr_153_30 rfl rfl ?_
          refine zSp0 (pc' := 33) (st' := .int (15) :: _) vr_153_31 rfl rfl ?_
          refine zScall vr_153_33 rfl rfl rfl (fun m461 _ => C_in _ _ _ _ _ _) (fun v461 h461 u461 q461 => ?_) (fun E461 h461 u461 q461 => ?_)
          · obtain ⟨eh461, z461⟩ := q461
            replace eh461 := eh461.symm
            subst eh461
            cases z461
            show zL zrx zi _ 153 36 [(0, _), (1, _), (2, _), (3, _), (4, _), (5, _), (6, _), (7, _)] [_] _ _ _
            refine zSb1 (f := fun x => decide (x = 0)) (off := 54) (t := 90) vr_153_36 rfl rfl rfl (fun x462 e462 q462 => ?_) (fun x462 e462 q462 => ?_)
            · cases e462
              refine zSaload (m := 1) (k := 0) vr_153_90 rfl rfl rfl ?_
              refine zSp0 (pc' := 92) (st' := .int (2) :: _) vr_153_91 rfl rfl ?_
              refine zScall vr_153_92 rfl rfl rfl (fun m465 _ => C_no _ _ _ _ _) (fun v465 h465 u465 q465 => ?_) (fun E465 h465 u465 q465 => ?_)
              · obtain ⟨gn465, z465⟩ := q465
                cases z465
                show zL zrx zi _ 153 95 [(0, _), (1, _), (2, _), (3, _), (4, _), (5, _), (6, _), (7, _)] [_] _ _ _
                refine zLiret vr_153_95 rfl (fun x466 e466 => ?_)
                cases e466
                first
                  | exact ⟨_, _, rfl, t0, Or.inr ⟨fun z => inB_n (of_decide_eq_true q462) z.2.1.1, _, by decide, gn465⟩⟩
                  | exact ⟨_, _, rfl, t0, Or.inr ⟨fun z => inB_n (of_decide_eq_true q436) z.2.1.2.1, _, by decide, gn465⟩⟩
                  | exact ⟨_, _, rfl, t0, Or.inr ⟨fun z => inB_n (of_decide_eq_true q65) z.2.1.2.2.1, _, by decide, gn465⟩⟩
                  | exact ⟨_, _, rfl, t0, Or.inr ⟨fun z => (of_decide_eq_true q329) (rI0.mp z.2.1.2.2.2.1), _, by decide, gn465⟩⟩
                  | exact ⟨_, _, rfl, t0, Or.inr ⟨fun z => inB_n (of_decide_eq_true q0) z.2.1.2.2.2.2.1, _, by decide, gn465⟩⟩
                  | exact ⟨_, _, rfl, t0, Or.inr ⟨fun z => inB_n (by simpa using q338) z.2.1.2.2.2.2.2, _, by decide, gn465⟩⟩
              · obtain ⟨-, z⟩ := q465
                cases z
            · cases e462
              refine zSiload (m := 2) (k := 4) vr_153_39 rfl rfl rfl (fun x467 e467 => ?_)
              cases e467
              refine zSp0 (pc' := 42) (st' := .int (0) :: _) vr_153_41 rfl rfl ?_
              refine zSp0 (pc' := 44) (st' := .int (63) :: _) vr_153_42 rfl rfl ?_
              refine zScall vr_153_44 rfl rfl rfl (fun m470 _ => C_in _ _ _ _ _ _) (fun v470 h470 u470 q470 => ?_) (fun E470 h470 u470 q470 => ?_)
              · obtain ⟨eh470, z470⟩ := q470
                replace eh470 := eh470.symm
                subst eh470
                cases z470
                show zL zrx zi _ 153 47 [(0, _), (1, _), (2, _), (3, _), (4, _), (5, _), (6, _), (7, _)] [_] _ _ _
                refine zSb1 (f := fun x => decide (x = 0)) (off := 43) (t := 90) vr_153_47 rfl rfl rfl (fun x471 e471 q471 => ?_) (fun x471 e471 q471 => ?_)
                · cases e471
                  refine zSaload (m := 1) (k := 0) vr_153_90 rfl rfl rfl ?_
                  refine zSp0 (pc' := 92) (st' := .int (2) :: _) vr_153_91 rfl rfl ?_
                  refine zScall vr_153_92 rfl rfl rfl (fun m474 _ => C_no _ _ _ _ _) (fun v474 h474 u474 q474 => ?_) (fun E474 h474 u474 q474 => ?_)
                  · obtain ⟨gn474, z474⟩ := q474
                    cases z474
                    show zL zrx zi _ 153 95 [(0, _), (1, _), (2, _), (3, _), (4, _), (5, _), (6, _), (7, _)] [_] _ _ _
                    refine zLiret vr_153_95 rfl (fun x475 e475 => ?_)
                    cases e475
                    first
                      | exact ⟨_, _, rfl, t0, Or.inr ⟨fun z => inB_n (of_decide_eq_true q462) z.2.1.1, _, by decide, gn474⟩⟩
                      | exact ⟨_, _, rfl, t0, Or.inr ⟨fun z => inB_n (of_decide_eq_true q471) z.2.1.2.1, _, by decide, gn474⟩⟩
                      | exact ⟨_, _, rfl, t0, Or.inr ⟨fun z => inB_n (of_decide_eq_true q65) z.2.1.2.2.1, _, by decide, gn474⟩⟩
                      | exact ⟨_, _, rfl, t0, Or.inr ⟨fun z => (of_decide_eq_true q329) (rI0.mp z.2.1.2.2.2.1), _, by decide, gn474⟩⟩
                      | exact ⟨_, _, rfl, t0, Or.inr ⟨fun z => inB_n (of_decide_eq_true q0) z.2.1.2.2.2.2.1, _, by decide, gn474⟩⟩
                      | exact ⟨_, _, rfl, t0, Or.inr ⟨fun z => inB_n (by simpa using q338) z.2.1.2.2.2.2.2, _, by decide, gn474⟩⟩
                  · obtain ⟨-, z⟩ := q474
                    cases z
                · cases e471
                  refine zSiload (m := 2) (k := 5) vr_153_50 rfl rfl rfl (fun x476 e476 => ?_)
                  cases e476
                  refine zSp0 (pc' := 53) (st' := .int (0) :: _) vr_153_52 rfl rfl ?_
                  refine zSp0 (pc' := 55) (st' := .int (63) :: _) vr_153_53 rfl rfl ?_
                  refine zScall vr_153_55 rfl rfl rfl (fun m479 _ => C_in _ _ _ _ _ _) (fun v479 h479 u479 q479 => ?_) (fun E479 h479 u479 q479 => ?_)
                  · obtain ⟨eh479, z479⟩ := q479
                    replace eh479 := eh479.symm
                    subst eh479
                    cases z479
                    show zL zrx zi _ 153 58 [(0, _), (1, _), (2, _), (3, _), (4, _), (5, _), (6, _), (7, _)] [_] _ _ _
                    refine zSb1 (f := fun x => decide (x = 0)) (off := 32) (t := 90) vr_153_58 rfl rfl rfl (fun x480 e480 q480 => ?_) (fun x480 e480 q480 => ?_)
                    · cases e480
                      refine zSaload (m := 1) (k := 0) vr_153_90 rfl rfl rfl ?_
                      refine zSp0 (pc' := 92) (st' := .int (2) :: _) vr_153_91 rfl rfl ?_
                      refine zScall vr_153_92 rfl rfl rfl (fun m483 _ => C_no _ _ _ _ _) (fun v483 h483 u483 q483 => ?_) (fun E483 h483 u483 q483 => ?_)
                      · obtain ⟨gn483, z483⟩ := q483
                        cases z483
                        show zL zrx zi _ 153 95 [(0, _), (1, _), (2, _), (3, _), (4, _), (5, _), (6, _), (7, _)] [_] _ _ _
                        refine zLiret vr_153_95 rfl (fun x484 e484 => ?_)
                        cases e484
                        first
                          | exact ⟨_, _, rfl, t0, Or.inr ⟨fun z => inB_n (of_decide_eq_true q462) z.2.1.1, _, by decide, gn483⟩⟩
                          | exact ⟨_, _, rfl, t0, Or.inr ⟨fun z => inB_n (of_decide_eq_true q471) z.2.1.2.1, _, by decide, gn483⟩⟩
                          | exact ⟨_, _, rfl, t0, Or.inr ⟨fun z => inB_n (of_decide_eq_true q480) z.2.1.2.2.1, _, by decide, gn483⟩⟩
                          | exact ⟨_, _, rfl, t0, Or.inr ⟨fun z => (of_decide_eq_true q329) (rI0.mp z.2.1.2.2.2.1), _, by decide, gn483⟩⟩
                          | exact ⟨_, _, rfl, t0, Or.inr ⟨fun z => inB_n (of_decide_eq_true q0) z.2.1.2.2.2.2.1, _, by decide, gn483⟩⟩
                          | exact ⟨_, _, rfl, t0, Or.inr ⟨fun z => inB_n (by simpa using q338) z.2.1.2.2.2.2.2, _, by decide, gn483⟩⟩
                      · obtain ⟨-, z⟩ := q483
                        cases z
                    · cases e480
                      refine zSiload (m := 2) (k := 4) vr_153_61 rfl rfl rfl (fun x485 e485 => ?_)
                      cases e485
                      refine zSiload (m := 2) (k := 5) vr_153_63 rfl rfl rfl (fun x486 e486 => ?_)
                      cases e486
                      refine zS2 (f := fun x y => .int (x &&& y)) vr_153_65 rfl rfl (fun x487 y487 e487 f487 => ?_)
                      cases e487
                      cases f487
                      refine zSb1 (f := fun x => decide (¬ x = 0)) (off := 24) (t := 90) vr_153_66 rfl rfl rfl (fun x488 e488 q488 => ?_) (fun x488 e488 q488 => ?_)
                      · cases e488
                        refine zSaload (m := 1) (k := 0) vr_153_90 rfl rfl rfl ?_
                        refine zSp0 (pc' := 92) (st' := .int (2) :: _) vr_153_91 rfl rfl ?_
                        refine zScall vr_153_92 rfl rfl rfl (fun m491 _ => C_no _ _ _ _ _) (fun v491 h491 u491 q491 => ?_) (fun E491 h491 u491 q491 => ?_)
                        · obtain ⟨gn491, z491⟩ := q491
                          cases z491
                          show zL zrx zi _ 153 95 [(0, _), (1, _), (2, _), (3, _), (4, _), (5, _), (6, _), (7, _)] [_] _ _ _
                          refine zLiret vr_153_95 rfl (fun x492 e492 => ?_)
                          cases e492
                          first
                            | exact ⟨_, _, rfl, t0, Or.inr ⟨fun z => inB_n (of_decide_eq_true q462) z.2.1.1, _, by decide, gn491⟩⟩
                            | exact ⟨_, _, rfl, t0, Or.inr ⟨fun z => inB_n (of_decide_eq_true q471) z.2.1.2.1, _, by decide, gn491⟩⟩
                            | exact ⟨_, _, rfl, t0, Or.inr ⟨fun z => inB_n (of_decide_eq_true q480) z.2.1.2.2.1, _, by decide, gn491⟩⟩
                            | exact ⟨_, _, rfl, t0, Or.inr ⟨fun z => (of_decide_eq_true q488) (rI0.mp z.2.1.2.2.2.1), _, by decide, gn491⟩⟩
                            | exact ⟨_, _, rfl, t0, Or.inr ⟨fun z => inB_n (of_decide_eq_true q0) z.2.1.2.2.2.2.1, _, by decide, gn491⟩⟩
                            | exact ⟨_, _, rfl, t0, Or.inr ⟨fun z => inB_n (by simpa using q338) z.2.1.2.2.2.2.2, _, by decide, gn491⟩⟩
                        · obtain ⟨-, z⟩ := q491
                          cases z
                      · cases e488
                        refine zSiload (m := 2) (k := 6) vr_153_69 rfl rfl rfl (fun x493 e493 => ?_)
                        cases e493
                        refine zSp0 (pc' := 72) (st' := .int (0) :: _) vr_153_71 rfl rfl ?_
                        refine zSp0 (pc' := 74) (st' := .int (100) :: _) vr_153_72 rfl rfl ?_
                        refine zScall vr_153_74 rfl rfl rfl (fun m496 _ => C_in _ _ _ _ _ _) (fun v496 h496 u496 q496 => ?_) (fun E496 h496 u496 q496 => ?_)
                        · obtain ⟨eh496, z496⟩ := q496
                          replace eh496 := eh496.symm
                          subst eh496
                          cases z496
                          show zL zrx zi _ 153 77 [(0, _), (1, _), (2, _), (3, _), (4, _), (5, _), (6, _), (7, _)] [_] _ _ _
                          refine zSb1 (f := fun x => decide (x = 0)) (off := 13) (t := 90) vr_153_77 rfl rfl rfl (fun x497 e497 q497 => ?_) (fun x497 e497 q497 => ?_)
                          · cases e497
                            refine zSaload (m := 1) (k := 0) vr_153_90 rfl rfl rfl ?_
                            refine zSp0 (pc' := 92) (st' := .int (2) :: _) vr_153_91 rfl rfl ?_
                            refine zScall vr_153_92 rfl rfl rfl (fun m500 _ => C_no _ _ _ _ _) (fun v500 h500 u500 q500 => ?_) (fun E500 h500 u500 q500 => ?_)
                            · obtain ⟨gn500, z500⟩ := q500
                              cases z500
                              show zL zrx zi _ 153 95 [(0, _), (1, _), (2, _), (3, _), (4, _), (5, _), (6, _), (7, _)] [_] _ _ _
                              refine zLiret vr_153_95 rfl (fun x501 e501 => ?_)
                              cases e501
                              first
                                | exact ⟨_, _, rfl, t0, Or.inr ⟨fun z => inB_n (of_decide_eq_true q462) z.2.1.1, _, by decide, gn500⟩⟩
                                | exact ⟨_, _, rfl, t0, Or.inr ⟨fun z => inB_n (of_decide_eq_true q471) z.2.1.2.1, _, by decide, gn500⟩⟩
                                | exact ⟨_, _, rfl, t0, Or.inr ⟨fun z => inB_n (of_decide_eq_true q480) z.2.1.2.2.1, _, by decide, gn500⟩⟩
                                | exact ⟨_, _, rfl, t0, Or.inr ⟨fun z => (of_decide_eq_true q488) (rI0.mp z.2.1.2.2.2.1), _, by decide, gn500⟩⟩
                                | exact ⟨_, _, rfl, t0, Or.inr ⟨fun z => inB_n (of_decide_eq_true q497) z.2.1.2.2.2.2.1, _, by decide, gn500⟩⟩
                                | exact ⟨_, _, rfl, t0, Or.inr ⟨fun z => inB_n (by simpa using q338) z.2.1.2.2.2.2.2, _, by decide, gn500⟩⟩
                            · obtain ⟨-, z⟩ := q500
                              cases z
                          · cases e497
                            refine zSiload (m := 2) (k := 7) vr_153_80 rfl rfl rfl (fun x502 e502 => ?_)
                            cases e502
                            refine zSp0 (pc' := 83) (st' := .int (1) :: _) vr_153_82 rfl rfl ?_
                            refine zSp0 (pc' := 84) (st' := .int (5) :: _) vr_153_83 rfl rfl ?_
                            refine zScall vr_153_84 rfl rfl rfl (fun m505 _ => C_in _ _ _ _ _ _) (fun v505 h505 u505 q505 => ?_) (fun E505 h505 u505 q505 => ?_)
                            · obtain ⟨eh505, z505⟩ := q505
                              replace eh505 := eh505.symm
                              subst eh505
                              cases z505
                              show zL zrx zi _ 153 87 [(0, _), (1, _), (2, _), (3, _), (4, _), (5, _), (6, _), (7, _)] [_] _ _ _
                              refine zSb1 (f := fun x => decide (¬ x = 0)) (off := 9) (t := 96) vr_153_87 rfl rfl rfl (fun x506 e506 q506 => ?_) (fun x506 e506 q506 => ?_)
                              · cases e506
                                refine zSaload (m := 1) (k := 0) vr_153_96 rfl rfl rfl ?_
                                refine zLget vr_153_97 rfl (fun p508 w508 e508 t508 g508 => ?_)
                                cases e508
                                first | (rw [(st_213_7 hS0)] at g508; cases g508) | skip
                                refine zScall vr_153_100 rfl rfl rfl (fun m509 _ => C_lsize _ _ _ _ hs0) (fun v509 h509 u509 q509 => ?_) (fun E509 h509 u509 q509 => ?_)
                                · obtain ⟨eh509, z509⟩ := q509
                                  replace eh509 := eh509.symm
                                  subst eh509
                                  cases z509
                                  show zL zrx zi _ 153 105 [(0, _), (1, _), (2, _), (3, _), (4, _), (5, _), (6, _), (7, _)] [_] _ _ _
                                  refine zSp0 (pc' := 107) (st' := .int (40) :: _) vr_153_105 rfl rfl ?_
                                  refine zSb2 (f := fun x y => decide (¬ x = y)) (off := 9) (t := 116) vr_153_107 rfl rfl rfl (fun x511 y511 e511 f511 q511 => ?_) (fun x511 y511 e511 f511 q511 => ?_)
                                  · cases e511
                                    cases f511
                                    refine zSaload (m := 1) (k := 0) vr_153_116 rfl rfl rfl ?_
                                    refine zLget vr_153_117 rfl (fun p513 w513 e513 t513 g513 => ?_)
                                    cases e513
                                    first | (rw [(st_213_7 hS0)] at g513; cases g513) | skip
                                    refine zLnew2 vr_153_120 rfl (fun k514 u514 g514 => ?_)
                                    have hd1 : gF k514 213 1 = some (.int d) := by
                                      rw [g514.ext.fld (by have := hS0.1; omega), f0 213 1 (by omega)]
                                      exact hd
                                    refine zSdup vr_153_123 rfl ?_
                                    refine zSiload (m := 1) (k := 1) vr_153_124 rfl rfl rfl (fun x516 e516 => ?_)
                                    cases e516
                                    refine zSiload (m := 1) (k := 2) vr_153_125 rfl rfl rfl (fun x517 e517 => ?_)
                                    cases e517
                                    refine zSiload (m := 1) (k := 3) vr_153_126 rfl rfl rfl (fun x518 e518 => ?_)
                                    cases e518
                                    refine zSiload (m := 2) (k := 4) vr_153_127 rfl rfl rfl (fun x519 e519 => ?_)
                                    cases e519
                                    refine zSiload (m := 2) (k := 5) vr_153_129 rfl rfl rfl (fun x520 e520 => ?_)
                                    cases e520
                                    refine zSiload (m := 2) (k := 6) vr_153_131 rfl rfl rfl (fun x521 e521 => ?_)
                                    cases e521
                                    refine zSiload (m := 2) (k := 7) vr_153_133 rfl rfl rfl (fun x522 e522 => ?_)
                                    cases e522
                                    refine zSaload (m := 1) (k := 0) vr_153_135 rfl rfl rfl ?_
                                    refine zLget vr_153_136 rfl (fun p524 w524 e524 t524 g524 => ?_)
                                    cases e524
                                    first | (rw [hd1] at g524; cases g524) | skip
                                    refine zScall vr_153_139 rfl rfl rfl (fun m525 _ => C_irule _ _ _ _ _ _ _ _ _ _ _ _) (fun v525 h525 u525 q525 => ?_) (fun E525 h525 u525 q525 => ?_)
                                    · have z525 := q525.1
                                      cases z525
                                      show zL zrx zi _ 153 142 [(0, _), (1, _), (2, _), (3, _), (4, _), (5, _), (6, _), (7, _)] [_, _] _ _ _
                                      have im := q525.2
                                      have hel := gN_lt hn
                                      have lk : k443.length = h.length := t0.1
                                      have hh := hS.1
                                      have n1 : ∀ q, q < h.length → gT h525 q = gT h q ∧ gN h525 q = gN h q := fun q hq => by
                                        rw [(im.2.2.2.2.2 q).1, (im.2.2.2.2.2 q).2, (g514.ext.T (by omega)).1, (g514.ext.T (by omega)).2, t0.2.2.1, t0.2.2.2]
                                        exact ⟨rfl, rfl⟩
                                      have f1 : ∀ q k, q < h.length → ¬ (q = 213 ∧ k = 0) → gF h525 q k = gF h q k := fun q k hq z => by
                                        rw [im.1 q k (by omega), g514.ext.fld (by omega), f0 q k z]
                                      refine zScall vr_153_142 rfl rfl rfl (fun m526 _ => C_add _ _ _ _ _ ((f1 223 1 (by omega) (by omega)).trans hL) ((f1 223 2 (by omega) (by omega)).trans hs) ((n1 el hel).2.trans hn) hl2 (by rw [(n1 el hel).1]; exact tE)) (fun v526 h526 u526 q526 => ?_) (fun E526 h526 u526 q526 => ?_)
                                      · obtain ⟨z526, kA⟩ := q526
                                        cases z526
                                        show zL zrx zi _ 153 147 [(0, _), (1, _), (2, _), (3, _), (4, _), (5, _), (6, _), (7, _)] [_] _ _ _
                                        refine zSpop vr_153_147 rfl ?_
                                        have a7 := kA.2.2
                                        obtain ⟨ane, el2, b1, b2, b3, b4, b5, b6, b7⟩ := a7
                                        have f2 := (b6 213 (by rw [im.2.2.2.2.1, g514.len]; omega) (by omega) (fun z => h213 z.symm) 7).trans ((f1 213 7 (by omega) (by omega)).trans (st_213_7 hS))
                                        refine zSaload (m := 1) (k := 0) vr_153_148 rfl rfl rfl ?_
                                        refine zLget vr_153_149 rfl (fun p529 w529 e529 t529 g529 => ?_)
                                        cases e529
                                        first | (rw [f2] at g529; cases g529) | skip
                                        refine zScall vr_153_152 rfl rfl rfl (fun m530 _ => C_lsize _ _ _ _ b2) (fun v530 h530 u530 q530 => ?_) (fun E530 h530 u530 q530 => ?_)
                                        · obtain ⟨eh530, z530⟩ := q530
                                          replace eh530 := eh530.symm
                                          subst eh530
                                          cases z530
                                          show zL zrx zi _ 153 157 [(0, _), (1, _), (2, _), (3, _), (4, _), (5, _), (6, _), (7, _)] [_] _ _ _
                                          refine zSp0 (pc' := 158) (st' := .int (1) :: _) vr_153_157 rfl rfl ?_
                                          refine zS2 (f := fun x y => .int (x - y)) vr_153_158 rfl rfl (fun x532 y532 e532 f532 => ?_)
                                          cases e532
                                          cases f532
                                          refine zLiret vr_153_159 rfl (fun x533 e533 => ?_)
                                          cases e533
                                          have c40 : cnt.toInt < 40 := by
                                            have y := of_decide_eq_true q511
                                            have z40 : (40 : Int32).toInt = 40 := rfl
                                            have : ¬ cnt.toInt = 40 := fun z => y (Int32.toInt_inj.mp (by omega))
                                            omega
                                          exact ⟨_, _, rfl, t0, Or.inl ⟨⟨⟨in_y (x := p) (hi := 5) (m := 6) (by decide) (by simpa using q448), in_y (x := m) (hi := 3) (m := 4) (by decide) (of_decide_eq_true q457)⟩, ⟨(inB_y (by simpa using q462)), (inB_y (by simpa using q471)), (inB_y (by simpa using q480)), rI0.mpr (by simpa using q488), (inB_y (by simpa using q497)), (inB_y (of_decide_eq_true q506))⟩, c40⟩, mm_end hh hel h213 t0 g514 im kA⟩⟩
                                        · obtain ⟨-, z⟩ := q530
                                          cases z
                                      · obtain ⟨z, -⟩ := q526
                                        cases z
                                    · cases q525.1
                                  · cases e511
                                    cases f511
                                    refine zSaload (m := 1) (k := 0) vr_153_110 rfl rfl rfl ?_
                                    refine zSp0 (pc' := 112) (st' := .int (3) :: _) vr_153_111 rfl rfl ?_
                                    refine zScall vr_153_112 rfl rfl rfl (fun m536 _ => C_no _ _ _ _ _) (fun v536 h536 u536 q536 => ?_) (fun E536 h536 u536 q536 => ?_)
                                    · obtain ⟨gn536, z536⟩ := q536
                                      cases z536
                                      show zL zrx zi _ 153 115 [(0, _), (1, _), (2, _), (3, _), (4, _), (5, _), (6, _), (7, _)] [_] _ _ _
                                      refine zLiret vr_153_115 rfl (fun x537 e537 => ?_)
                                      cases e537
                                      exact ⟨_, _, rfl, t0, Or.inr ⟨fun z => absurd z.2.2 (by rw [show cnt = 40 by simpa using q511]; decide), _, by decide, gn536⟩⟩
                                    · obtain ⟨-, z⟩ := q536
                                      cases z
                                · obtain ⟨-, z⟩ := q509
                                  cases z
                              · cases e506
                                refine zSaload (m := 1) (k := 0) vr_153_90 rfl rfl rfl ?_
                                refine zSp0 (pc' := 92) (st' := .int (2) :: _) vr_153_91 rfl rfl ?_
                                refine zScall vr_153_92 rfl rfl rfl (fun m540 _ => C_no _ _ _ _ _) (fun v540 h540 u540 q540 => ?_) (fun E540 h540 u540 q540 => ?_)
                                · obtain ⟨gn540, z540⟩ := q540
                                  cases z540
                                  show zL zrx zi _ 153 95 [(0, _), (1, _), (2, _), (3, _), (4, _), (5, _), (6, _), (7, _)] [_] _ _ _
                                  refine zLiret vr_153_95 rfl (fun x541 e541 => ?_)
                                  cases e541
                                  first
                                    | exact ⟨_, _, rfl, t0, Or.inr ⟨fun z => inB_n (of_decide_eq_true q462) z.2.1.1, _, by decide, gn540⟩⟩
                                    | exact ⟨_, _, rfl, t0, Or.inr ⟨fun z => inB_n (of_decide_eq_true q471) z.2.1.2.1, _, by decide, gn540⟩⟩
                                    | exact ⟨_, _, rfl, t0, Or.inr ⟨fun z => inB_n (of_decide_eq_true q480) z.2.1.2.2.1, _, by decide, gn540⟩⟩
                                    | exact ⟨_, _, rfl, t0, Or.inr ⟨fun z => (of_decide_eq_true q488) (rI0.mp z.2.1.2.2.2.1), _, by decide, gn540⟩⟩
                                    | exact ⟨_, _, rfl, t0, Or.inr ⟨fun z => inB_n (of_decide_eq_true q497) z.2.1.2.2.2.2.1, _, by decide, gn540⟩⟩
                                    | exact ⟨_, _, rfl, t0, Or.inr ⟨fun z => inB_n (by simpa using q506) z.2.1.2.2.2.2.2, _, by decide, gn540⟩⟩
                                · obtain ⟨-, z⟩ := q540
                                  cases z
                            · obtain ⟨-, z⟩ := q505
                              cases z
                        · obtain ⟨-, z⟩ := q496
                          cases z
                  · obtain ⟨-, z⟩ := q479
                    cases z
              · obtain ⟨-, z⟩ := q470
                cases z
          · obtain ⟨-, z⟩ := q461
            cases z
        · cases e457
          refine zSaload (m := 1) (k := 0) vr_153_23 rfl rfl rfl ?_
          refine zSp0 (pc' := 25) (st' := .int (1) :: _) vr_153_24 rfl rfl ?_
          refine zScall vr_153_25 rfl rfl rfl (fun m544 _ => C_no _ _ _ _ _) (fun v544 h544 u544 q544 => ?_) (fun E544 h544 u544 q544 => ?_)
          · obtain ⟨gn544, z544⟩ := q544
            cases z544
            show zL zrx zi _ 153 28 [(0, _), (1, _), (2, _), (3, _), (4, _), (5, _), (6, _), (7, _)] [_] _ _ _
            refine zLiret vr_153_28 rfl (fun x545 e545 => ?_)
            cases e545
            first
              | exact ⟨_, _, rfl, t0, Or.inr ⟨fun z => in_n (x := p) (hi := 5) (m := 6) (by decide) (of_decide_eq_true q448) z.1.1, _, by decide, gn544⟩⟩
              | exact ⟨_, _, rfl, t0, Or.inr ⟨fun z => in_n (x := m) (hi := 3) (m := 4) (by decide) (by simpa using q457) z.1.2, _, by decide, gn544⟩⟩
          · obtain ⟨-, z⟩ := q544
            cases z
      · obtain ⟨-, z⟩ := q456
        cases z
  · obtain ⟨-, z⟩ := q447
    cases z
theorem C_limit (n : Nat) (x a b : Int32) (h : List zC) (u : Nat) {cnt : Int32} (hS : Stc h) (hc : gF h 28 2 = some (.int cnt)) (h40 : cnt.toInt ≤ 40) : zL zrx zi n 61 0 [(0, .ref 16), (1, .int x), (2, .int a), (3, .int b)] [] h u (fun o h2 _ => match o with
  | .inl v => (iN cnt.toInt x ∧ rI 0 999 a ∧ rI a 999 b) ∧ ∃ (s : Int32) (h1 : List zC), v = some (.int s) ∧ gF h (31 + x.toNatClampNeg) 10 = some (.int s) ∧ hPut h h1 (31 + x.toNatClampNeg) 7 (.int a) ∧ hPut h1 h2 (31 + x.toNatClampNeg) 8 (.int b)
  | .inr E => hExt h h2 ∧ ((E = 0 ∧ ¬ iN cnt.toInt x) ∨ (E = 1 ∧ iN cnt.toInt x ∧ ¬ (rI 0 999 a ∧ rI a 999 b)))) := by
  refine zSiload (m := 1) (k := 1) vr_61_0 rfl rfl rfl (fun x546 e546 => ?_)
  cases e546
  refine zSaload (m := 1) (k := 0) vr_61_1 rfl rfl rfl ?_
  refine zLget vr_61_2 rfl (fun p548 w548 e548 t548 g548 => ?_)
  cases e548
  first | (rw [(st_16_9 hS)] at g548; cases g548) | (rw [hc] at g548; cases g548) | (rw [(st_28_0 hS)] at g548; cases g548) | (rw [(st_rule hS hk)] at g548; cases g548) | skip
  refine zLget vr_61_5 rfl (fun p549 w549 e549 t549 g549 => ?_)
  cases e549
  first | (rw [(st_16_9 hS)] at g549; cases g549) | (rw [hc] at g549; cases g549) | (rw [(st_28_0 hS)] at g549; cases g549) | (rw [(st_rule hS hk)] at g549; cases g549) | skip
  refine zScall vr_61_8 rfl rfl rfl (fun m550 _ => C_num6 _ _ _ _ (m := cnt.toInt) rfl) (fun v550 h550 u550 q550 => ?_) (fun E550 h550 u550 q550 => ?_)
  · obtain ⟨eh550, rfl, r1⟩ := q550
    replace eh550 := eh550.symm
    subst eh550
    show zL zrx zi _ 61 11 [(0, _), (1, _), (2, _), (3, _)] [] _ _ _
    refine zSiload (m := 1) (k := 2) vr_61_11 rfl rfl rfl (fun x551 e551 => ?_)
    cases e551
    refine zSp0 (pc' := 13) (st' := .int (0) :: _) vr_61_12 rfl rfl ?_
    refine zSp0 (pc' := 16) (st' := .int (999) :: _) vr_61_13 rfl rfl ?_
    refine zScall vr_61_16 rfl rfl rfl (fun m554 _ => C_val _ _ _ _ _ _) (fun v554 h554 u554 q554 => ?_) (fun E554 h554 u554 q554 => ?_)
    · obtain ⟨eh554, rfl, r2⟩ := q554
      replace eh554 := eh554.symm
      subst eh554
      show zL zrx zi _ 61 19 [(0, _), (1, _), (2, _), (3, _)] [] _ _ _
      refine zSiload (m := 1) (k := 3) vr_61_19 rfl rfl rfl (fun x555 e555 => ?_)
      cases e555
      refine zSiload (m := 1) (k := 2) vr_61_20 rfl rfl rfl (fun x556 e556 => ?_)
      cases e556
      refine zSp0 (pc' := 24) (st' := .int (999) :: _) vr_61_21 rfl rfl ?_
      refine zScall vr_61_24 rfl rfl rfl (fun m558 _ => C_val _ _ _ _ _ _) (fun v558 h558 u558 q558 => ?_) (fun E558 h558 u558 q558 => ?_)
      · obtain ⟨eh558, rfl, r3⟩ := q558
        replace eh558 := eh558.symm
        subst eh558
        show zL zrx zi _ 61 27 [(0, _), (1, _), (2, _), (3, _)] [] _ _ _
        have hk : x.toNatClampNeg < 40 := n40 (by have := r1.2; omega)
        refine zSaload (m := 1) (k := 0) vr_61_27 rfl rfl rfl ?_
        refine zLget vr_61_28 rfl (fun p560 w560 e560 t560 g560 => ?_)
        cases e560
        first | (rw [(st_16_9 hS)] at g560; cases g560) | (rw [hc] at g560; cases g560) | (rw [(st_28_0 hS)] at g560; cases g560) | (rw [(st_rule hS hk)] at g560; cases g560) | skip
        refine zLget vr_61_31 rfl (fun p561 w561 e561 t561 g561 => ?_)
        cases e561
        first | (rw [(st_16_9 hS)] at g561; cases g561) | (rw [hc] at g561; cases g561) | (rw [(st_28_0 hS)] at g561; cases g561) | (rw [(st_rule hS hk)] at g561; cases g561) | skip
        refine zSiload (m := 1) (k := 1) vr_61_34 rfl rfl rfl (fun x562 e562 => ?_)
        cases e562
        refine zLaald vr_61_35 rfl (fun p563 x563 w563 e563 f563 c563 t563 g563 => ?_)
        cases e563
        cases f563
        first | (rw [(st_16_9 hS)] at g563; cases g563) | (rw [hc] at g563; cases g563) | (rw [(st_28_0 hS)] at g563; cases g563) | (rw [(st_rule hS hk)] at g563; cases g563) | skip
        refine zSiload (m := 1) (k := 2) vr_61_36 rfl rfl rfl (fun x564 e564 => ?_)
        cases e564
        refine zLput vr_61_37 rfl (fun p565 k565 e565 t565 g565 => ?_)
        cases e565
        have f1 : ∀ q k, ¬ q = (31 + x.toNatClampNeg) → gF k565 q k = gF h q k := fun q k z => by rw [g565.2.1, if_neg (fun y => z y.1)]
        refine zSaload (m := 1) (k := 0) vr_61_40 rfl rfl rfl ?_
        refine zLget vr_61_41 rfl (fun p567 w567 e567 t567 g567 => ?_)
        cases e567
        first | (rw [((f1 16 9 (by omega)).trans (st_16_9 hS))] at g567; cases g567) | (rw [((f1 28 0 (by omega)).trans (st_28_0 hS))] at g567; cases g567) | (rw [((f1 29 _ (by omega)).trans (st_rule hS hk))] at g567; cases g567) | skip
        refine zLget vr_61_44 rfl (fun p568 w568 e568 t568 g568 => ?_)
        cases e568
        first | (rw [((f1 16 9 (by omega)).trans (st_16_9 hS))] at g568; cases g568) | (rw [((f1 28 0 (by omega)).trans (st_28_0 hS))] at g568; cases g568) | (rw [((f1 29 _ (by omega)).trans (st_rule hS hk))] at g568; cases g568) | skip
        refine zSiload (m := 1) (k := 1) vr_61_47 rfl rfl rfl (fun x569 e569 => ?_)
        cases e569
        refine zLaald vr_61_48 rfl (fun p570 x570 w570 e570 f570 c570 t570 g570 => ?_)
        cases e570
        cases f570
        first | (rw [((f1 16 9 (by omega)).trans (st_16_9 hS))] at g570; cases g570) | (rw [((f1 28 0 (by omega)).trans (st_28_0 hS))] at g570; cases g570) | (rw [((f1 29 _ (by omega)).trans (st_rule hS hk))] at g570; cases g570) | skip
        refine zSiload (m := 1) (k := 3) vr_61_49 rfl rfl rfl (fun x571 e571 => ?_)
        cases e571
        refine zLput vr_61_50 rfl (fun p572 k572 e572 t572 g572 => ?_)
        cases e572
        have f2 : ∀ q k, ¬ q = (31 + x.toNatClampNeg) → gF k572 q k = gF h q k := fun q k z => by rw [g572.2.1, if_neg (fun y => z y.1), f1 q k z]
        refine zSaload (m := 1) (k := 0) vr_61_53 rfl rfl rfl ?_
        refine zLget vr_61_54 rfl (fun p574 w574 e574 t574 g574 => ?_)
        cases e574
        first | (rw [((f2 16 9 (by omega)).trans (st_16_9 hS))] at g574; cases g574) | (rw [((f2 28 0 (by omega)).trans (st_28_0 hS))] at g574; cases g574) | (rw [((f2 29 _ (by omega)).trans (st_rule hS hk))] at g574; cases g574) | skip
        refine zLget vr_61_57 rfl (fun p575 w575 e575 t575 g575 => ?_)
        cases e575
        first | (rw [((f2 16 9 (by omega)).trans (st_16_9 hS))] at g575; cases g575) | (rw [((f2 28 0 (by omega)).trans (st_28_0 hS))] at g575; cases g575) | (rw [((f2 29 _ (by omega)).trans (st_rule hS hk))] at g575; cases g575) | skip
        refine zSiload (m := 1) (k := 1) vr_61_60 rfl rfl rfl (fun x576 e576 => ?_)
        cases e576
        refine zLaald vr_61_61 rfl (fun p577 x577 w577 e577 f577 c577 t577 g577 => ?_)
        cases e577
        cases f577
        first | (rw [((f2 16 9 (by omega)).trans (st_16_9 hS))] at g577; cases g577) | (rw [((f2 28 0 (by omega)).trans (st_28_0 hS))] at g577; cases g577) | (rw [((f2 29 _ (by omega)).trans (st_rule hS hk))] at g577; cases g577) | skip
        refine zLget vr_61_62 rfl (fun p578 w578 e578 t578 g578 => ?_)
        cases e578
        first | (rw [((f2 16 9 (by omega)).trans (st_16_9 hS))] at g578; cases g578) | (rw [((f2 28 0 (by omega)).trans (st_28_0 hS))] at g578; cases g578) | (rw [((f2 29 _ (by omega)).trans (st_rule hS hk))] at g578; cases g578) | skip
        have g6 := g578
        rw [g572.2.1, if_neg (by omega), g565.2.1, if_neg (by omega)] at g6
        refine zLiret vr_61_65 rfl (fun x579 e579 => ?_)
        cases e579
        exact ⟨⟨r1, r2, r3⟩, _, _, rfl, g6, g565, g572⟩
      · obtain ⟨rfl, q1, q2⟩ := q558
        rw [zCat_no vh_61_24_1]
        exact ⟨q2, Or.inr ⟨rfl, r1, fun z => q1 z.2⟩⟩
    · obtain ⟨rfl, q1, q2⟩ := q554
      rw [zCat_no vh_61_16_1]
      exact ⟨q2, Or.inr ⟨rfl, r1, fun z => q1 z.1⟩⟩
  · obtain ⟨rfl, q1, q2⟩ := q550
    rw [zCat_no vh_61_8_0]
    exact ⟨q2, Or.inl ⟨rfl, q1⟩⟩
abbrev Q_Llimit (cnt : Int32) (x a b : Int32) (h : List zC) : zK := fun o h2 _ => ∃ k : Int32, o = .inl (some (.int k)) ∧
  ((k = 0 ∧ (iN cnt.toInt x ∧ rI 0 999 a ∧ rI a 999 b) ∧ ∃ (s : Int32) (h0 h1 : List zC), gF h (31 + x.toNatClampNeg) 10 = some (.int s) ∧ hPut h h0 (31 + x.toNatClampNeg) 7 (.int a) ∧ hPut h0 h1 (31 + x.toNatClampNeg) 8 (.int b) ∧ hPut h1 h2 238 0 (.long s.toInt64)) ∨ (k = 1 ∧ ¬ iN cnt.toInt x ∧ hExt h h2) ∨ (k = 2 ∧ iN cnt.toInt x ∧ ¬ (rI 0 999 a ∧ rI a 999 b) ∧ hExt h h2))
theorem C_Llimit (n : Nat) (x a b : Int32) (h : List zC) (u : Nat) {cnt : Int32} (hS : Stc h) (hc : gF h 28 2 = some (.int cnt)) (h40 : cnt.toInt ≤ 40) : zL zrx zi n 212 0 [(0, .ref 16), (1, .int x), (2, .int a), (3, .int b), (4, .ref 238)] [] h u (Q_Llimit cnt x a b h) := by
  refine zSaload (m := 2) (k := 4) vr_212_0 rfl rfl rfl ?_
  refine zSaload (m := 1) (k := 0) vr_212_2 rfl rfl rfl ?_
  refine zSiload (m := 1) (k := 1) vr_212_3 rfl rfl rfl (fun x582 e582 => ?_)
  cases e582
  refine zSiload (m := 1) (k := 2) vr_212_4 rfl rfl rfl (fun x583 e583 => ?_)
  cases e583
  refine zSiload (m := 1) (k := 3) vr_212_5 rfl rfl rfl (fun x584 e584 => ?_)
  cases e584
  refine zScall vr_212_6 rfl rfl rfl (fun m585 _ => C_limit _ _ _ _ _ _ hS hc h40) (fun v585 h585 u585 q585 => ?_) (fun E585 h585 u585 q585 => ?_)
  · obtain ⟨k1, s585, i585, rfl, k2, k3, k4⟩ := q585
    show zL zrx zi _ 212 9 [(0, _), (1, _), (2, _), (3, _), (4, _)] [_, _] _ _ _
    refine zS1 (f := fun x => .long x.toInt64) vr_212_9 rfl rfl (fun x586 e586 => ?_)
    cases e586
    refine zLput vr_212_10 rfl (fun p587 k587 e587 t587 g587 => ?_)
    cases e587
    have gP := g587
    refine zSgo (t := 24) vr_212_13 rfl rfl ?_
    refine zSp0 (pc' := 25) (st' := .int (0) :: _) vr_212_24 rfl rfl ?_
    refine zLiret vr_212_25 rfl (fun x590 e590 => ?_)
    cases e590
    exact ⟨_, rfl, Or.inl ⟨rfl, k1, _, _, _, k2, k3, k4, gP⟩⟩
  · obtain ⟨q1, ⟨rfl, z⟩ | ⟨rfl, z⟩⟩ := q585
    · rw [zCat_hit (k := 5) (m := 2) vh_212_6_0 vr_212_16 rfl (by decide)]
      show zL zrx zi _ 212 18 [(0, _), (1, _), (2, _), (3, _), (4, _)] [] _ _ _
      refine zSp0 (pc' := 19) (st' := .int (1) :: _) vr_212_18 rfl rfl ?_
      refine zLiret vr_212_19 rfl (fun x592 e592 => ?_)
      cases e592
      exact ⟨_, rfl, Or.inr (Or.inl ⟨rfl, z, q1⟩)⟩
    · rw [zCat_hit (k := 5) (m := 2) vh_212_6_1 vr_212_20 rfl (by decide)]
      show zL zrx zi _ 212 22 [(0, _), (1, _), (2, _), (3, _), (4, _)] [] _ _ _
      refine zSp0 (pc' := 23) (st' := .int (2) :: _) vr_212_22 rfl rfl ?_
      refine zLiret vr_212_23 rfl (fun x594 e594 => ?_)
      cases e594
      exact ⟨_, rfl, Or.inr (Or.inr ⟨rfl, z.1, z.2, q1⟩)⟩
theorem C_size_loop : ∀ (n : Nat) (x m l : Int32) (h : List zC) (u : Nat), zL zrx zi n 134 4 [(2, .int l), (1, .int m), (0, .int x)] [] h u (fun o h2 _ => h2 = h ∧ ∃ s, Psz l s ∧ o = .inl (some (.int (m + s))))
  | 0, _, _, _, _, _ => trivial
  | n + 1, x, m, l, h, u => by
    refine zLp vr_134_4 rfl rfl ?_
    refine zSb1 (f := fun x => decide (x ≤ 0)) (off := 16) (t := 21) vr_134_5 rfl rfl rfl (fun x595 e595 q595 => ?_) (fun x595 e595 q595 => ?_)
    · cases e595
      refine zSiload (m := 1) (k := 1) vr_134_21 rfl rfl rfl (fun x596 e596 => ?_)
      cases e596
      refine zLiret vr_134_22 rfl (fun x597 e597 => ?_)
      cases e597
      refine ⟨rfl, 0, Psz0 ?_, ?_⟩
      · simpa using q595
      · rw [Int32.add_zero]
    · cases e595
      refine zSiload (m := 1) (k := 1) vr_134_8 rfl rfl rfl (fun x598 e598 => ?_)
      cases e598
      refine zSiload (m := 1) (k := 2) vr_134_9 rfl rfl rfl (fun x599 e599 => ?_)
      cases e599
      refine zSp0 (pc' := 11) (st' := .int (2) :: _) vr_134_10 rfl rfl ?_
      refine zSrem vr_134_11 rfl (fun x601 y601 e601 f601 g601 => ?_)
      cases e601
      cases f601
      refine zS2 (f := fun x y => .int (x + y)) vr_134_12 rfl rfl (fun x602 y602 e602 f602 => ?_)
      cases e602
      cases f602
      refine zSistore (m := 1) (k := 1) vr_134_13 rfl rfl (fun x603 e603 => ?_)
      cases e603
      show zL zrx zi _ 134 14 [(1, _), (2, _), (0, _)] [] _ _ _
      refine zSiload (m := 1) (k := 2) vr_134_14 rfl rfl rfl (fun x604 e604 => ?_)
      cases e604
      refine zSp0 (pc' := 16) (st' := .int (2) :: _) vr_134_15 rfl rfl ?_
      refine zSdiv vr_134_16 rfl (fun x606 y606 e606 f606 g606 => ?_)
      cases e606
      cases f606
      refine zSistore (m := 1) (k := 2) vr_134_17 rfl rfl (fun x607 e607 => ?_)
      cases e607
      show zL zrx zi _ 134 18 [(2, _), (1, _), (0, _)] [] _ _ _
      refine zSgo (t := 4) vr_134_18 rfl rfl ?_
      refine zL_K _ _ _ _ _ _ _ _ _ (C_size_loop n _ _ _ _ _) (fun o h2 u2 q => ?_)
      obtain ⟨z1, s, z2, z3⟩ := q
      refine ⟨z1, _, PszS ?_ z2, ?_⟩
      · simpa using q595
      · rw [z3, Int32.add_assoc]
theorem C_size (n : Nat) (x : Int32) (h : List zC) (u : Nat) : zL zrx zi n 134 0 [(0, .int x)] [] h u (fun o h2 _ => h2 = h ∧ ∃ s, Psz x s ∧ o = .inl (some (.int s))) := by
  refine zSp0 (pc' := 1) (st' := .int (0) :: _) vr_134_0 rfl rfl ?_
  refine zSistore (m := 1) (k := 1) vr_134_1 rfl rfl (fun x610 e610 => ?_)
  cases e610
  show zL zrx zi _ 134 2 [(1, _), (0, _)] [] _ _ _
  refine zSiload (m := 1) (k := 0) vr_134_2 rfl rfl rfl (fun x611 e611 => ?_)
  cases e611
  refine zSistore (m := 1) (k := 2) vr_134_3 rfl rfl (fun x612 e612 => ?_)
  cases e612
  show zL zrx zi _ 134 4 [(2, _), (1, _), (0, _)] [] _ _ _
  refine zL_K _ _ _ _ _ _ _ _ _ (C_size_loop _ _ _ _ _ _) (fun o h2 u2 q => ?_)
  obtain ⟨q1, s, q2, q3⟩ := q
  exact ⟨q1, s, q2, by rw [q3, Int32.zero_add]⟩
theorem C_strength (n : Nat) (p : Nat) (h : List zC) (u : Nat) {a b c : Int32} (h3 : gF h p 3 = some (.int a)) (h4 : gF h p 4 = some (.int b)) (h6 : gF h p 6 = some (.int c)) : zL zrx zi n 127 0 [(0, .ref p)] [] h u (fun o h2 _ => h2 = h ∧ ∃ s t : Int32, Psz a s ∧ Psz b t ∧ o = .inl (some (.int (10 * (s + t) + c)))) := by
  refine zSp0 (pc' := 2) (st' := .int (10) :: _) vr_127_0 rfl rfl ?_
  refine zSaload (m := 1) (k := 0) vr_127_2 rfl rfl rfl ?_
  refine zLget vr_127_3 rfl (fun p615 w615 e615 t615 g615 => ?_)
  cases e615
  first | (rw [h3] at g615; cases g615) | (rw [h4] at g615; cases g615) | (rw [h6] at g615; cases g615) | skip
  refine zScall vr_127_6 rfl rfl rfl (fun m616 _ => C_size _ _ _ _) (fun v616 h616 u616 q616 => ?_) (fun E616 h616 u616 q616 => ?_)
  · obtain ⟨eh616, s616, a616, z616⟩ := q616
    replace eh616 := eh616.symm
    subst eh616
    cases z616
    show zL zrx zi _ 127 9 [(0, _)] [_, _] _ _ _
    refine zSaload (m := 1) (k := 0) vr_127_9 rfl rfl rfl ?_
    refine zLget vr_127_10 rfl (fun p618 w618 e618 t618 g618 => ?_)
    cases e618
    first | (rw [h3] at g618; cases g618) | (rw [h4] at g618; cases g618) | (rw [h6] at g618; cases g618) | skip
    refine zScall vr_127_13 rfl rfl rfl (fun m619 _ => C_size _ _ _ _) (fun v619 h619 u619 q619 => ?_) (fun E619 h619 u619 q619 => ?_)
    · obtain ⟨eh619, s619, a619, z619⟩ := q619
      replace eh619 := eh619.symm
      subst eh619
      cases z619
      show zL zrx zi _ 127 16 [(0, _)] [_, _, _] _ _ _
      refine zS2 (f := fun x y => .int (x + y)) vr_127_16 rfl rfl (fun x620 y620 e620 f620 => ?_)
      cases e620
      cases f620
      refine zS2 (f := fun x y => .int (x * y)) vr_127_17 rfl rfl (fun x621 y621 e621 f621 => ?_)
      cases e621
      cases f621
      refine zSaload (m := 1) (k := 0) vr_127_18 rfl rfl rfl ?_
      refine zLget vr_127_19 rfl (fun p623 w623 e623 t623 g623 => ?_)
      cases e623
      first | (rw [h3] at g623; cases g623) | (rw [h4] at g623; cases g623) | (rw [h6] at g623; cases g623) | skip
      refine zS2 (f := fun x y => .int (x + y)) vr_127_22 rfl rfl (fun x624 y624 e624 f624 => ?_)
      cases e624
      cases f624
      refine zLiret vr_127_23 rfl (fun x625 e625 => ?_)
      cases e625
      refine ⟨rfl, _, _, ?_, ?_, rfl⟩ <;> assumption
    · obtain ⟨-, _, -, z⟩ := q619
      cases z
  · obtain ⟨-, _, -, z⟩ := q616
    cases z
theorem C_isRule (n : Nat) (x : Int32) (h : List zC) (u : Nat) {cnt : Int32} (hS : Stc h) (hs : gF h 223 2 = some (.int cnt)) : zL zrx zi n 154 0 [(0, .ref 213), (1, .int x)] [] h u (fun o h2 _ => h2 = h ∧ o = .inl (some (.int (inB x 0 (cnt - 1))))) := by
  refine zSiload (m := 1) (k := 1) vr_154_0 rfl rfl rfl (fun x626 e626 => ?_)
  cases e626
  refine zSp0 (pc' := 2) (st' := .int (0) :: _) vr_154_1 rfl rfl ?_
  refine zSaload (m := 1) (k := 0) vr_154_2 rfl rfl rfl ?_
  refine zLget vr_154_3 rfl (fun p629 w629 e629 t629 g629 => ?_)
  cases e629
  first | (rw [(st_213_7 hS)] at g629; cases g629) | skip
  refine zScall vr_154_6 rfl rfl rfl (fun m630 _ => C_lsize _ _ _ _ hs) (fun v630 h630 u630 q630 => ?_) (fun E630 h630 u630 q630 => ?_)
  · obtain ⟨eh630, z630⟩ := q630
    replace eh630 := eh630.symm
    subst eh630
    cases z630
    show zL zrx zi _ 154 11 [(0, _), (1, _)] [_, _, _] _ _ _
    refine zSp0 (pc' := 12) (st' := .int (1) :: _) vr_154_11 rfl rfl ?_
    refine zS2 (f := fun x y => .int (x - y)) vr_154_12 rfl rfl (fun x632 y632 e632 f632 => ?_)
    cases e632
    cases f632
    refine zScall vr_154_13 rfl rfl rfl (fun m633 _ => C_in _ _ _ _ _ _) (fun v633 h633 u633 q633 => ?_) (fun E633 h633 u633 q633 => ?_)
    · obtain ⟨eh633, z633⟩ := q633
      replace eh633 := eh633.symm
      subst eh633
      cases z633
      show zL zrx zi _ 154 16 [(0, _), (1, _)] [_] _ _ _
      refine zLiret vr_154_16 rfl (fun x634 e634 => ?_)
      cases e634
      exact ⟨rfl, rfl⟩
    · obtain ⟨-, z⟩ := q633
      cases z
  · obtain ⟨-, z⟩ := q630
    cases z
abbrev Q_mlimit (el : Nat) (cnt : Int32) (x a b : Int32) (h : List zC) : zK := fun o h2 _ => ∃ (r : Int32) (h0 : List zC), o = .inl (some (.int r)) ∧ hPut h h0 213 0 (.int 0) ∧
  (((iN cnt.toInt x ∧ rI 0 999 a ∧ rI a 999 b) ∧ ∃ (q : Nat) (h1 : List zC) (fa fb fc s t : Int32), gF h el x.toNatClampNeg = some (.ref q) ∧ gT h q = some 17 ∧ hPut h0 h1 q 8 (.int a) ∧ hPut h1 h2 q 9 (.int b) ∧ gF h q 3 = some (.int fa) ∧ gF h q 4 = some (.int fb) ∧ gF h q 6 = some (.int fc) ∧ Psz fa s ∧ Psz fb t ∧ r = 10 * (s + t) + fc) ∨ (¬ iN cnt.toInt x ∧ hPut h0 h2 213 0 (.int 1)) ∨ (iN cnt.toInt x ∧ ¬ (rI 0 999 a ∧ rI a 999 b) ∧ hPut h0 h2 213 0 (.int 2)))
theorem C_mlimit (n : Nat) (x a b : Int32) (h : List zC) (u : Nat) {el : Nat} {cnt : Int32} (hS : Stc h) (hs : gF h 223 2 = some (.int cnt)) (hL : gF h 223 1 = some (.ref el)) (tE : ∃ t, gT h el = some t ∧ 93 ≤ t) (h213 : ¬ el = 213) (hT : gT h 213 = some 18) (hT2 : gT h 223 = some 2) (h0c : 0 ≤ cnt.toInt) (hq : iN cnt.toInt x → ∀ q : Nat, gF h el x.toNatClampNeg = some (.ref q) → ∃ fa fb fc : Int32, gF h q 3 = some (.int fa) ∧ gF h q 4 = some (.int fb) ∧ gF h q 6 = some (.int fc)) : zL zrx zi n 155 0 [(0, .ref 213), (1, .int x), (2, .int a), (3, .int b)] [] h u (Q_mlimit el cnt x a b h) := by
  refine zSaload (m := 1) (k := 0) vr_155_0 rfl rfl rfl ?_
  refine zSp0 (pc' := 2) (st' := .int (0) :: _) vr_155_1 rfl rfl ?_
  refine zLput vr_155_2 rfl (fun p637 k637 e637 t637 g637 => ?_)
  cases e637
  have t0 := g637
  have hS0 := hS.thr t0
  have f0 : ∀ q k, ¬ (q = 213 ∧ k = 0) → gF k637 q k = gF h q k := fun q k z => by rw [t0.2.1, if_neg z]
  have hs0 := (f0 223 2 (by omega)).trans hs
  have hL0 := (f0 223 1 (by omega)).trans hL
  refine zSaload (m := 1) (k := 0) vr_155_5 rfl rfl rfl ?_
  refine zSiload (m := 1) (k := 1) vr_155_6 rfl rfl rfl (fun x639 e639 => ?_)
  cases e639
  refine zScall vr_155_7 rfl rfl rfl (fun m640 _ => C_isRule _ _ _ _ hS0 hs0) (fun v640 h640 u640 q640 => ?_) (fun E640 h640 u640 q640 => ?_)
  · obtain ⟨eh640, z640⟩ := q640
    replace eh640 := eh640.symm
    subst eh640
    cases z640
    show zL zrx zi _ 155 10 [(0, _), (1, _), (2, _), (3, _)] [_] _ _ _
    refine zSb1 (f := fun x => decide (¬ x = 0)) (off := 9) (t := 19) vr_155_10 rfl rfl rfl (fun x641 e641 q641 => ?_) (fun x641 e641 q641 => ?_)
    · cases e641
      refine zSiload (m := 1) (k := 2) vr_155_19 rfl rfl rfl (fun x642 e642 => ?_)
      cases e642
      refine zSp0 (pc' := 21) (st' := .int (0) :: _) vr_155_20 rfl rfl ?_
      refine zSp0 (pc' := 24) (st' := .int (999) :: _) vr_155_21 rfl rfl ?_
      refine zScall vr_155_24 rfl rfl rfl (fun m645 _ => C_in _ _ _ _ _ _) (fun v645 h645 u645 q645 => ?_) (fun E645 h645 u645 q645 => ?_)
      · obtain ⟨eh645, z645⟩ := q645
        replace eh645 := eh645.symm
        subst eh645
        cases z645
        show zL zrx zi _ 155 27 [(0, _), (1, _), (2, _), (3, _)] [_] _ _ _
        refine zSb1 (f := fun x => decide (x = 0)) (off := 14) (t := 41) vr_155_27 rfl rfl rfl (fun x646 e646 q646 => ?_) (fun x646 e646 q646 => ?_)
        · cases e646
          refine zSaload (m := 1) (k := 0) vr_155_41 rfl rfl rfl ?_
          refine zSp0 (pc' := 43) (st' := .int (2) :: _) vr_155_42 rfl rfl ?_
          refine zScall vr_155_43 rfl rfl rfl (fun m649 _ => C_no _ _ _ _ _) (fun v649 h649 u649 q649 => ?_) (fun E649 h649 u649 q649 => ?_)
          · obtain ⟨gn649, z649⟩ := q649
            cases z649
            show zL zrx zi _ 155 46 [(0, _), (1, _), (2, _), (3, _)] [_] _ _ _
            refine zLiret vr_155_46 rfl (fun x650 e650 => ?_)
            cases e650
            first
              | exact ⟨_, _, rfl, t0, Or.inr (Or.inr ⟨isr_y h0c (of_decide_eq_true q641), fun z => inB_n (of_decide_eq_true q646) z.1, gn649⟩)⟩
              | exact ⟨_, _, rfl, t0, Or.inr (Or.inr ⟨isr_y h0c (of_decide_eq_true q641), fun z => inB_n (by simpa using q431) z.2, gn649⟩)⟩
          · obtain ⟨-, z⟩ := q649
            cases z
        · cases e646
          refine zSiload (m := 1) (k := 3) vr_155_30 rfl rfl rfl (fun x651 e651 => ?_)
          cases e651
          refine zSiload (m := 1) (k := 2) vr_155_31 rfl rfl rfl (fun x652 e652 => ?_)
          cases e652
          refine zSp0 (pc' := 35) (st' := .int (999) :: _) vr_155_32 rfl rfl ?_
          refine zScall vr_155_35 rfl rfl rfl (fun m654 _ => C_in _ _ _ _ _ _) (fun v654 h654 u654 q654 => ?_) (fun E654 h654 u654 q654 => ?_)
          · obtain ⟨eh654, z654⟩ := q654
            replace eh654 := eh654.symm
            subst eh654
            cases z654
            show zL zrx zi _ 155 38 [(0, _), (1, _), (2, _), (3, _)] [_] _ _ _
            refine zSb1 (f := fun x => decide (¬ x = 0)) (off := 9) (t := 47) vr_155_38 rfl rfl rfl (fun x655 e655 q655 => ?_) (fun x655 e655 q655 => ?_)
            · cases e655
              refine zSaload (m := 1) (k := 0) vr_155_47 rfl rfl rfl ?_
              refine zLget vr_155_48 rfl (fun p657 w657 e657 t657 g657 => ?_)
              cases e657
              first | (rw [(st_213_7 hS0)] at g657; cases g657) | skip
              refine zSiload (m := 1) (k := 1) vr_155_51 rfl rfl rfl (fun x658 e658 => ?_)
              cases e658
              refine zScall vr_155_52 rfl rfl rfl (fun m659 _ => C_get _ _ _ _ _ hL0 hs0) (fun v659 h659 u659 q659 => ?_) (fun E659 h659 u659 q659 => ?_)
              · obtain ⟨eh659, y659, w659, z659, k659⟩ := q659
                replace eh659 := eh659.symm
                subst eh659
                cases z659
                show zL zrx zi _ 155 57 [(0, _), (1, _), (2, _), (3, _)] [_] _ _ _
                refine zLcst vr_155_57 rfl (fun p660 e660 => ?_)
                cases e660
                have e1 : gF k637 el x.toNatClampNeg = some (.ref p660) := k659
                refine zSiload (m := 1) (k := 2) vr_155_60 rfl rfl rfl (fun x661 e661 => ?_)
                cases e661
                refine zLput vr_155_61 rfl (fun p662 k662 e662 t662 g662 => ?_)
                cases e662
                have nel : ¬ p660 = el := fun z => by
                  obtain ⟨t, t1, t2⟩ := tE
                  have y := t662
                  rw [t0.2.2.1, z, t1] at y
                  cases y
                  omega
                have n213 : ¬ p660 = 213 := fun z => by
                  have y := t662
                  rw [t0.2.2.1, z, hT] at y
                  cases y
                have n223 : ¬ p660 = 223 := fun z => by
                  have y := t662
                  rw [t0.2.2.1, z, hT2] at y
                  cases y
                have f1 : ∀ q k, ¬ q = p660 → gF k662 q k = gF k637 q k := fun q k z => by rw [g662.2.1, if_neg (fun y => z y.1)]
                have hL1 := (f1 223 1 (fun z => n223 z.symm)).trans hL0
                have hs1 := (f1 223 2 (fun z => n223 z.symm)).trans hs0
                refine zSaload (m := 1) (k := 0) vr_155_64 rfl rfl rfl ?_
                refine zLget vr_155_65 rfl (fun p664 w664 e664 t664 g664 => ?_)
                cases e664
                first | (rw [((f1 213 7 (fun z => n213 z.symm)).trans (st_213_7 hS0))] at g664; cases g664) | skip
                refine zSiload (m := 1) (k := 1) vr_155_68 rfl rfl rfl (fun x665 e665 => ?_)
                cases e665
                refine zScall vr_155_69 rfl rfl rfl (fun m666 _ => C_get _ _ _ _ _ hL1 hs1) (fun v666 h666 u666 q666 => ?_) (fun E666 h666 u666 q666 => ?_)
                · obtain ⟨eh666, y666, w666, z666, k666⟩ := q666
                  replace eh666 := eh666.symm
                  subst eh666
                  cases z666
                  show zL zrx zi _ 155 74 [(0, _), (1, _), (2, _), (3, _)] [_] _ _ _
                  refine zLcst vr_155_74 rfl (fun p667 e667 => ?_)
                  cases e667
                  have e2 := k666
                  rw [f1 el _ (fun z => nel z.symm), e1] at e2
                  cases e2
                  refine zSiload (m := 1) (k := 3) vr_155_77 rfl rfl rfl (fun x668 e668 => ?_)
                  cases e668
                  refine zLput vr_155_78 rfl (fun p669 k669 e669 t669 g669 => ?_)
                  cases e669
                  have f2 : ∀ q k, ¬ q = p660 → gF k669 q k = gF k637 q k := fun q k z => by rw [g669.2.1, if_neg (fun y => z y.1), f1 q k z]
                  have hL2 := (f2 223 1 (fun z => n223 z.symm)).trans hL0
                  have hs2 := (f2 223 2 (fun z => n223 z.symm)).trans hs0
                  refine zSaload (m := 1) (k := 0) vr_155_81 rfl rfl rfl ?_
                  refine zLget vr_155_82 rfl (fun p671 w671 e671 t671 g671 => ?_)
                  cases e671
                  first | (rw [((f2 213 7 (fun z => n213 z.symm)).trans (st_213_7 hS0))] at g671; cases g671) | skip
                  refine zSiload (m := 1) (k := 1) vr_155_85 rfl rfl rfl (fun x672 e672 => ?_)
                  cases e672
                  refine zScall vr_155_86 rfl rfl rfl (fun m673 _ => C_get _ _ _ _ _ hL2 hs2) (fun v673 h673 u673 q673 => ?_) (fun E673 h673 u673 q673 => ?_)
                  · obtain ⟨eh673, y673, w673, z673, k673⟩ := q673
                    replace eh673 := eh673.symm
                    subst eh673
                    cases z673
                    show zL zrx zi _ 155 91 [(0, _), (1, _), (2, _), (3, _)] [_] _ _ _
                    refine zLcst vr_155_91 rfl (fun p674 e674 => ?_)
                    cases e674
                    have e3 := k673
                    rw [f2 el _ (fun z => nel z.symm), e1] at e3
                    cases e3
                    have e4 : gF h el x.toNatClampNeg = some (.ref p660) := by
                      rw [← f0 el _ (fun z => h213 z.1)]
                      exact e1
                    obtain ⟨fa, fb, fc, fa1, fb1, fc1⟩ := hq (isr_y h0c (of_decide_eq_true q641)) _ e4
                    have ga : ∀ k, ¬ k = 8 → ¬ k = 9 → gF k669 p660 k = gF h p660 k := fun k z1 z2 => by
                      rw [g669.2.1, if_neg (fun y => z2 y.2), g662.2.1, if_neg (fun y => z1 y.2), f0 _ _ (fun y => n213 y.1)]
                    refine zScall vr_155_94 rfl rfl rfl (fun m675 _ => C_strength _ _ _ _ ((ga 3 (by decide) (by decide)).trans fa1) ((ga 4 (by decide) (by decide)).trans fb1) ((ga 6 (by decide) (by decide)).trans fc1)) (fun v675 h675 u675 q675 => ?_) (fun E675 h675 u675 q675 => ?_)
                    · obtain ⟨eh675, s675, t675, ps1, ps2, z675⟩ := q675
                      replace eh675 := eh675.symm
                      subst eh675
                      cases z675
                      show zL zrx zi _ 155 97 [(0, _), (1, _), (2, _), (3, _)] [_] _ _ _
                      refine zLiret vr_155_97 rfl (fun x676 e676 => ?_)
                      cases e676
                      exact ⟨_, _, rfl, t0, Or.inl ⟨⟨isr_y h0c (of_decide_eq_true q641), inB_y (by simpa using q646), inB_y (of_decide_eq_true q655)⟩, _, _, _, _, _, _, _, e4, (t0.2.2.1 _).symm.trans t662, g662, g669, fa1, fb1, fc1, ps1, ps2, rfl⟩⟩
                    · obtain ⟨-, _, _, -, -, z⟩ := q675
                      cases z
                  · obtain ⟨-, -, w, z, -⟩ := q673
                    cases z
                · obtain ⟨-, -, w, z, -⟩ := q666
                  cases z
              · obtain ⟨-, -, w, z, -⟩ := q659
                cases z
            · cases e655
              refine zSaload (m := 1) (k := 0) vr_155_41 rfl rfl rfl ?_
              refine zSp0 (pc' := 43) (st' := .int (2) :: _) vr_155_42 rfl rfl ?_
              refine zScall vr_155_43 rfl rfl rfl (fun m679 _ => C_no _ _ _ _ _) (fun v679 h679 u679 q679 => ?_) (fun E679 h679 u679 q679 => ?_)
              · obtain ⟨gn679, z679⟩ := q679
                cases z679
                show zL zrx zi _ 155 46 [(0, _), (1, _), (2, _), (3, _)] [_] _ _ _
                refine zLiret vr_155_46 rfl (fun x680 e680 => ?_)
                cases e680
                first
                  | exact ⟨_, _, rfl, t0, Or.inr (Or.inr ⟨isr_y h0c (of_decide_eq_true q641), fun z => inB_n (of_decide_eq_true q646) z.1, gn679⟩)⟩
                  | exact ⟨_, _, rfl, t0, Or.inr (Or.inr ⟨isr_y h0c (of_decide_eq_true q641), fun z => inB_n (by simpa using q655) z.2, gn679⟩)⟩
              · obtain ⟨-, z⟩ := q679
                cases z
          · obtain ⟨-, z⟩ := q654
            cases z
      · obtain ⟨-, z⟩ := q645
        cases z
    · cases e641
      refine zSaload (m := 1) (k := 0) vr_155_13 rfl rfl rfl ?_
      refine zSp0 (pc' := 15) (st' := .int (1) :: _) vr_155_14 rfl rfl ?_
      refine zScall vr_155_15 rfl rfl rfl (fun m683 _ => C_no _ _ _ _ _) (fun v683 h683 u683 q683 => ?_) (fun E683 h683 u683 q683 => ?_)
      · obtain ⟨gn683, z683⟩ := q683
        cases z683
        show zL zrx zi _ 155 18 [(0, _), (1, _), (2, _), (3, _)] [_] _ _ _
        refine zLiret vr_155_18 rfl (fun x684 e684 => ?_)
        cases e684
        exact ⟨_, _, rfl, t0, Or.inr (Or.inl ⟨isr_n h0c (by simpa using q641), gn683⟩)⟩
      · obtain ⟨-, z⟩ := q683
        cases z
  · obtain ⟨-, z⟩ := q640
    cases z
theorem C_isFor (n : Nat) (p q : Nat) (d : Int32) (h : List zC) (u : Nat) : zL zrx zi n 55 0 [(0, .ref p), (1, .ref q), (2, .int d)] [] h u (fun o h2 _ => h2 = h ∧ o = .inl (some (.int (if okP (iv h p) (iv h q 3) (iv h q 2) (iv h q 4) (iv h q 5) d then 1 else 0)))) := by
  refine zSaload (m := 1) (k := 1) vr_55_0 rfl rfl rfl ?_
  refine zLget vr_55_1 rfl (fun p686 w686 e686 t686 g686 => ?_)
  cases e686
  refine zSaload (m := 1) (k := 0) vr_55_4 rfl rfl rfl ?_
  refine zLget vr_55_5 rfl (fun p688 w688 e688 t688 g688 => ?_)
  cases e688
  refine zSb2 (f := fun x y => decide (¬ x = y)) (off := 80) (t := 88) vr_55_8 rfl rfl rfl (fun x689 y689 e689 f689 q689 => ?_) (fun x689 y689 e689 f689 q689 => ?_)
  · cases e689
    cases f689
    have c689 := of_decide_eq_true q689
    refine zSp0 (pc' := 89) (st' := .int (0) :: _) vr_55_88 rfl rfl ?_
    refine zLiret vr_55_89 rfl (fun x691 e691 => ?_)
    cases e691
    first
      | exact ⟨rfl, by rw [if_pos (show okP (iv h p) (iv h q 3) (iv h q 2) (iv h q 4) (iv h q 5) d from ⟨by rw [iv_of g686, iv_of g688]; exact Decidable.not_not.mp c689, by rw [iv_of g632, iv_of g634]; exact Decidable.not_not.mp c625, by have e2 := (iv_of g652).symm.trans (iv_of g564); rw [iv_of g646, iv_of g652]; have e3 := Decidable.not_not.mp c467; rw [← e2] at e3; exact e3, by rw [iv_of g679, iv_of g656]; exact Decidable.not_not.mp c658, by rw [iv_of g479, iv_of g326]; exact (Int32.not_lt.mp c578), by rw [iv_of g488, iv_of g0]; exact (Int32.not_lt.mp c0), by rw [iv_of g669]; exact (Int32.not_lt.mp c670)⟩)]⟩
      | exact ⟨rfl, by rw [if_neg (fun z : okP (iv h p) (iv h q 3) (iv h q 2) (iv h q 4) (iv h q 5) d => by have y := z.1; rw [iv_of g686, iv_of g688] at y; exact c689 y)]⟩
      | exact ⟨rfl, by rw [if_neg (fun z : okP (iv h p) (iv h q 3) (iv h q 2) (iv h q 4) (iv h q 5) d => by have y := z.2.1; rw [iv_of g632, iv_of g634] at y; exact c625 y)]⟩
      | exact ⟨rfl, by rw [if_neg (fun z : okP (iv h p) (iv h q 3) (iv h q 2) (iv h q 4) (iv h q 5) d => by have y := z.2.2.1; rw [iv_of g646, iv_of g652] at y; exact c467 (by rw [← (iv_of g652).symm.trans (iv_of g564)]; exact y))]⟩
      | exact ⟨rfl, by rw [if_neg (fun z : okP (iv h p) (iv h q 3) (iv h q 2) (iv h q 4) (iv h q 5) d => by have y := z.2.2.2.1; rw [iv_of g679, iv_of g656] at y; exact c658 y)]⟩
      | exact ⟨rfl, by rw [if_neg (fun z : okP (iv h p) (iv h q 3) (iv h q 2) (iv h q 4) (iv h q 5) d => by have y := z.2.2.2.2.1; rw [iv_of g479, iv_of g326] at y; exact absurd c578 (Int32.not_lt.mpr y))]⟩
      | exact ⟨rfl, by rw [if_neg (fun z : okP (iv h p) (iv h q 3) (iv h q 2) (iv h q 4) (iv h q 5) d => by have y := z.2.2.2.2.2.1; rw [iv_of g488, iv_of g0] at y; exact absurd c0 (Int32.not_lt.mpr y))]⟩
      | exact ⟨rfl, by rw [if_neg (fun z : okP (iv h p) (iv h q 3) (iv h q 2) (iv h q 4) (iv h q 5) d => by have y := z.2.2.2.2.2.2; rw [iv_of g669] at y; exact absurd c670 (Int32.not_lt.mpr y))]⟩
  · cases e689
    cases f689
    have c689 := ndc q689
    refine zSaload (m := 1) (k := 0) vr_55_11 rfl rfl rfl ?_
    refine zLget vr_55_12 rfl (fun p693 w693 e693 t693 g693 => ?_)
    cases e693
    refine zSaload (m := 1) (k := 1) vr_55_15 rfl rfl rfl ?_
    refine zLget vr_55_16 rfl (fun p695 w695 e695 t695 g695 => ?_)
    cases e695
    refine zS2 (f := fun x y => .int (x >>> (y &&& 31))) vr_55_19 rfl rfl (fun x696 y696 e696 f696 => ?_)
    cases e696
    cases f696
    refine zSp0 (pc' := 21) (st' := .int (1) :: _) vr_55_20 rfl rfl ?_
    refine zS2 (f := fun x y => .int (x &&& y)) vr_55_21 rfl rfl (fun x698 y698 e698 f698 => ?_)
    cases e698
    cases f698
    refine zSp0 (pc' := 23) (st' := .int (1) :: _) vr_55_22 rfl rfl ?_
    refine zSb2 (f := fun x y => decide (¬ x = y)) (off := 65) (t := 88) vr_55_23 rfl rfl rfl (fun x700 y700 e700 f700 q700 => ?_) (fun x700 y700 e700 f700 q700 => ?_)
    · cases e700
      cases f700
      have c700 := of_decide_eq_true q700
      refine zSp0 (pc' := 89) (st' := .int (0) :: _) vr_55_88 rfl rfl ?_
      refine zLiret vr_55_89 rfl (fun x702 e702 => ?_)
      cases e702
      first
        | exact ⟨rfl, by rw [if_pos (show okP (iv h p) (iv h q 3) (iv h q 2) (iv h q 4) (iv h q 5) d from ⟨by rw [iv_of g686, iv_of g688]; exact Decidable.not_not.mp c689, by rw [iv_of g693, iv_of g695]; exact Decidable.not_not.mp c700, by have e2 := (iv_of g652).symm.trans (iv_of g564); rw [iv_of g646, iv_of g652]; have e3 := Decidable.not_not.mp c467; rw [← e2] at e3; exact e3, by rw [iv_of g679, iv_of g656]; exact Decidable.not_not.mp c658, by rw [iv_of g479, iv_of g326]; exact (Int32.not_lt.mp c578), by rw [iv_of g488, iv_of g0]; exact (Int32.not_lt.mp c0), by rw [iv_of g669]; exact (Int32.not_lt.mp c670)⟩)]⟩
        | exact ⟨rfl, by rw [if_neg (fun z : okP (iv h p) (iv h q 3) (iv h q 2) (iv h q 4) (iv h q 5) d => by have y := z.1; rw [iv_of g686, iv_of g688] at y; exact c689 y)]⟩
        | exact ⟨rfl, by rw [if_neg (fun z : okP (iv h p) (iv h q 3) (iv h q 2) (iv h q 4) (iv h q 5) d => by have y := z.2.1; rw [iv_of g693, iv_of g695] at y; exact c700 y)]⟩
        | exact ⟨rfl, by rw [if_neg (fun z : okP (iv h p) (iv h q 3) (iv h q 2) (iv h q 4) (iv h q 5) d => by have y := z.2.2.1; rw [iv_of g646, iv_of g652] at y; exact c467 (by rw [← (iv_of g652).symm.trans (iv_of g564)]; exact y))]⟩
        | exact ⟨rfl, by rw [if_neg (fun z : okP (iv h p) (iv h q 3) (iv h q 2) (iv h q 4) (iv h q 5) d => by have y := z.2.2.2.1; rw [iv_of g679, iv_of g656] at y; exact c658 y)]⟩
        | exact ⟨rfl, by rw [if_neg (fun z : okP (iv h p) (iv h q 3) (iv h q 2) (iv h q 4) (iv h q 5) d => by have y := z.2.2.2.2.1; rw [iv_of g479, iv_of g326] at y; exact absurd c578 (Int32.not_lt.mpr y))]⟩
        | exact ⟨rfl, by rw [if_neg (fun z : okP (iv h p) (iv h q 3) (iv h q 2) (iv h q 4) (iv h q 5) d => by have y := z.2.2.2.2.2.1; rw [iv_of g488, iv_of g0] at y; exact absurd c0 (Int32.not_lt.mpr y))]⟩
        | exact ⟨rfl, by rw [if_neg (fun z : okP (iv h p) (iv h q 3) (iv h q 2) (iv h q 4) (iv h q 5) d => by have y := z.2.2.2.2.2.2; rw [iv_of g669] at y; exact absurd c670 (Int32.not_lt.mpr y))]⟩
    · cases e700
      cases f700
      have c700 := ndc q700
      refine zSaload (m := 1) (k := 1) vr_55_26 rfl rfl rfl ?_
      refine zLget vr_55_27 rfl (fun p704 w704 e704 t704 g704 => ?_)
      cases e704
      refine zSaload (m := 1) (k := 0) vr_55_30 rfl rfl rfl ?_
      refine zLget vr_55_31 rfl (fun p706 w706 e706 t706 g706 => ?_)
      cases e706
      refine zS2 (f := fun x y => .int (x &&& y)) vr_55_34 rfl rfl (fun x707 y707 e707 f707 => ?_)
      cases e707
      cases f707
      refine zSaload (m := 1) (k := 0) vr_55_35 rfl rfl rfl ?_
      refine zLget vr_55_36 rfl (fun p709 w709 e709 t709 g709 => ?_)
      cases e709
      refine zSb2 (f := fun x y => decide (¬ x = y)) (off := 49) (t := 88) vr_55_39 rfl rfl rfl (fun x710 y710 e710 f710 q710 => ?_) (fun x710 y710 e710 f710 q710 => ?_)
      · cases e710
        cases f710
        have c710 := of_decide_eq_true q710
        refine zSp0 (pc' := 89) (st' := .int (0) :: _) vr_55_88 rfl rfl ?_
        refine zLiret vr_55_89 rfl (fun x712 e712 => ?_)
        cases e712
        first
          | exact ⟨rfl, by rw [if_pos (show okP (iv h p) (iv h q 3) (iv h q 2) (iv h q 4) (iv h q 5) d from ⟨by rw [iv_of g686, iv_of g688]; exact Decidable.not_not.mp c689, by rw [iv_of g693, iv_of g695]; exact Decidable.not_not.mp c700, by have e2 := (iv_of g706).symm.trans (iv_of g709); rw [iv_of g704, iv_of g706]; have e3 := Decidable.not_not.mp c710; rw [← e2] at e3; exact e3, by rw [iv_of g679, iv_of g656]; exact Decidable.not_not.mp c658, by rw [iv_of g479, iv_of g326]; exact (Int32.not_lt.mp c578), by rw [iv_of g488, iv_of g0]; exact (Int32.not_lt.mp c0), by rw [iv_of g669]; exact (Int32.not_lt.mp c670)⟩)]⟩
          | exact ⟨rfl, by rw [if_neg (fun z : okP (iv h p) (iv h q 3) (iv h q 2) (iv h q 4) (iv h q 5) d => by have y := z.1; rw [iv_of g686, iv_of g688] at y; exact c689 y)]⟩
          | exact ⟨rfl, by rw [if_neg (fun z : okP (iv h p) (iv h q 3) (iv h q 2) (iv h q 4) (iv h q 5) d => by have y := z.2.1; rw [iv_of g693, iv_of g695] at y; exact c700 y)]⟩
          | exact ⟨rfl, by rw [if_neg (fun z : okP (iv h p) (iv h q 3) (iv h q 2) (iv h q 4) (iv h q 5) d => by have y := z.2.2.1; rw [iv_of g704, iv_of g706] at y; exact c710 (by rw [← (iv_of g706).symm.trans (iv_of g709)]; exact y))]⟩
          | exact ⟨rfl, by rw [if_neg (fun z : okP (iv h p) (iv h q 3) (iv h q 2) (iv h q 4) (iv h q 5) d => by have y := z.2.2.2.1; rw [iv_of g679, iv_of g656] at y; exact c658 y)]⟩
          | exact ⟨rfl, by rw [if_neg (fun z : okP (iv h p) (iv h q 3) (iv h q 2) (iv h q 4) (iv h q 5) d => by have y := z.2.2.2.2.1; rw [iv_of g479, iv_of g326] at y; exact absurd c578 (Int32.not_lt.mpr y))]⟩
          | exact ⟨rfl, by rw [if_neg (fun z : okP (iv h p) (iv h q 3) (iv h q 2) (iv h q 4) (iv h q 5) d => by have y := z.2.2.2.2.2.1; rw [iv_of g488, iv_of g0] at y; exact absurd c0 (Int32.not_lt.mpr y))]⟩
          | exact ⟨rfl, by rw [if_neg (fun z : okP (iv h p) (iv h q 3) (iv h q 2) (iv h q 4) (iv h q 5) d => by have y := z.2.2.2.2.2.2; rw [iv_of g669] at y; exact absurd c670 (Int32.not_lt.mpr y))]⟩
      · cases e710
        cases f710
        have c710 := ndc q710
        refine zSaload (m := 1) (k := 1) vr_55_42 rfl rfl rfl ?_
        refine zLget vr_55_43 rfl (fun p714 w714 e714 t714 g714 => ?_)
        cases e714
        refine zSaload (m := 1) (k := 0) vr_55_46 rfl rfl rfl ?_
        refine zLget vr_55_47 rfl (fun p716 w716 e716 t716 g716 => ?_)
        cases e716
        refine zS2 (f := fun x y => .int (x &&& y)) vr_55_50 rfl rfl (fun x717 y717 e717 f717 => ?_)
        cases e717
        cases f717
        refine zSb1 (f := fun x => decide (¬ x = 0)) (off := 37) (t := 88) vr_55_51 rfl rfl rfl (fun x718 e718 q718 => ?_) (fun x718 e718 q718 => ?_)
        · cases e718
          have c718 := of_decide_eq_true q718
          refine zSp0 (pc' := 89) (st' := .int (0) :: _) vr_55_88 rfl rfl ?_
          refine zLiret vr_55_89 rfl (fun x720 e720 => ?_)
          cases e720
          first
            | exact ⟨rfl, by rw [if_pos (show okP (iv h p) (iv h q 3) (iv h q 2) (iv h q 4) (iv h q 5) d from ⟨by rw [iv_of g686, iv_of g688]; exact Decidable.not_not.mp c689, by rw [iv_of g693, iv_of g695]; exact Decidable.not_not.mp c700, by have e2 := (iv_of g706).symm.trans (iv_of g709); rw [iv_of g704, iv_of g706]; have e3 := Decidable.not_not.mp c710; rw [← e2] at e3; exact e3, by rw [iv_of g714, iv_of g716]; exact Decidable.not_not.mp c718, by rw [iv_of g479, iv_of g326]; exact (Int32.not_lt.mp c578), by rw [iv_of g488, iv_of g0]; exact (Int32.not_lt.mp c0), by rw [iv_of g669]; exact (Int32.not_lt.mp c670)⟩)]⟩
            | exact ⟨rfl, by rw [if_neg (fun z : okP (iv h p) (iv h q 3) (iv h q 2) (iv h q 4) (iv h q 5) d => by have y := z.1; rw [iv_of g686, iv_of g688] at y; exact c689 y)]⟩
            | exact ⟨rfl, by rw [if_neg (fun z : okP (iv h p) (iv h q 3) (iv h q 2) (iv h q 4) (iv h q 5) d => by have y := z.2.1; rw [iv_of g693, iv_of g695] at y; exact c700 y)]⟩
            | exact ⟨rfl, by rw [if_neg (fun z : okP (iv h p) (iv h q 3) (iv h q 2) (iv h q 4) (iv h q 5) d => by have y := z.2.2.1; rw [iv_of g704, iv_of g706] at y; exact c710 (by rw [← (iv_of g706).symm.trans (iv_of g709)]; exact y))]⟩
            | exact ⟨rfl, by rw [if_neg (fun z : okP (iv h p) (iv h q 3) (iv h q 2) (iv h q 4) (iv h q 5) d => by have y := z.2.2.2.1; rw [iv_of g714, iv_of g716] at y; exact c718 y)]⟩
            | exact ⟨rfl, by rw [if_neg (fun z : okP (iv h p) (iv h q 3) (iv h q 2) (iv h q 4) (iv h q 5) d => by have y := z.2.2.2.2.1; rw [iv_of g479, iv_of g326] at y; exact absurd c578 (Int32.not_lt.mpr y))]⟩
            | exact ⟨rfl, by rw [if_neg (fun z : okP (iv h p) (iv h q 3) (iv h q 2) (iv h q 4) (iv h q 5) d => by have y := z.2.2.2.2.2.1; rw [iv_of g488, iv_of g0] at y; exact absurd c0 (Int32.not_lt.mpr y))]⟩
            | exact ⟨rfl, by rw [if_neg (fun z : okP (iv h p) (iv h q 3) (iv h q 2) (iv h q 4) (iv h q 5) d => by have y := z.2.2.2.2.2.2; rw [iv_of g669] at y; exact absurd c670 (Int32.not_lt.mpr y))]⟩
        · cases e718
          have c718 := ndc q718
          refine zSaload (m := 1) (k := 1) vr_55_54 rfl rfl rfl ?_
          refine zLget vr_55_55 rfl (fun p722 w722 e722 t722 g722 => ?_)
          cases e722
          refine zSaload (m := 1) (k := 0) vr_55_58 rfl rfl rfl ?_
          refine zLget vr_55_59 rfl (fun p724 w724 e724 t724 g724 => ?_)
          cases e724
          refine zSb2 (f := fun x y => decide (x < y)) (off := 26) (t := 88) vr_55_62 rfl rfl rfl (fun x725 y725 e725 f725 q725 => ?_) (fun x725 y725 e725 f725 q725 => ?_)
          · cases e725
            cases f725
            have c725 := of_decide_eq_true q725
            refine zSp0 (pc' := 89) (st' := .int (0) :: _) vr_55_88 rfl rfl ?_
            refine zLiret vr_55_89 rfl (fun x727 e727 => ?_)
            cases e727
            first
              | exact ⟨rfl, by rw [if_pos (show okP (iv h p) (iv h q 3) (iv h q 2) (iv h q 4) (iv h q 5) d from ⟨by rw [iv_of g686, iv_of g688]; exact Decidable.not_not.mp c689, by rw [iv_of g693, iv_of g695]; exact Decidable.not_not.mp c700, by have e2 := (iv_of g706).symm.trans (iv_of g709); rw [iv_of g704, iv_of g706]; have e3 := Decidable.not_not.mp c710; rw [← e2] at e3; exact e3, by rw [iv_of g714, iv_of g716]; exact Decidable.not_not.mp c718, by rw [iv_of g722, iv_of g724]; exact (Int32.not_lt.mp c725), by rw [iv_of g488, iv_of g0]; exact (Int32.not_lt.mp c0), by rw [iv_of g669]; exact (Int32.not_lt.mp c670)⟩)]⟩
              | exact ⟨rfl, by rw [if_neg (fun z : okP (iv h p) (iv h q 3) (iv h q 2) (iv h q 4) (iv h q 5) d => by have y := z.1; rw [iv_of g686, iv_of g688] at y; exact c689 y)]⟩
              | exact ⟨rfl, by rw [if_neg (fun z : okP (iv h p) (iv h q 3) (iv h q 2) (iv h q 4) (iv h q 5) d => by have y := z.2.1; rw [iv_of g693, iv_of g695] at y; exact c700 y)]⟩
              | exact ⟨rfl, by rw [if_neg (fun z : okP (iv h p) (iv h q 3) (iv h q 2) (iv h q 4) (iv h q 5) d => by have y := z.2.2.1; rw [iv_of g704, iv_of g706] at y; exact c710 (by rw [← (iv_of g706).symm.trans (iv_of g709)]; exact y))]⟩
              | exact ⟨rfl, by rw [if_neg (fun z : okP (iv h p) (iv h q 3) (iv h q 2) (iv h q 4) (iv h q 5) d => by have y := z.2.2.2.1; rw [iv_of g714, iv_of g716] at y; exact c718 y)]⟩
              | exact ⟨rfl, by rw [if_neg (fun z : okP (iv h p) (iv h q 3) (iv h q 2) (iv h q 4) (iv h q 5) d => by have y := z.2.2.2.2.1; rw [iv_of g722, iv_of g724] at y; exact absurd c725 (Int32.not_lt.mpr y))]⟩
              | exact ⟨rfl, by rw [if_neg (fun z : okP (iv h p) (iv h q 3) (iv h q 2) (iv h q 4) (iv h q 5) d => by have y := z.2.2.2.2.2.1; rw [iv_of g488, iv_of g0] at y; exact absurd c0 (Int32.not_lt.mpr y))]⟩
              | exact ⟨rfl, by rw [if_neg (fun z : okP (iv h p) (iv h q 3) (iv h q 2) (iv h q 4) (iv h q 5) d => by have y := z.2.2.2.2.2.2; rw [iv_of g669] at y; exact absurd c670 (Int32.not_lt.mpr y))]⟩
          · cases e725
            cases f725
            have c725 := ndc q725
            refine zSaload (m := 1) (k := 1) vr_55_65 rfl rfl rfl ?_
            refine zLget vr_55_66 rfl (fun p729 w729 e729 t729 g729 => ?_)
            cases e729
            refine zSaload (m := 1) (k := 0) vr_55_69 rfl rfl rfl ?_
            refine zLget vr_55_70 rfl (fun p731 w731 e731 t731 g731 => ?_)
            cases e731
            refine zSb2 (f := fun x y => decide (y < x)) (off := 15) (t := 88) vr_55_73 rfl rfl rfl (fun x732 y732 e732 f732 q732 => ?_) (fun x732 y732 e732 f732 q732 => ?_)
            · cases e732
              cases f732
              have c732 := of_decide_eq_true q732
              refine zSp0 (pc' := 89) (st' := .int (0) :: _) vr_55_88 rfl rfl ?_
              refine zLiret vr_55_89 rfl (fun x734 e734 => ?_)
              cases e734
              first
                | exact ⟨rfl, by rw [if_pos (show okP (iv h p) (iv h q 3) (iv h q 2) (iv h q 4) (iv h q 5) d from ⟨by rw [iv_of g686, iv_of g688]; exact Decidable.not_not.mp c689, by rw [iv_of g693, iv_of g695]; exact Decidable.not_not.mp c700, by have e2 := (iv_of g706).symm.trans (iv_of g709); rw [iv_of g704, iv_of g706]; have e3 := Decidable.not_not.mp c710; rw [← e2] at e3; exact e3, by rw [iv_of g714, iv_of g716]; exact Decidable.not_not.mp c718, by rw [iv_of g722, iv_of g724]; exact (Int32.not_lt.mp c725), by rw [iv_of g729, iv_of g731]; exact (Int32.not_lt.mp c732), by rw [iv_of g669]; exact (Int32.not_lt.mp c670)⟩)]⟩
                | exact ⟨rfl, by rw [if_neg (fun z : okP (iv h p) (iv h q 3) (iv h q 2) (iv h q 4) (iv h q 5) d => by have y := z.1; rw [iv_of g686, iv_of g688] at y; exact c689 y)]⟩
                | exact ⟨rfl, by rw [if_neg (fun z : okP (iv h p) (iv h q 3) (iv h q 2) (iv h q 4) (iv h q 5) d => by have y := z.2.1; rw [iv_of g693, iv_of g695] at y; exact c700 y)]⟩
                | exact ⟨rfl, by rw [if_neg (fun z : okP (iv h p) (iv h q 3) (iv h q 2) (iv h q 4) (iv h q 5) d => by have y := z.2.2.1; rw [iv_of g704, iv_of g706] at y; exact c710 (by rw [← (iv_of g706).symm.trans (iv_of g709)]; exact y))]⟩
                | exact ⟨rfl, by rw [if_neg (fun z : okP (iv h p) (iv h q 3) (iv h q 2) (iv h q 4) (iv h q 5) d => by have y := z.2.2.2.1; rw [iv_of g714, iv_of g716] at y; exact c718 y)]⟩
                | exact ⟨rfl, by rw [if_neg (fun z : okP (iv h p) (iv h q 3) (iv h q 2) (iv h q 4) (iv h q 5) d => by have y := z.2.2.2.2.1; rw [iv_of g722, iv_of g724] at y; exact absurd c725 (Int32.not_lt.mpr y))]⟩
                | exact ⟨rfl, by rw [if_neg (fun z : okP (iv h p) (iv h q 3) (iv h q 2) (iv h q 4) (iv h q 5) d => by have y := z.2.2.2.2.2.1; rw [iv_of g729, iv_of g731] at y; exact absurd c732 (Int32.not_lt.mpr y))]⟩
                | exact ⟨rfl, by rw [if_neg (fun z : okP (iv h p) (iv h q 3) (iv h q 2) (iv h q 4) (iv h q 5) d => by have y := z.2.2.2.2.2.2; rw [iv_of g669] at y; exact absurd c670 (Int32.not_lt.mpr y))]⟩
            · cases e732
              cases f732
              have c732 := ndc q732
              refine zSiload (m := 1) (k := 2) vr_55_76 rfl rfl rfl (fun x735 e735 => ?_)
              cases e735
              refine zSaload (m := 1) (k := 0) vr_55_77 rfl rfl rfl ?_
              refine zLget vr_55_78 rfl (fun p737 w737 e737 t737 g737 => ?_)
              cases e737
              refine zSb2 (f := fun x y => decide (x < y)) (off := 7) (t := 88) vr_55_81 rfl rfl rfl (fun x738 y738 e738 f738 q738 => ?_) (fun x738 y738 e738 f738 q738 => ?_)
              · cases e738
                cases f738
                have c738 := of_decide_eq_true q738
                refine zSp0 (pc' := 89) (st' := .int (0) :: _) vr_55_88 rfl rfl ?_
                refine zLiret vr_55_89 rfl (fun x740 e740 => ?_)
                cases e740
                first
                  | exact ⟨rfl, by rw [if_pos (show okP (iv h p) (iv h q 3) (iv h q 2) (iv h q 4) (iv h q 5) d from ⟨by rw [iv_of g686, iv_of g688]; exact Decidable.not_not.mp c689, by rw [iv_of g693, iv_of g695]; exact Decidable.not_not.mp c700, by have e2 := (iv_of g706).symm.trans (iv_of g709); rw [iv_of g704, iv_of g706]; have e3 := Decidable.not_not.mp c710; rw [← e2] at e3; exact e3, by rw [iv_of g714, iv_of g716]; exact Decidable.not_not.mp c718, by rw [iv_of g722, iv_of g724]; exact (Int32.not_lt.mp c725), by rw [iv_of g729, iv_of g731]; exact (Int32.not_lt.mp c732), by rw [iv_of g737]; exact (Int32.not_lt.mp c738)⟩)]⟩
                  | exact ⟨rfl, by rw [if_neg (fun z : okP (iv h p) (iv h q 3) (iv h q 2) (iv h q 4) (iv h q 5) d => by have y := z.1; rw [iv_of g686, iv_of g688] at y; exact c689 y)]⟩
                  | exact ⟨rfl, by rw [if_neg (fun z : okP (iv h p) (iv h q 3) (iv h q 2) (iv h q 4) (iv h q 5) d => by have y := z.2.1; rw [iv_of g693, iv_of g695] at y; exact c700 y)]⟩
                  | exact ⟨rfl, by rw [if_neg (fun z : okP (iv h p) (iv h q 3) (iv h q 2) (iv h q 4) (iv h q 5) d => by have y := z.2.2.1; rw [iv_of g704, iv_of g706] at y; exact c710 (by rw [← (iv_of g706).symm.trans (iv_of g709)]; exact y))]⟩
                  | exact ⟨rfl, by rw [if_neg (fun z : okP (iv h p) (iv h q 3) (iv h q 2) (iv h q 4) (iv h q 5) d => by have y := z.2.2.2.1; rw [iv_of g714, iv_of g716] at y; exact c718 y)]⟩
                  | exact ⟨rfl, by rw [if_neg (fun z : okP (iv h p) (iv h q 3) (iv h q 2) (iv h q 4) (iv h q 5) d => by have y := z.2.2.2.2.1; rw [iv_of g722, iv_of g724] at y; exact absurd c725 (Int32.not_lt.mpr y))]⟩
                  | exact ⟨rfl, by rw [if_neg (fun z : okP (iv h p) (iv h q 3) (iv h q 2) (iv h q 4) (iv h q 5) d => by have y := z.2.2.2.2.2.1; rw [iv_of g729, iv_of g731] at y; exact absurd c732 (Int32.not_lt.mpr y))]⟩
                  | exact ⟨rfl, by rw [if_neg (fun z : okP (iv h p) (iv h q 3) (iv h q 2) (iv h q 4) (iv h q 5) d => by have y := z.2.2.2.2.2.2; rw [iv_of g737] at y; exact absurd c738 (Int32.not_lt.mpr y))]⟩
              · cases e738
                cases f738
                have c738 := ndc q738
                refine zSp0 (pc' := 85) (st' := .int (1) :: _) vr_55_84 rfl rfl ?_
                refine zSgo (t := 89) vr_55_85 rfl rfl ?_
                refine zLiret vr_55_89 rfl (fun x743 e743 => ?_)
                cases e743
                first
                  | exact ⟨rfl, by rw [if_pos (show okP (iv h p) (iv h q 3) (iv h q 2) (iv h q 4) (iv h q 5) d from ⟨by rw [iv_of g686, iv_of g688]; exact Decidable.not_not.mp c689, by rw [iv_of g693, iv_of g695]; exact Decidable.not_not.mp c700, by have e2 := (iv_of g706).symm.trans (iv_of g709); rw [iv_of g704, iv_of g706]; have e3 := Decidable.not_not.mp c710; rw [← e2] at e3; exact e3, by rw [iv_of g714, iv_of g716]; exact Decidable.not_not.mp c718, by rw [iv_of g722, iv_of g724]; exact (Int32.not_lt.mp c725), by rw [iv_of g729, iv_of g731]; exact (Int32.not_lt.mp c732), by rw [iv_of g737]; exact (Int32.not_lt.mp c738)⟩)]⟩
                  | exact ⟨rfl, by rw [if_neg (fun z : okP (iv h p) (iv h q 3) (iv h q 2) (iv h q 4) (iv h q 5) d => by have y := z.1; rw [iv_of g686, iv_of g688] at y; exact c689 y)]⟩
                  | exact ⟨rfl, by rw [if_neg (fun z : okP (iv h p) (iv h q 3) (iv h q 2) (iv h q 4) (iv h q 5) d => by have y := z.2.1; rw [iv_of g693, iv_of g695] at y; exact c700 y)]⟩
                  | exact ⟨rfl, by rw [if_neg (fun z : okP (iv h p) (iv h q 3) (iv h q 2) (iv h q 4) (iv h q 5) d => by have y := z.2.2.1; rw [iv_of g704, iv_of g706] at y; exact c710 (by rw [← (iv_of g706).symm.trans (iv_of g709)]; exact y))]⟩
                  | exact ⟨rfl, by rw [if_neg (fun z : okP (iv h p) (iv h q 3) (iv h q 2) (iv h q 4) (iv h q 5) d => by have y := z.2.2.2.1; rw [iv_of g714, iv_of g716] at y; exact c718 y)]⟩
                  | exact ⟨rfl, by rw [if_neg (fun z : okP (iv h p) (iv h q 3) (iv h q 2) (iv h q 4) (iv h q 5) d => by have y := z.2.2.2.2.1; rw [iv_of g722, iv_of g724] at y; exact absurd c725 (Int32.not_lt.mpr y))]⟩
                  | exact ⟨rfl, by rw [if_neg (fun z : okP (iv h p) (iv h q 3) (iv h q 2) (iv h q 4) (iv h q 5) d => by have y := z.2.2.2.2.2.1; rw [iv_of g729, iv_of g731] at y; exact absurd c732 (Int32.not_lt.mpr y))]⟩
                  | exact ⟨rfl, by rw [if_neg (fun z : okP (iv h p) (iv h q 3) (iv h q 2) (iv h q 4) (iv h q 5) d => by have y := z.2.2.2.2.2.2; rw [iv_of g737] at y; exact absurd c738 (Int32.not_lt.mpr y))]⟩
set_option maxRecDepth 20000 in
theorem C_ofP_loop {par d cnt : Int32} {q : Nat} {h : List zC} (hS : Stc h) (hc : gF h 28 2 = some (.int cnt)) (h0 : 0 ≤ cnt.toInt) (h40 : cnt.toInt ≤ 40) : ∀ (n k : Nat) (s t : Int32) (w : Value) (u : Nat), k ≤ cnt.toNatClampNeg → cuC (dC h par (iv h q 3) (iv h q 2) (iv h q 4) (iv h q 5) d) k = (t, s) → zL zrx zi n 19 9 [(6, .int (Int32.ofNat k)), (5, .int s), (4, .int t), (0, .ref 28), (1, .int par), (2, .ref q), (3, .int d), (7, w)] [] h u (fun o h2 _ => h2 = h ∧ o = .inl (some (.int (cuC (dC h par (iv h q 3) (iv h q 2) (iv h q 4) (iv h q 5) d) cnt.toNatClampNeg).1)))
  | 0, _, _, _, _, _, _, _ => trivial
  | n + 1, k, s, t, w, u, hk, hD => by
    have ck : cnt.toNatClampNeg = cnt.toInt.toNat := rfl
    have kk := (toNat_ofNat (m := k) (by omega))
    refine zLp vr_19_9 rfl rfl ?_
    refine zSaload (m := 1) (k := 0) vr_19_11 rfl rfl rfl ?_
    refine zLget vr_19_12 rfl (fun p745 w745 e745 t745 g745 => ?_)
    cases e745
    first | (rw [hc] at g745; cases g745) | (rw [(st_28_0 hS)] at g745; cases g745) | (rw [hr] at g745; cases g745) | skip
    refine zSb2 (f := fun x y => decide (y ≤ x)) (off := 91) (t := 106) vr_19_15 rfl rfl rfl (fun x746 y746 e746 f746 q746 => ?_) (fun x746 y746 e746 f746 q746 => ?_)
    · cases e746
      cases f746
      have c746 := of_decide_eq_true q746
      refine zSiload (m := 2) (k := 4) vr_19_106 rfl rfl rfl (fun x747 e747 => ?_)
      cases e747
      refine zLiret vr_19_108 rfl (fun x748 e748 => ?_)
      cases e748
      have y := c746
      rw [i32_le, kk.2] at y
      have e : k = cnt.toNatClampNeg := by omega
      rw [← e, hD]
      exact ⟨rfl, rfl⟩
    · cases e746
      cases f746
      have c746 := ndc q746
      have hlt : k < cnt.toNatClampNeg := by
        have y := c746
        rw [i32_le, kk.2] at y
        omega
      have hr : gF h 29 (Int32.ofNat k).toNatClampNeg = some (.ref (31 + k)) := by
        rw [kk.1]
        exact st_rule hS (by omega)
      refine zSaload (m := 1) (k := 0) vr_19_18 rfl rfl rfl ?_
      refine zLget vr_19_19 rfl (fun p750 w750 e750 t750 g750 => ?_)
      cases e750
      first | (rw [hc] at g750; cases g750) | (rw [(st_28_0 hS)] at g750; cases g750) | (rw [hr] at g750; cases g750) | skip
      refine zSiload (m := 2) (k := 6) vr_19_22 rfl rfl rfl (fun x751 e751 => ?_)
      cases e751
      refine zLaald vr_19_24 rfl (fun p752 x752 w752 e752 f752 c752 t752 g752 => ?_)
      cases e752
      cases f752
      first | (rw [hc] at g752; cases g752) | (rw [(st_28_0 hS)] at g752; cases g752) | (rw [hr] at g752; cases g752) | skip
      refine zSastore (m := 2) (k := 7) vr_19_25 rfl rfl ?_
      show zL zrx zi _ 19 27 [(7, _), (6, _), (5, _), (4, _), (0, _), (1, _), (2, _), (3, _)] [] _ _ _
      refine zSaload (m := 2) (k := 7) vr_19_27 rfl rfl rfl ?_
      refine zLget vr_19_29 rfl (fun p755 w755 e755 t755 g755 => ?_)
      cases e755
      first | (rw [hc] at g755; cases g755) | (rw [(st_28_0 hS)] at g755; cases g755) | (rw [hr] at g755; cases g755) | skip
      refine zSiload (m := 1) (k := 1) vr_19_32 rfl rfl rfl (fun x756 e756 => ?_)
      cases e756
      refine zSb2 (f := fun x y => decide (¬ x = y)) (off := 67) (t := 100) vr_19_33 rfl rfl rfl (fun x757 y757 e757 f757 q757 => ?_) (fun x757 y757 e757 f757 q757 => ?_)
      · cases e757
        cases f757
        have c757 := of_decide_eq_true q757
        refine zSiinc vr_19_100 rfl rfl (fun x758 e758 => ?_)
        cases e758
        show zL zrx zi _ 19 103 [(6, _), (7, _), (5, _), (4, _), (0, _), (1, _), (2, _), (3, _)] [] _ _ _
        refine zSgo (t := 9) vr_19_103 rfl rfl ?_
        rw [ofNat_succ]
        refine zL_pm _ _ _ [(6, _), (5, _), (4, _), (0, _), (1, _), (2, _), (3, _), (7, _)] _ _ _ _ _ ⟨(List.forall_mem_cons.mpr ⟨List.mem_cons_self, (List.forall_mem_cons.mpr ⟨(List.mem_cons_of_mem _ (List.mem_cons_of_mem _ (List.mem_cons_of_mem _ (List.mem_cons_of_mem _ (List.mem_cons_of_mem _ (List.mem_cons_of_mem _ (List.mem_cons_of_mem _ List.mem_cons_self))))))), (List.forall_mem_cons.mpr ⟨(List.mem_cons_of_mem _ List.mem_cons_self), (List.forall_mem_cons.mpr ⟨(List.mem_cons_of_mem _ (List.mem_cons_of_mem _ List.mem_cons_self)), (List.forall_mem_cons.mpr ⟨(List.mem_cons_of_mem _ (List.mem_cons_of_mem _ (List.mem_cons_of_mem _ List.mem_cons_self))), (List.forall_mem_cons.mpr ⟨(List.mem_cons_of_mem _ (List.mem_cons_of_mem _ (List.mem_cons_of_mem _ (List.mem_cons_of_mem _ List.mem_cons_self)))), (List.forall_mem_cons.mpr ⟨(List.mem_cons_of_mem _ (List.mem_cons_of_mem _ (List.mem_cons_of_mem _ (List.mem_cons_of_mem _ (List.mem_cons_of_mem _ List.mem_cons_self))))), (List.forall_mem_cons.mpr ⟨(List.mem_cons_of_mem _ (List.mem_cons_of_mem _ (List.mem_cons_of_mem _ (List.mem_cons_of_mem _ (List.mem_cons_of_mem _ (List.mem_cons_of_mem _ List.mem_cons_self)))))), (fun _ h => absurd h List.not_mem_nil)⟩)⟩)⟩)⟩)⟩)⟩)⟩)⟩), show ([6, 5, 4, 0, 1, 2, 3, 7] : List Nat).Nodup by decide⟩ (C_ofP_loop hS hc h0 h40 n (k + 1) _ _ _ _ (by omega) ?_)
        first
          | exact (dC_n (fun z => by have y := z.1; rw [iv_of g755] at y; exact c757 y) rfl).trans hD
          | exact (dC_n (fun z => by have y := c714; rw [if_pos z.2] at y; exact absurd y (by decide)) rfl).trans hD
          | (obtain rfl := (iv_of g718).symm.trans (iv_of g662); refine (dC_y ⟨by rw [iv_of g755]; exact Decidable.not_not.mp c757, by have y := c714; by_cases z : okP (iv h (31 + k)) (iv h q 3) (iv h q 2) (iv h q 4) (iv h q 5) d; exact z; rw [if_neg z] at y; exact absurd rfl y⟩).trans ?_; rw [hD, iv_of g718, iv_of g665]; unfold stC; dsimp only; rw [if_pos (Int32.not_le.mp c440)])
          | (have gd : ¬ (_ = s) := c504; obtain rfl := (iv_of g718).symm.trans (iv_of g737); refine (dC_y ⟨by rw [iv_of g755]; exact Decidable.not_not.mp c757, by have y := c714; by_cases z : okP (iv h (31 + k)) (iv h q 3) (iv h q 2) (iv h q 4) (iv h q 5) d; exact z; rw [if_neg z] at y; exact absurd rfl y⟩).trans ?_; rw [hD, iv_of g718]; unfold stC; dsimp only; rw [if_neg (Int32.not_lt.mpr c440), if_neg (fun z => gd z.1)])
          | (have gd : t = _ := c340; obtain rfl := (iv_of g718).symm.trans (iv_of g737); refine (dC_y ⟨by rw [iv_of g755]; exact Decidable.not_not.mp c757, by have y := c714; by_cases z : okP (iv h (31 + k)) (iv h q 3) (iv h q 2) (iv h q 4) (iv h q 5) d; exact z; rw [if_neg z] at y; exact absurd rfl y⟩).trans ?_; rw [hD, iv_of g718, iv_of g538]; unfold stC; dsimp only; rw [if_neg (Int32.not_lt.mpr c440), if_neg (fun z => z.2 gd)])
          | (obtain rfl := (iv_of g718).symm.trans (iv_of g737); refine (dC_y ⟨by rw [iv_of g755]; exact Decidable.not_not.mp c757, by have y := c714; by_cases z : okP (iv h (31 + k)) (iv h q 3) (iv h q 2) (iv h q 4) (iv h q 5) d; exact z; rw [if_neg z] at y; exact absurd rfl y⟩).trans ?_; rw [hD, iv_of g718, iv_of g538]; unfold stC; dsimp only; rw [if_neg (Int32.not_lt.mpr c440), if_pos ⟨Decidable.not_not.mp c504, c340⟩])
      · cases e757
        cases f757
        have c757 := ndc q757
        refine zSaload (m := 2) (k := 7) vr_19_36 rfl rfl rfl ?_
        refine zSaload (m := 1) (k := 2) vr_19_38 rfl rfl rfl ?_
        refine zSiload (m := 1) (k := 3) vr_19_39 rfl rfl rfl (fun x762 e762 => ?_)
        cases e762
        refine zScall vr_19_40 rfl rfl rfl (fun m763 _ => C_isFor _ _ _ _ _ _) (fun v763 h763 u763 q763 => ?_) (fun E763 h763 u763 q763 => ?_)
        · obtain ⟨eh763, z763⟩ := q763
          replace eh763 := eh763.symm
          subst eh763
          cases z763
          show zL zrx zi _ 19 43 [(7, _), (6, _), (5, _), (4, _), (0, _), (1, _), (2, _), (3, _)] [_] _ _ _
          refine zSb1 (f := fun x => decide (¬ x = 0)) (off := 6) (t := 49) vr_19_43 rfl rfl rfl (fun x764 e764 q764 => ?_) (fun x764 e764 q764 => ?_)
          · cases e764
            have c764 := of_decide_eq_true q764
            refine zSaload (m := 2) (k := 7) vr_19_49 rfl rfl rfl ?_
            refine zLget vr_19_51 rfl (fun p766 w766 e766 t766 g766 => ?_)
            cases e766
            first | (rw [hc] at g766; cases g766) | (rw [(st_28_0 hS)] at g766; cases g766) | (rw [hr] at g766; cases g766) | skip
            refine zSiload (m := 2) (k := 5) vr_19_54 rfl rfl rfl (fun x767 e767 => ?_)
            cases e767
            refine zSb2 (f := fun x y => decide (x ≤ y)) (off := 20) (t := 76) vr_19_56 rfl rfl rfl (fun x768 y768 e768 f768 q768 => ?_) (fun x768 y768 e768 f768 q768 => ?_)
            · cases e768
              cases f768
              have c768 := of_decide_eq_true q768
              refine zSaload (m := 2) (k := 7) vr_19_76 rfl rfl rfl ?_
              refine zLget vr_19_78 rfl (fun p770 w770 e770 t770 g770 => ?_)
              cases e770
              first | (rw [hc] at g770; cases g770) | (rw [(st_28_0 hS)] at g770; cases g770) | (rw [hr] at g770; cases g770) | skip
              refine zSiload (m := 2) (k := 5) vr_19_81 rfl rfl rfl (fun x771 e771 => ?_)
              cases e771
              refine zSb2 (f := fun x y => decide (¬ x = y)) (off := 17) (t := 100) vr_19_83 rfl rfl rfl (fun x772 y772 e772 f772 q772 => ?_) (fun x772 y772 e772 f772 q772 => ?_)
              · cases e772
                cases f772
                have c772 := of_decide_eq_true q772
                refine zSiinc vr_19_100 rfl rfl (fun x773 e773 => ?_)
                cases e773
                show zL zrx zi _ 19 103 [(6, _), (7, _), (5, _), (4, _), (0, _), (1, _), (2, _), (3, _)] [] _ _ _
                refine zSgo (t := 9) vr_19_103 rfl rfl ?_
                rw [ofNat_succ]
                refine zL_pm _ _ _ [(6, _), (5, _), (4, _), (0, _), (1, _), (2, _), (3, _), (7, _)] _ _ _ _ _ ⟨(List.forall_mem_cons.mpr ⟨List.mem_cons_self, (List.forall_mem_cons.mpr ⟨(List.mem_cons_of_mem _ (List.mem_cons_of_mem _ (List.mem_cons_of_mem _ (List.mem_cons_of_mem _ (List.mem_cons_of_mem _ (List.mem_cons_of_mem _ (List.mem_cons_of_mem _ List.mem_cons_self))))))), (List.forall_mem_cons.mpr ⟨(List.mem_cons_of_mem _ List.mem_cons_self), (List.forall_mem_cons.mpr ⟨(List.mem_cons_of_mem _ (List.mem_cons_of_mem _ List.mem_cons_self)), (List.forall_mem_cons.mpr ⟨(List.mem_cons_of_mem _ (List.mem_cons_of_mem _ (List.mem_cons_of_mem _ List.mem_cons_self))), (List.forall_mem_cons.mpr ⟨(List.mem_cons_of_mem _ (List.mem_cons_of_mem _ (List.mem_cons_of_mem _ (List.mem_cons_of_mem _ List.mem_cons_self)))), (List.forall_mem_cons.mpr ⟨(List.mem_cons_of_mem _ (List.mem_cons_of_mem _ (List.mem_cons_of_mem _ (List.mem_cons_of_mem _ (List.mem_cons_of_mem _ List.mem_cons_self))))), (List.forall_mem_cons.mpr ⟨(List.mem_cons_of_mem _ (List.mem_cons_of_mem _ (List.mem_cons_of_mem _ (List.mem_cons_of_mem _ (List.mem_cons_of_mem _ (List.mem_cons_of_mem _ List.mem_cons_self)))))), (fun _ h => absurd h List.not_mem_nil)⟩)⟩)⟩)⟩)⟩)⟩)⟩)⟩), show ([6, 5, 4, 0, 1, 2, 3, 7] : List Nat).Nodup by decide⟩ (C_ofP_loop hS hc h0 h40 n (k + 1) _ _ _ _ (by omega) ?_)
                first
                  | exact (dC_n (fun z => by have y := z.1; rw [iv_of g755] at y; exact c757 y) rfl).trans hD
                  | exact (dC_n (fun z => by have y := c764; rw [if_pos z.2] at y; exact absurd y (by decide)) rfl).trans hD
                  | (obtain rfl := (iv_of g766).symm.trans (iv_of g662); refine (dC_y ⟨by rw [iv_of g755]; exact Decidable.not_not.mp c757, by have y := c764; by_cases z : okP (iv h (31 + k)) (iv h q 3) (iv h q 2) (iv h q 4) (iv h q 5) d; exact z; rw [if_neg z] at y; exact absurd rfl y⟩).trans ?_; rw [hD, iv_of g766, iv_of g665]; unfold stC; dsimp only; rw [if_pos (Int32.not_le.mp c768)])
                  | (have gd : ¬ (_ = s) := c772; obtain rfl := (iv_of g766).symm.trans (iv_of g770); refine (dC_y ⟨by rw [iv_of g755]; exact Decidable.not_not.mp c757, by have y := c764; by_cases z : okP (iv h (31 + k)) (iv h q 3) (iv h q 2) (iv h q 4) (iv h q 5) d; exact z; rw [if_neg z] at y; exact absurd rfl y⟩).trans ?_; rw [hD, iv_of g766]; unfold stC; dsimp only; rw [if_neg (Int32.not_lt.mpr c768), if_neg (fun z => gd z.1)])
                  | (have gd : t = _ := c340; obtain rfl := (iv_of g766).symm.trans (iv_of g770); refine (dC_y ⟨by rw [iv_of g755]; exact Decidable.not_not.mp c757, by have y := c764; by_cases z : okP (iv h (31 + k)) (iv h q 3) (iv h q 2) (iv h q 4) (iv h q 5) d; exact z; rw [if_neg z] at y; exact absurd rfl y⟩).trans ?_; rw [hD, iv_of g766, iv_of g538]; unfold stC; dsimp only; rw [if_neg (Int32.not_lt.mpr c768), if_neg (fun z => z.2 gd)])
                  | (obtain rfl := (iv_of g766).symm.trans (iv_of g770); refine (dC_y ⟨by rw [iv_of g755]; exact Decidable.not_not.mp c757, by have y := c764; by_cases z : okP (iv h (31 + k)) (iv h q 3) (iv h q 2) (iv h q 4) (iv h q 5) d; exact z; rw [if_neg z] at y; exact absurd rfl y⟩).trans ?_; rw [hD, iv_of g766, iv_of g538]; unfold stC; dsimp only; rw [if_neg (Int32.not_lt.mpr c768), if_pos ⟨Decidable.not_not.mp c772, c340⟩])
              · cases e772
                cases f772
                have c772 := ndc q772
                refine zSiload (m := 2) (k := 4) vr_19_86 rfl rfl rfl (fun x775 e775 => ?_)
                cases e775
                refine zSaload (m := 2) (k := 7) vr_19_88 rfl rfl rfl ?_
                refine zLget vr_19_90 rfl (fun p777 w777 e777 t777 g777 => ?_)
                cases e777
                first | (rw [hc] at g777; cases g777) | (rw [(st_28_0 hS)] at g777; cases g777) | (rw [hr] at g777; cases g777) | skip
                refine zSb2 (f := fun x y => decide (x = y)) (off := 7) (t := 100) vr_19_93 rfl rfl rfl (fun x778 y778 e778 f778 q778 => ?_) (fun x778 y778 e778 f778 q778 => ?_)
                · cases e778
                  cases f778
                  have c778 := of_decide_eq_true q778
                  refine zSiinc vr_19_100 rfl rfl (fun x779 e779 => ?_)
                  cases e779
                  show zL zrx zi _ 19 103 [(6, _), (7, _), (5, _), (4, _), (0, _), (1, _), (2, _), (3, _)] [] _ _ _
                  refine zSgo (t := 9) vr_19_103 rfl rfl ?_
                  rw [ofNat_succ]
                  refine zL_pm _ _ _ [(6, _), (5, _), (4, _), (0, _), (1, _), (2, _), (3, _), (7, _)] _ _ _ _ _ ⟨(List.forall_mem_cons.mpr ⟨List.mem_cons_self, (List.forall_mem_cons.mpr ⟨(List.mem_cons_of_mem _ (List.mem_cons_of_mem _ (List.mem_cons_of_mem _ (List.mem_cons_of_mem _ (List.mem_cons_of_mem _ (List.mem_cons_of_mem _ (List.mem_cons_of_mem _ List.mem_cons_self))))))), (List.forall_mem_cons.mpr ⟨(List.mem_cons_of_mem _ List.mem_cons_self), (List.forall_mem_cons.mpr ⟨(List.mem_cons_of_mem _ (List.mem_cons_of_mem _ List.mem_cons_self)), (List.forall_mem_cons.mpr ⟨(List.mem_cons_of_mem _ (List.mem_cons_of_mem _ (List.mem_cons_of_mem _ List.mem_cons_self))), (List.forall_mem_cons.mpr ⟨(List.mem_cons_of_mem _ (List.mem_cons_of_mem _ (List.mem_cons_of_mem _ (List.mem_cons_of_mem _ List.mem_cons_self)))), (List.forall_mem_cons.mpr ⟨(List.mem_cons_of_mem _ (List.mem_cons_of_mem _ (List.mem_cons_of_mem _ (List.mem_cons_of_mem _ (List.mem_cons_of_mem _ List.mem_cons_self))))), (List.forall_mem_cons.mpr ⟨(List.mem_cons_of_mem _ (List.mem_cons_of_mem _ (List.mem_cons_of_mem _ (List.mem_cons_of_mem _ (List.mem_cons_of_mem _ (List.mem_cons_of_mem _ List.mem_cons_self)))))), (fun _ h => absurd h List.not_mem_nil)⟩)⟩)⟩)⟩)⟩)⟩)⟩)⟩), show ([6, 5, 4, 0, 1, 2, 3, 7] : List Nat).Nodup by decide⟩ (C_ofP_loop hS hc h0 h40 n (k + 1) _ _ _ _ (by omega) ?_)
                  first
                    | exact (dC_n (fun z => by have y := z.1; rw [iv_of g755] at y; exact c757 y) rfl).trans hD
                    | exact (dC_n (fun z => by have y := c764; rw [if_pos z.2] at y; exact absurd y (by decide)) rfl).trans hD
                    | (obtain rfl := (iv_of g766).symm.trans (iv_of g662); refine (dC_y ⟨by rw [iv_of g755]; exact Decidable.not_not.mp c757, by have y := c764; by_cases z : okP (iv h (31 + k)) (iv h q 3) (iv h q 2) (iv h q 4) (iv h q 5) d; exact z; rw [if_neg z] at y; exact absurd rfl y⟩).trans ?_; rw [hD, iv_of g766, iv_of g665]; unfold stC; dsimp only; rw [if_pos (Int32.not_le.mp c768)])
                    | (have gd : ¬ (_ = s) := c772; obtain rfl := (iv_of g766).symm.trans (iv_of g770); refine (dC_y ⟨by rw [iv_of g755]; exact Decidable.not_not.mp c757, by have y := c764; by_cases z : okP (iv h (31 + k)) (iv h q 3) (iv h q 2) (iv h q 4) (iv h q 5) d; exact z; rw [if_neg z] at y; exact absurd rfl y⟩).trans ?_; rw [hD, iv_of g766]; unfold stC; dsimp only; rw [if_neg (Int32.not_lt.mpr c768), if_neg (fun z => gd z.1)])
                    | (have gd : t = _ := c778; obtain rfl := (iv_of g766).symm.trans (iv_of g770); refine (dC_y ⟨by rw [iv_of g755]; exact Decidable.not_not.mp c757, by have y := c764; by_cases z : okP (iv h (31 + k)) (iv h q 3) (iv h q 2) (iv h q 4) (iv h q 5) d; exact z; rw [if_neg z] at y; exact absurd rfl y⟩).trans ?_; rw [hD, iv_of g766, iv_of g777]; unfold stC; dsimp only; rw [if_neg (Int32.not_lt.mpr c768), if_neg (fun z => z.2 gd)])
                    | (obtain rfl := (iv_of g766).symm.trans (iv_of g770); refine (dC_y ⟨by rw [iv_of g755]; exact Decidable.not_not.mp c757, by have y := c764; by_cases z : okP (iv h (31 + k)) (iv h q 3) (iv h q 2) (iv h q 4) (iv h q 5) d; exact z; rw [if_neg z] at y; exact absurd rfl y⟩).trans ?_; rw [hD, iv_of g766, iv_of g777]; unfold stC; dsimp only; rw [if_neg (Int32.not_lt.mpr c768), if_pos ⟨Decidable.not_not.mp c772, c778⟩])
                · cases e778
                  cases f778
                  have c778 := ndc q778
                  refine zSp0 (pc' := 98) (st' := .int (-2) :: _) vr_19_96 rfl rfl ?_
                  refine zSistore (m := 2) (k := 4) vr_19_98 rfl rfl (fun x782 e782 => ?_)
                  cases e782
                  show zL zrx zi _ 19 100 [(4, _), (7, _), (6, _), (5, _), (0, _), (1, _), (2, _), (3, _)] [] _ _ _
                  refine zSiinc vr_19_100 rfl rfl (fun x783 e783 => ?_)
                  cases e783
                  show zL zrx zi _ 19 103 [(6, _), (4, _), (7, _), (5, _), (0, _), (1, _), (2, _), (3, _)] [] _ _ _
                  refine zSgo (t := 9) vr_19_103 rfl rfl ?_
                  rw [ofNat_succ]
                  refine zL_pm _ _ _ [(6, _), (5, _), (4, _), (0, _), (1, _), (2, _), (3, _), (7, _)] _ _ _ _ _ ⟨(List.forall_mem_cons.mpr ⟨List.mem_cons_self, (List.forall_mem_cons.mpr ⟨(List.mem_cons_of_mem _ (List.mem_cons_of_mem _ List.mem_cons_self)), (List.forall_mem_cons.mpr ⟨(List.mem_cons_of_mem _ (List.mem_cons_of_mem _ (List.mem_cons_of_mem _ (List.mem_cons_of_mem _ (List.mem_cons_of_mem _ (List.mem_cons_of_mem _ (List.mem_cons_of_mem _ List.mem_cons_self))))))), (List.forall_mem_cons.mpr ⟨(List.mem_cons_of_mem _ List.mem_cons_self), (List.forall_mem_cons.mpr ⟨(List.mem_cons_of_mem _ (List.mem_cons_of_mem _ (List.mem_cons_of_mem _ List.mem_cons_self))), (List.forall_mem_cons.mpr ⟨(List.mem_cons_of_mem _ (List.mem_cons_of_mem _ (List.mem_cons_of_mem _ (List.mem_cons_of_mem _ List.mem_cons_self)))), (List.forall_mem_cons.mpr ⟨(List.mem_cons_of_mem _ (List.mem_cons_of_mem _ (List.mem_cons_of_mem _ (List.mem_cons_of_mem _ (List.mem_cons_of_mem _ List.mem_cons_self))))), (List.forall_mem_cons.mpr ⟨(List.mem_cons_of_mem _ (List.mem_cons_of_mem _ (List.mem_cons_of_mem _ (List.mem_cons_of_mem _ (List.mem_cons_of_mem _ (List.mem_cons_of_mem _ List.mem_cons_self)))))), (fun _ h => absurd h List.not_mem_nil)⟩)⟩)⟩)⟩)⟩)⟩)⟩)⟩), show ([6, 5, 4, 0, 1, 2, 3, 7] : List Nat).Nodup by decide⟩ (C_ofP_loop hS hc h0 h40 n (k + 1) _ _ _ _ (by omega) ?_)
                  first
                    | exact (dC_n (fun z => by have y := z.1; rw [iv_of g755] at y; exact c757 y) rfl).trans hD
                    | exact (dC_n (fun z => by have y := c764; rw [if_pos z.2] at y; exact absurd y (by decide)) rfl).trans hD
                    | (obtain rfl := (iv_of g766).symm.trans (iv_of g662); refine (dC_y ⟨by rw [iv_of g755]; exact Decidable.not_not.mp c757, by have y := c764; by_cases z : okP (iv h (31 + k)) (iv h q 3) (iv h q 2) (iv h q 4) (iv h q 5) d; exact z; rw [if_neg z] at y; exact absurd rfl y⟩).trans ?_; rw [hD, iv_of g766, iv_of g665]; unfold stC; dsimp only; rw [if_pos (Int32.not_le.mp c768)])
                    | (have gd : ¬ (_ = s) := c772; obtain rfl := (iv_of g766).symm.trans (iv_of g770); refine (dC_y ⟨by rw [iv_of g755]; exact Decidable.not_not.mp c757, by have y := c764; by_cases z : okP (iv h (31 + k)) (iv h q 3) (iv h q 2) (iv h q 4) (iv h q 5) d; exact z; rw [if_neg z] at y; exact absurd rfl y⟩).trans ?_; rw [hD, iv_of g766]; unfold stC; dsimp only; rw [if_neg (Int32.not_lt.mpr c768), if_neg (fun z => gd z.1)])
                    | (have gd : t = _ := c778; obtain rfl := (iv_of g766).symm.trans (iv_of g770); refine (dC_y ⟨by rw [iv_of g755]; exact Decidable.not_not.mp c757, by have y := c764; by_cases z : okP (iv h (31 + k)) (iv h q 3) (iv h q 2) (iv h q 4) (iv h q 5) d; exact z; rw [if_neg z] at y; exact absurd rfl y⟩).trans ?_; rw [hD, iv_of g766, iv_of g777]; unfold stC; dsimp only; rw [if_neg (Int32.not_lt.mpr c768), if_neg (fun z => z.2 gd)])
                    | (obtain rfl := (iv_of g766).symm.trans (iv_of g770); refine (dC_y ⟨by rw [iv_of g755]; exact Decidable.not_not.mp c757, by have y := c764; by_cases z : okP (iv h (31 + k)) (iv h q 3) (iv h q 2) (iv h q 4) (iv h q 5) d; exact z; rw [if_neg z] at y; exact absurd rfl y⟩).trans ?_; rw [hD, iv_of g766, iv_of g777]; unfold stC; dsimp only; rw [if_neg (Int32.not_lt.mpr c768), if_pos ⟨Decidable.not_not.mp c772, c778⟩])
            · cases e768
              cases f768
              have c768 := ndc q768
              refine zSaload (m := 2) (k := 7) vr_19_59 rfl rfl rfl ?_
              refine zLget vr_19_61 rfl (fun p786 w786 e786 t786 g786 => ?_)
              cases e786
              first | (rw [hc] at g786; cases g786) | (rw [(st_28_0 hS)] at g786; cases g786) | (rw [hr] at g786; cases g786) | skip
              refine zSistore (m := 2) (k := 5) vr_19_64 rfl rfl (fun x787 e787 => ?_)
              cases e787
              show zL zrx zi _ 19 66 [(5, _), (7, _), (6, _), (4, _), (0, _), (1, _), (2, _), (3, _)] [] _ _ _
              refine zSaload (m := 2) (k := 7) vr_19_66 rfl rfl rfl ?_
              refine zLget vr_19_68 rfl (fun p789 w789 e789 t789 g789 => ?_)
              cases e789
              first | (rw [hc] at g789; cases g789) | (rw [(st_28_0 hS)] at g789; cases g789) | (rw [hr] at g789; cases g789) | skip
              refine zSistore (m := 2) (k := 4) vr_19_71 rfl rfl (fun x790 e790 => ?_)
              cases e790
              show zL zrx zi _ 19 73 [(4, _), (5, _), (7, _), (6, _), (0, _), (1, _), (2, _), (3, _)] [] _ _ _
              refine zSgo (t := 100) vr_19_73 rfl rfl ?_
              refine zSiinc vr_19_100 rfl rfl (fun x792 e792 => ?_)
              cases e792
              show zL zrx zi _ 19 103 [(6, _), (4, _), (5, _), (7, _), (0, _), (1, _), (2, _), (3, _)] [] _ _ _
              refine zSgo (t := 9) vr_19_103 rfl rfl ?_
              rw [ofNat_succ]
              refine zL_pm _ _ _ [(6, _), (5, _), (4, _), (0, _), (1, _), (2, _), (3, _), (7, _)] _ _ _ _ _ ⟨(List.forall_mem_cons.mpr ⟨List.mem_cons_self, (List.forall_mem_cons.mpr ⟨(List.mem_cons_of_mem _ (List.mem_cons_of_mem _ List.mem_cons_self)), (List.forall_mem_cons.mpr ⟨(List.mem_cons_of_mem _ List.mem_cons_self), (List.forall_mem_cons.mpr ⟨(List.mem_cons_of_mem _ (List.mem_cons_of_mem _ (List.mem_cons_of_mem _ (List.mem_cons_of_mem _ (List.mem_cons_of_mem _ (List.mem_cons_of_mem _ (List.mem_cons_of_mem _ List.mem_cons_self))))))), (List.forall_mem_cons.mpr ⟨(List.mem_cons_of_mem _ (List.mem_cons_of_mem _ (List.mem_cons_of_mem _ List.mem_cons_self))), (List.forall_mem_cons.mpr ⟨(List.mem_cons_of_mem _ (List.mem_cons_of_mem _ (List.mem_cons_of_mem _ (List.mem_cons_of_mem _ List.mem_cons_self)))), (List.forall_mem_cons.mpr ⟨(List.mem_cons_of_mem _ (List.mem_cons_of_mem _ (List.mem_cons_of_mem _ (List.mem_cons_of_mem _ (List.mem_cons_of_mem _ List.mem_cons_self))))), (List.forall_mem_cons.mpr ⟨(List.mem_cons_of_mem _ (List.mem_cons_of_mem _ (List.mem_cons_of_mem _ (List.mem_cons_of_mem _ (List.mem_cons_of_mem _ (List.mem_cons_of_mem _ List.mem_cons_self)))))), (fun _ h => absurd h List.not_mem_nil)⟩)⟩)⟩)⟩)⟩)⟩)⟩)⟩), show ([6, 5, 4, 0, 1, 2, 3, 7] : List Nat).Nodup by decide⟩ (C_ofP_loop hS hc h0 h40 n (k + 1) _ _ _ _ (by omega) ?_)
              first
                | exact (dC_n (fun z => by have y := z.1; rw [iv_of g755] at y; exact c757 y) rfl).trans hD
                | exact (dC_n (fun z => by have y := c764; rw [if_pos z.2] at y; exact absurd y (by decide)) rfl).trans hD
                | (obtain rfl := (iv_of g766).symm.trans (iv_of g786); refine (dC_y ⟨by rw [iv_of g755]; exact Decidable.not_not.mp c757, by have y := c764; by_cases z : okP (iv h (31 + k)) (iv h q 3) (iv h q 2) (iv h q 4) (iv h q 5) d; exact z; rw [if_neg z] at y; exact absurd rfl y⟩).trans ?_; rw [hD, iv_of g766, iv_of g789]; unfold stC; dsimp only; rw [if_pos (Int32.not_le.mp c768)])
                | (have gd : ¬ (_ = s) := c772; obtain rfl := (iv_of g766).symm.trans (iv_of g770); refine (dC_y ⟨by rw [iv_of g755]; exact Decidable.not_not.mp c757, by have y := c764; by_cases z : okP (iv h (31 + k)) (iv h q 3) (iv h q 2) (iv h q 4) (iv h q 5) d; exact z; rw [if_neg z] at y; exact absurd rfl y⟩).trans ?_; rw [hD, iv_of g766]; unfold stC; dsimp only; rw [if_neg (Int32.not_lt.mpr c768), if_neg (fun z => gd z.1)])
                | (have gd : t = _ := c778; obtain rfl := (iv_of g766).symm.trans (iv_of g770); refine (dC_y ⟨by rw [iv_of g755]; exact Decidable.not_not.mp c757, by have y := c764; by_cases z : okP (iv h (31 + k)) (iv h q 3) (iv h q 2) (iv h q 4) (iv h q 5) d; exact z; rw [if_neg z] at y; exact absurd rfl y⟩).trans ?_; rw [hD, iv_of g766, iv_of g777]; unfold stC; dsimp only; rw [if_neg (Int32.not_lt.mpr c768), if_neg (fun z => z.2 gd)])
                | (obtain rfl := (iv_of g766).symm.trans (iv_of g770); refine (dC_y ⟨by rw [iv_of g755]; exact Decidable.not_not.mp c757, by have y := c764; by_cases z : okP (iv h (31 + k)) (iv h q 3) (iv h q 2) (iv h q 4) (iv h q 5) d; exact z; rw [if_neg z] at y; exact absurd rfl y⟩).trans ?_; rw [hD, iv_of g766, iv_of g777]; unfold stC; dsimp only; rw [if_neg (Int32.not_lt.mpr c768), if_pos ⟨Decidable.not_not.mp c772, c778⟩])
          · cases e764
            have c764 := ndc q764
            refine zSgo (t := 100) vr_19_46 rfl rfl ?_
            refine zSiinc vr_19_100 rfl rfl (fun x795 e795 => ?_)
            cases e795
            show zL zrx zi _ 19 103 [(6, _), (7, _), (5, _), (4, _), (0, _), (1, _), (2, _), (3, _)] [] _ _ _
            refine zSgo (t := 9) vr_19_103 rfl rfl ?_
            rw [ofNat_succ]
            refine zL_pm _ _ _ [(6, _), (5, _), (4, _), (0, _), (1, _), (2, _), (3, _), (7, _)] _ _ _ _ _ ⟨(List.forall_mem_cons.mpr ⟨List.mem_cons_self, (List.forall_mem_cons.mpr ⟨(List.mem_cons_of_mem _ (List.mem_cons_of_mem _ (List.mem_cons_of_mem _ (List.mem_cons_of_mem _ (List.mem_cons_of_mem _ (List.mem_cons_of_mem _ (List.mem_cons_of_mem _ List.mem_cons_self))))))), (List.forall_mem_cons.mpr ⟨(List.mem_cons_of_mem _ List.mem_cons_self), (List.forall_mem_cons.mpr ⟨(List.mem_cons_of_mem _ (List.mem_cons_of_mem _ List.mem_cons_self)), (List.forall_mem_cons.mpr ⟨(List.mem_cons_of_mem _ (List.mem_cons_of_mem _ (List.mem_cons_of_mem _ List.mem_cons_self))), (List.forall_mem_cons.mpr ⟨(List.mem_cons_of_mem _ (List.mem_cons_of_mem _ (List.mem_cons_of_mem _ (List.mem_cons_of_mem _ List.mem_cons_self)))), (List.forall_mem_cons.mpr ⟨(List.mem_cons_of_mem _ (List.mem_cons_of_mem _ (List.mem_cons_of_mem _ (List.mem_cons_of_mem _ (List.mem_cons_of_mem _ List.mem_cons_self))))), (List.forall_mem_cons.mpr ⟨(List.mem_cons_of_mem _ (List.mem_cons_of_mem _ (List.mem_cons_of_mem _ (List.mem_cons_of_mem _ (List.mem_cons_of_mem _ (List.mem_cons_of_mem _ List.mem_cons_self)))))), (fun _ h => absurd h List.not_mem_nil)⟩)⟩)⟩)⟩)⟩)⟩)⟩)⟩), show ([6, 5, 4, 0, 1, 2, 3, 7] : List Nat).Nodup by decide⟩ (C_ofP_loop hS hc h0 h40 n (k + 1) _ _ _ _ (by omega) ?_)
            first
              | exact (dC_n (fun z => by have y := z.1; rw [iv_of g755] at y; exact c757 y) rfl).trans hD
              | exact (dC_n (fun z => by have y := c764; rw [if_pos z.2] at y; exact absurd y (by decide)) rfl).trans hD
              | (obtain rfl := (iv_of g766).symm.trans (iv_of g786); refine (dC_y ⟨by rw [iv_of g755]; exact Decidable.not_not.mp c757, by have y := c764; by_cases z : okP (iv h (31 + k)) (iv h q 3) (iv h q 2) (iv h q 4) (iv h q 5) d; exact z; rw [if_neg z] at y; exact absurd rfl y⟩).trans ?_; rw [hD, iv_of g766, iv_of g789]; unfold stC; dsimp only; rw [if_pos (Int32.not_le.mp c768)])
              | (have gd : ¬ (_ = s) := c772; obtain rfl := (iv_of g766).symm.trans (iv_of g770); refine (dC_y ⟨by rw [iv_of g755]; exact Decidable.not_not.mp c757, by have y := c764; by_cases z : okP (iv h (31 + k)) (iv h q 3) (iv h q 2) (iv h q 4) (iv h q 5) d; exact z; rw [if_neg z] at y; exact absurd rfl y⟩).trans ?_; rw [hD, iv_of g766]; unfold stC; dsimp only; rw [if_neg (Int32.not_lt.mpr c768), if_neg (fun z => gd z.1)])
              | (have gd : t = _ := c778; obtain rfl := (iv_of g766).symm.trans (iv_of g770); refine (dC_y ⟨by rw [iv_of g755]; exact Decidable.not_not.mp c757, by have y := c764; by_cases z : okP (iv h (31 + k)) (iv h q 3) (iv h q 2) (iv h q 4) (iv h q 5) d; exact z; rw [if_neg z] at y; exact absurd rfl y⟩).trans ?_; rw [hD, iv_of g766, iv_of g777]; unfold stC; dsimp only; rw [if_neg (Int32.not_lt.mpr c768), if_neg (fun z => z.2 gd)])
              | (obtain rfl := (iv_of g766).symm.trans (iv_of g770); refine (dC_y ⟨by rw [iv_of g755]; exact Decidable.not_not.mp c757, by have y := c764; by_cases z : okP (iv h (31 + k)) (iv h q 3) (iv h q 2) (iv h q 4) (iv h q 5) d; exact z; rw [if_neg z] at y; exact absurd rfl y⟩).trans ?_; rw [hD, iv_of g766, iv_of g777]; unfold stC; dsimp only; rw [if_neg (Int32.not_lt.mpr c768), if_pos ⟨Decidable.not_not.mp c772, c778⟩])
        · obtain ⟨-, z⟩ := q763
          cases z
theorem C_ofParish (n : Nat) (par d : Int32) (q : Nat) (h : List zC) (u : Nat) {cnt : Int32} (hS : Stc h) (hc : gF h 28 2 = some (.int cnt)) (h0 : 0 ≤ cnt.toInt) (h40 : cnt.toInt ≤ 40) : zL zrx zi n 19 0 [(0, .ref 28), (1, .int par), (2, .ref q), (3, .int d)] [] h u (fun o h2 _ => h2 = h ∧ o = .inl (some (.int (cuC (dC h par (iv h q 3) (iv h q 2) (iv h q 4) (iv h q 5) d) cnt.toNatClampNeg).1))) := by
  refine zSp0 (pc' := 1) (st' := .int (-1) :: _) vr_19_0 rfl rfl ?_
  refine zSistore (m := 2) (k := 4) vr_19_1 rfl rfl (fun x798 e798 => ?_)
  cases e798
  show zL zrx zi _ 19 3 [(4, _), (0, _), (1, _), (2, _), (3, _)] [] _ _ _
  refine zSp0 (pc' := 4) (st' := .int (0) :: _) vr_19_3 rfl rfl ?_
  refine zSistore (m := 2) (k := 5) vr_19_4 rfl rfl (fun x800 e800 => ?_)
  cases e800
  show zL zrx zi _ 19 6 [(5, _), (4, _), (0, _), (1, _), (2, _), (3, _)] [] _ _ _
  refine zSp0 (pc' := 7) (st' := .int (0) :: _) vr_19_6 rfl rfl ?_
  refine zSistore (m := 2) (k := 6) vr_19_7 rfl rfl (fun x802 e802 => ?_)
  cases e802
  show zL zrx zi _ 19 9 [(6, _), (5, _), (4, _), (0, _), (1, _), (2, _), (3, _)] [] _ _ _
  refine zL_pm _ _ _ [(6, _), (5, _), (4, _), (0, _), (1, _), (2, _), (3, _), (7, _)] _ _ _ _ _ ⟨(List.forall_mem_cons.mpr ⟨List.mem_cons_self, (List.forall_mem_cons.mpr ⟨(List.mem_cons_of_mem _ List.mem_cons_self), (List.forall_mem_cons.mpr ⟨(List.mem_cons_of_mem _ (List.mem_cons_of_mem _ List.mem_cons_self)), (List.forall_mem_cons.mpr ⟨(List.mem_cons_of_mem _ (List.mem_cons_of_mem _ (List.mem_cons_of_mem _ List.mem_cons_self))), (List.forall_mem_cons.mpr ⟨(List.mem_cons_of_mem _ (List.mem_cons_of_mem _ (List.mem_cons_of_mem _ (List.mem_cons_of_mem _ List.mem_cons_self)))), (List.forall_mem_cons.mpr ⟨(List.mem_cons_of_mem _ (List.mem_cons_of_mem _ (List.mem_cons_of_mem _ (List.mem_cons_of_mem _ (List.mem_cons_of_mem _ List.mem_cons_self))))), (List.forall_mem_cons.mpr ⟨(List.mem_cons_of_mem _ (List.mem_cons_of_mem _ (List.mem_cons_of_mem _ (List.mem_cons_of_mem _ (List.mem_cons_of_mem _ (List.mem_cons_of_mem _ List.mem_cons_self)))))), (fun _ h => absurd h List.not_mem_nil)⟩)⟩)⟩)⟩)⟩)⟩)⟩), show ([6, 5, 4, 0, 1, 2, 3, 7] : List Nat).Nodup by decide⟩ (C_ofP_loop hS hc h0 h40 _ 0 0 (-1) .null _ (Nat.zero_le _) rfl)
theorem C_has (n : Nat) (x y : Int32) (h : List zC) (u : Nat) : zL zrx zi n 133 0 [(0, .int x), (1, .int y)] [] h u (fun o h2 _ => h2 = h ∧ o = .inl (some (.int (if x >>> (y &&& 31) &&& 1 = 1 then 1 else 0)))) := by
  refine zSiload (m := 1) (k := 0) vr_133_0 rfl rfl rfl (fun x803 e803 => ?_)
  cases e803
  refine zSiload (m := 1) (k := 1) vr_133_1 rfl rfl rfl (fun x804 e804 => ?_)
  cases e804
  refine zS2 (f := fun x y => .int (x >>> (y &&& 31))) vr_133_2 rfl rfl (fun x805 y805 e805 f805 => ?_)
  cases e805
  cases f805
  refine zSp0 (pc' := 4) (st' := .int (1) :: _) vr_133_3 rfl rfl ?_
  refine zS2 (f := fun x y => .int (x &&& y)) vr_133_4 rfl rfl (fun x807 y807 e807 f807 => ?_)
  cases e807
  cases f807
  refine zSp0 (pc' := 6) (st' := .int (1) :: _) vr_133_5 rfl rfl ?_
  refine zSb2 (f := fun x y => decide (¬ x = y)) (off := 7) (t := 13) vr_133_6 rfl rfl rfl (fun x809 y809 e809 f809 q809 => ?_) (fun x809 y809 e809 f809 q809 => ?_)
  · cases e809
    cases f809
    have c809 := of_decide_eq_true q809
    refine zSp0 (pc' := 14) (st' := .int (0) :: _) vr_133_13 rfl rfl ?_
    refine zLiret vr_133_14 rfl (fun x811 e811 => ?_)
    cases e811
    first
      | exact ⟨rfl, congrArg (fun z : Int32 => Sum.inl (some (Value.int z))) (if_pos (Decidable.not_not.mp c809)).symm⟩
      | exact ⟨rfl, congrArg (fun z : Int32 => Sum.inl (some (Value.int z))) (if_neg c809).symm⟩
  · cases e809
    cases f809
    have c809 := ndc q809
    refine zSp0 (pc' := 10) (st' := .int (1) :: _) vr_133_9 rfl rfl ?_
    refine zSgo (t := 14) vr_133_10 rfl rfl ?_
    refine zLiret vr_133_14 rfl (fun x814 e814 => ?_)
    cases e814
    first
      | exact ⟨rfl, congrArg (fun z : Int32 => Sum.inl (some (Value.int z))) (if_pos (Decidable.not_not.mp c809)).symm⟩
      | exact ⟨rfl, congrArg (fun z : Int32 => Sum.inl (some (Value.int z))) (if_neg c809).symm⟩
theorem C_holds (n : Nat) (p q : Nat) (h : List zC) (u : Nat) (hp : RI h p) (hc : CI h q) : zL zrx zi n 128 0 [(0, .ref p), (1, .ref q)] [] h u (fun o h2 _ => h2 = h ∧ o = .inl (some (.int (if (okP (mR h p) (iv h q 3) (iv h q 2) (iv h q 4) (iv h q 5) (iv h q 6)) then 1 else 0)))) := by
  have p1 := hp.at (j := 1) (by omega)
  have p2 := hp.at (j := 2) (by omega)
  have p3 := hp.at (j := 3) (by omega)
  have p4 := hp.at (j := 4) (by omega)
  have p7 := hp.at (j := 7) (by omega)
  have p8 := hp.at (j := 8) (by omega)
  have p9 := hp.at (j := 9) (by omega)
  have s2 := hc.at (j := 2) (by omega)
  have s3 := hc.at (j := 3) (by omega)
  have s4 := hc.at (j := 4) (by omega)
  have s5 := hc.at (j := 5) (by omega)
  have s6 := hc.at (j := 6) (by omega)
  refine zSaload (m := 1) (k := 1) vr_128_0 rfl rfl rfl ?_
  refine zLget vr_128_1 rfl (fun p816 w816 e816 t816 g816 => ?_)
  cases e816
  first | (rw [p1] at g816; cases g816) | (rw [p2] at g816; cases g816) | (rw [p3] at g816; cases g816) | (rw [p4] at g816; cases g816) | (rw [p7] at g816; cases g816) | (rw [p8] at g816; cases g816) | (rw [p9] at g816; cases g816) | (rw [s2] at g816; cases g816) | (rw [s3] at g816; cases g816) | (rw [s4] at g816; cases g816) | (rw [s5] at g816; cases g816) | (rw [s6] at g816; cases g816) | skip
  refine zSaload (m := 1) (k := 0) vr_128_4 rfl rfl rfl ?_
  refine zLget vr_128_5 rfl (fun p818 w818 e818 t818 g818 => ?_)
  cases e818
  first | (rw [p1] at g818; cases g818) | (rw [p2] at g818; cases g818) | (rw [p3] at g818; cases g818) | (rw [p4] at g818; cases g818) | (rw [p7] at g818; cases g818) | (rw [p8] at g818; cases g818) | (rw [p9] at g818; cases g818) | (rw [s2] at g818; cases g818) | (rw [s3] at g818; cases g818) | (rw [s4] at g818; cases g818) | (rw [s5] at g818; cases g818) | (rw [s6] at g818; cases g818) | skip
  refine zSb2 (f := fun x y => decide (¬ x = y)) (off := 78) (t := 86) vr_128_8 rfl rfl rfl (fun x819 y819 e819 f819 q819 => ?_) (fun x819 y819 e819 f819 q819 => ?_)
  · cases e819
    cases f819
    have c819 := of_decide_eq_true q819
    refine zSp0 (pc' := 87) (st' := .int (0) :: _) vr_128_86 rfl rfl ?_
    refine zLiret vr_128_87 rfl (fun x821 e821 => ?_)
    cases e821
    first
      | exact ⟨rfl, congrArg (fun z : Int32 => Sum.inl (some (Value.int z))) (if_pos (show (okP (mR h p) (iv h q 3) (iv h q 2) (iv h q 4) (iv h q 5) (iv h q 6)) from ⟨Decidable.not_not.mp c819, hs_y c751, Decidable.not_not.mp c761, Decidable.not_not.mp c717, (inB_b c789).1, (inB_b c789).2, Int32.not_lt.mp c334⟩)).symm⟩
      | exact ⟨rfl, congrArg (fun z : Int32 => Sum.inl (some (Value.int z))) (if_neg (fun z : (okP (mR h p) (iv h q 3) (iv h q 2) (iv h q 4) (iv h q 5) (iv h q 6)) => c819 z.1)).symm⟩
      | exact ⟨rfl, congrArg (fun z : Int32 => Sum.inl (some (Value.int z))) (if_neg (fun z : (okP (mR h p) (iv h q 3) (iv h q 2) (iv h q 4) (iv h q 5) (iv h q 6)) => hs_n c751 z.2.1)).symm⟩
      | exact ⟨rfl, congrArg (fun z : Int32 => Sum.inl (some (Value.int z))) (if_neg (fun z : (okP (mR h p) (iv h q 3) (iv h q 2) (iv h q 4) (iv h q 5) (iv h q 6)) => c761 z.2.2.1)).symm⟩
      | exact ⟨rfl, congrArg (fun z : Int32 => Sum.inl (some (Value.int z))) (if_neg (fun z : (okP (mR h p) (iv h q 3) (iv h q 2) (iv h q 4) (iv h q 5) (iv h q 6)) => c717 z.2.2.2.1)).symm⟩
      | exact ⟨rfl, congrArg (fun z : Int32 => Sum.inl (some (Value.int z))) (if_neg (fun z : (okP (mR h p) (iv h q 3) (iv h q 2) (iv h q 4) (iv h q 5) (iv h q 6)) => inB_c c789 ⟨z.2.2.2.2.1, z.2.2.2.2.2.1⟩)).symm⟩
      | exact ⟨rfl, congrArg (fun z : Int32 => Sum.inl (some (Value.int z))) (if_neg (fun z : (okP (mR h p) (iv h q 3) (iv h q 2) (iv h q 4) (iv h q 5) (iv h q 6)) => absurd c334 (Int32.not_lt.mpr z.2.2.2.2.2.2))).symm⟩
  · cases e819
    cases f819
    have c819 := ndc q819
    refine zSaload (m := 1) (k := 0) vr_128_11 rfl rfl rfl ?_
    refine zLget vr_128_12 rfl (fun p823 w823 e823 t823 g823 => ?_)
    cases e823
    first | (rw [p1] at g823; cases g823) | (rw [p2] at g823; cases g823) | (rw [p3] at g823; cases g823) | (rw [p4] at g823; cases g823) | (rw [p7] at g823; cases g823) | (rw [p8] at g823; cases g823) | (rw [p9] at g823; cases g823) | (rw [s2] at g823; cases g823) | (rw [s3] at g823; cases g823) | (rw [s4] at g823; cases g823) | (rw [s5] at g823; cases g823) | (rw [s6] at g823; cases g823) | skip
    refine zSaload (m := 1) (k := 1) vr_128_15 rfl rfl rfl ?_
    refine zLget vr_128_16 rfl (fun p825 w825 e825 t825 g825 => ?_)
    cases e825
    first | (rw [p1] at g825; cases g825) | (rw [p2] at g825; cases g825) | (rw [p3] at g825; cases g825) | (rw [p4] at g825; cases g825) | (rw [p7] at g825; cases g825) | (rw [p8] at g825; cases g825) | (rw [p9] at g825; cases g825) | (rw [s2] at g825; cases g825) | (rw [s3] at g825; cases g825) | (rw [s4] at g825; cases g825) | (rw [s5] at g825; cases g825) | (rw [s6] at g825; cases g825) | skip
    refine zScall vr_128_19 rfl rfl rfl (fun m826 _ => C_has _ _ _ _ _) (fun v826 h826 u826 q826 => ?_) (fun E826 h826 u826 q826 => ?_)
    · obtain ⟨eh826, z826⟩ := q826
      replace eh826 := eh826.symm
      subst eh826
      cases z826
      show zL zrx zi _ 128 22 [(0, _), (1, _)] [_] _ _ _
      refine zSb1 (f := fun x => decide (x = 0)) (off := 64) (t := 86) vr_128_22 rfl rfl rfl (fun x827 e827 q827 => ?_) (fun x827 e827 q827 => ?_)
      · cases e827
        have c827 := of_decide_eq_true q827
        refine zSp0 (pc' := 87) (st' := .int (0) :: _) vr_128_86 rfl rfl ?_
        refine zLiret vr_128_87 rfl (fun x829 e829 => ?_)
        cases e829
        first
          | exact ⟨rfl, congrArg (fun z : Int32 => Sum.inl (some (Value.int z))) (if_pos (show (okP (mR h p) (iv h q 3) (iv h q 2) (iv h q 4) (iv h q 5) (iv h q 6)) from ⟨Decidable.not_not.mp c819, hs_y c827, Decidable.not_not.mp c761, Decidable.not_not.mp c717, (inB_b c789).1, (inB_b c789).2, Int32.not_lt.mp c334⟩)).symm⟩
          | exact ⟨rfl, congrArg (fun z : Int32 => Sum.inl (some (Value.int z))) (if_neg (fun z : (okP (mR h p) (iv h q 3) (iv h q 2) (iv h q 4) (iv h q 5) (iv h q 6)) => c819 z.1)).symm⟩
          | exact ⟨rfl, congrArg (fun z : Int32 => Sum.inl (some (Value.int z))) (if_neg (fun z : (okP (mR h p) (iv h q 3) (iv h q 2) (iv h q 4) (iv h q 5) (iv h q 6)) => hs_n c827 z.2.1)).symm⟩
          | exact ⟨rfl, congrArg (fun z : Int32 => Sum.inl (some (Value.int z))) (if_neg (fun z : (okP (mR h p) (iv h q 3) (iv h q 2) (iv h q 4) (iv h q 5) (iv h q 6)) => c761 z.2.2.1)).symm⟩
          | exact ⟨rfl, congrArg (fun z : Int32 => Sum.inl (some (Value.int z))) (if_neg (fun z : (okP (mR h p) (iv h q 3) (iv h q 2) (iv h q 4) (iv h q 5) (iv h q 6)) => c717 z.2.2.2.1)).symm⟩
          | exact ⟨rfl, congrArg (fun z : Int32 => Sum.inl (some (Value.int z))) (if_neg (fun z : (okP (mR h p) (iv h q 3) (iv h q 2) (iv h q 4) (iv h q 5) (iv h q 6)) => inB_c c789 ⟨z.2.2.2.2.1, z.2.2.2.2.2.1⟩)).symm⟩
          | exact ⟨rfl, congrArg (fun z : Int32 => Sum.inl (some (Value.int z))) (if_neg (fun z : (okP (mR h p) (iv h q 3) (iv h q 2) (iv h q 4) (iv h q 5) (iv h q 6)) => absurd c334 (Int32.not_lt.mpr z.2.2.2.2.2.2))).symm⟩
      · cases e827
        have c827 := ndc q827
        refine zSaload (m := 1) (k := 1) vr_128_25 rfl rfl rfl ?_
        refine zLget vr_128_26 rfl (fun p831 w831 e831 t831 g831 => ?_)
        cases e831
        first | (rw [p1] at g831; cases g831) | (rw [p2] at g831; cases g831) | (rw [p3] at g831; cases g831) | (rw [p4] at g831; cases g831) | (rw [p7] at g831; cases g831) | (rw [p8] at g831; cases g831) | (rw [p9] at g831; cases g831) | (rw [s2] at g831; cases g831) | (rw [s3] at g831; cases g831) | (rw [s4] at g831; cases g831) | (rw [s5] at g831; cases g831) | (rw [s6] at g831; cases g831) | skip
        refine zSaload (m := 1) (k := 0) vr_128_29 rfl rfl rfl ?_
        refine zLget vr_128_30 rfl (fun p833 w833 e833 t833 g833 => ?_)
        cases e833
        first | (rw [p1] at g833; cases g833) | (rw [p2] at g833; cases g833) | (rw [p3] at g833; cases g833) | (rw [p4] at g833; cases g833) | (rw [p7] at g833; cases g833) | (rw [p8] at g833; cases g833) | (rw [p9] at g833; cases g833) | (rw [s2] at g833; cases g833) | (rw [s3] at g833; cases g833) | (rw [s4] at g833; cases g833) | (rw [s5] at g833; cases g833) | (rw [s6] at g833; cases g833) | skip
        refine zS2 (f := fun x y => .int (x &&& y)) vr_128_33 rfl rfl (fun x834 y834 e834 f834 => ?_)
        cases e834
        cases f834
        refine zSaload (m := 1) (k := 0) vr_128_34 rfl rfl rfl ?_
        refine zLget vr_128_35 rfl (fun p836 w836 e836 t836 g836 => ?_)
        cases e836
        first | (rw [p1] at g836; cases g836) | (rw [p2] at g836; cases g836) | (rw [p3] at g836; cases g836) | (rw [p4] at g836; cases g836) | (rw [p7] at g836; cases g836) | (rw [p8] at g836; cases g836) | (rw [p9] at g836; cases g836) | (rw [s2] at g836; cases g836) | (rw [s3] at g836; cases g836) | (rw [s4] at g836; cases g836) | (rw [s5] at g836; cases g836) | (rw [s6] at g836; cases g836) | skip
        refine zSb2 (f := fun x y => decide (¬ x = y)) (off := 48) (t := 86) vr_128_38 rfl rfl rfl (fun x837 y837 e837 f837 q837 => ?_) (fun x837 y837 e837 f837 q837 => ?_)
        · cases e837
          cases f837
          have c837 := of_decide_eq_true q837
          refine zSp0 (pc' := 87) (st' := .int (0) :: _) vr_128_86 rfl rfl ?_
          refine zLiret vr_128_87 rfl (fun x839 e839 => ?_)
          cases e839
          first
            | exact ⟨rfl, congrArg (fun z : Int32 => Sum.inl (some (Value.int z))) (if_pos (show (okP (mR h p) (iv h q 3) (iv h q 2) (iv h q 4) (iv h q 5) (iv h q 6)) from ⟨Decidable.not_not.mp c819, hs_y c827, Decidable.not_not.mp c837, Decidable.not_not.mp c717, (inB_b c789).1, (inB_b c789).2, Int32.not_lt.mp c334⟩)).symm⟩
            | exact ⟨rfl, congrArg (fun z : Int32 => Sum.inl (some (Value.int z))) (if_neg (fun z : (okP (mR h p) (iv h q 3) (iv h q 2) (iv h q 4) (iv h q 5) (iv h q 6)) => c819 z.1)).symm⟩
            | exact ⟨rfl, congrArg (fun z : Int32 => Sum.inl (some (Value.int z))) (if_neg (fun z : (okP (mR h p) (iv h q 3) (iv h q 2) (iv h q 4) (iv h q 5) (iv h q 6)) => hs_n c827 z.2.1)).symm⟩
            | exact ⟨rfl, congrArg (fun z : Int32 => Sum.inl (some (Value.int z))) (if_neg (fun z : (okP (mR h p) (iv h q 3) (iv h q 2) (iv h q 4) (iv h q 5) (iv h q 6)) => c837 z.2.2.1)).symm⟩
            | exact ⟨rfl, congrArg (fun z : Int32 => Sum.inl (some (Value.int z))) (if_neg (fun z : (okP (mR h p) (iv h q 3) (iv h q 2) (iv h q 4) (iv h q 5) (iv h q 6)) => c717 z.2.2.2.1)).symm⟩
            | exact ⟨rfl, congrArg (fun z : Int32 => Sum.inl (some (Value.int z))) (if_neg (fun z : (okP (mR h p) (iv h q 3) (iv h q 2) (iv h q 4) (iv h q 5) (iv h q 6)) => inB_c c789 ⟨z.2.2.2.2.1, z.2.2.2.2.2.1⟩)).symm⟩
            | exact ⟨rfl, congrArg (fun z : Int32 => Sum.inl (some (Value.int z))) (if_neg (fun z : (okP (mR h p) (iv h q 3) (iv h q 2) (iv h q 4) (iv h q 5) (iv h q 6)) => absurd c334 (Int32.not_lt.mpr z.2.2.2.2.2.2))).symm⟩
        · cases e837
          cases f837
          have c837 := ndc q837
          refine zSaload (m := 1) (k := 1) vr_128_41 rfl rfl rfl ?_
          refine zLget vr_128_42 rfl (fun p841 w841 e841 t841 g841 => ?_)
          cases e841
          first | (rw [p1] at g841; cases g841) | (rw [p2] at g841; cases g841) | (rw [p3] at g841; cases g841) | (rw [p4] at g841; cases g841) | (rw [p7] at g841; cases g841) | (rw [p8] at g841; cases g841) | (rw [p9] at g841; cases g841) | (rw [s2] at g841; cases g841) | (rw [s3] at g841; cases g841) | (rw [s4] at g841; cases g841) | (rw [s5] at g841; cases g841) | (rw [s6] at g841; cases g841) | skip
          refine zSaload (m := 1) (k := 0) vr_128_45 rfl rfl rfl ?_
          refine zLget vr_128_46 rfl (fun p843 w843 e843 t843 g843 => ?_)
          cases e843
          first | (rw [p1] at g843; cases g843) | (rw [p2] at g843; cases g843) | (rw [p3] at g843; cases g843) | (rw [p4] at g843; cases g843) | (rw [p7] at g843; cases g843) | (rw [p8] at g843; cases g843) | (rw [p9] at g843; cases g843) | (rw [s2] at g843; cases g843) | (rw [s3] at g843; cases g843) | (rw [s4] at g843; cases g843) | (rw [s5] at g843; cases g843) | (rw [s6] at g843; cases g843) | skip
          refine zS2 (f := fun x y => .int (x &&& y)) vr_128_49 rfl rfl (fun x844 y844 e844 f844 => ?_)
          cases e844
          cases f844
          refine zSb1 (f := fun x => decide (¬ x = 0)) (off := 36) (t := 86) vr_128_50 rfl rfl rfl (fun x845 e845 q845 => ?_) (fun x845 e845 q845 => ?_)
          · cases e845
            have c845 := of_decide_eq_true q845
            refine zSp0 (pc' := 87) (st' := .int (0) :: _) vr_128_86 rfl rfl ?_
            refine zLiret vr_128_87 rfl (fun x847 e847 => ?_)
            cases e847
            first
              | exact ⟨rfl, congrArg (fun z : Int32 => Sum.inl (some (Value.int z))) (if_pos (show (okP (mR h p) (iv h q 3) (iv h q 2) (iv h q 4) (iv h q 5) (iv h q 6)) from ⟨Decidable.not_not.mp c819, hs_y c827, Decidable.not_not.mp c837, Decidable.not_not.mp c845, (inB_b c789).1, (inB_b c789).2, Int32.not_lt.mp c334⟩)).symm⟩
              | exact ⟨rfl, congrArg (fun z : Int32 => Sum.inl (some (Value.int z))) (if_neg (fun z : (okP (mR h p) (iv h q 3) (iv h q 2) (iv h q 4) (iv h q 5) (iv h q 6)) => c819 z.1)).symm⟩
              | exact ⟨rfl, congrArg (fun z : Int32 => Sum.inl (some (Value.int z))) (if_neg (fun z : (okP (mR h p) (iv h q 3) (iv h q 2) (iv h q 4) (iv h q 5) (iv h q 6)) => hs_n c827 z.2.1)).symm⟩
              | exact ⟨rfl, congrArg (fun z : Int32 => Sum.inl (some (Value.int z))) (if_neg (fun z : (okP (mR h p) (iv h q 3) (iv h q 2) (iv h q 4) (iv h q 5) (iv h q 6)) => c837 z.2.2.1)).symm⟩
              | exact ⟨rfl, congrArg (fun z : Int32 => Sum.inl (some (Value.int z))) (if_neg (fun z : (okP (mR h p) (iv h q 3) (iv h q 2) (iv h q 4) (iv h q 5) (iv h q 6)) => c845 z.2.2.2.1)).symm⟩
              | exact ⟨rfl, congrArg (fun z : Int32 => Sum.inl (some (Value.int z))) (if_neg (fun z : (okP (mR h p) (iv h q 3) (iv h q 2) (iv h q 4) (iv h q 5) (iv h q 6)) => inB_c c789 ⟨z.2.2.2.2.1, z.2.2.2.2.2.1⟩)).symm⟩
              | exact ⟨rfl, congrArg (fun z : Int32 => Sum.inl (some (Value.int z))) (if_neg (fun z : (okP (mR h p) (iv h q 3) (iv h q 2) (iv h q 4) (iv h q 5) (iv h q 6)) => absurd c334 (Int32.not_lt.mpr z.2.2.2.2.2.2))).symm⟩
          · cases e845
            have c845 := ndc q845
            refine zSaload (m := 1) (k := 1) vr_128_53 rfl rfl rfl ?_
            refine zLget vr_128_54 rfl (fun p849 w849 e849 t849 g849 => ?_)
            cases e849
            first | (rw [p1] at g849; cases g849) | (rw [p2] at g849; cases g849) | (rw [p3] at g849; cases g849) | (rw [p4] at g849; cases g849) | (rw [p7] at g849; cases g849) | (rw [p8] at g849; cases g849) | (rw [p9] at g849; cases g849) | (rw [s2] at g849; cases g849) | (rw [s3] at g849; cases g849) | (rw [s4] at g849; cases g849) | (rw [s5] at g849; cases g849) | (rw [s6] at g849; cases g849) | skip
            refine zSaload (m := 1) (k := 0) vr_128_57 rfl rfl rfl ?_
            refine zLget vr_128_58 rfl (fun p851 w851 e851 t851 g851 => ?_)
            cases e851
            first | (rw [p1] at g851; cases g851) | (rw [p2] at g851; cases g851) | (rw [p3] at g851; cases g851) | (rw [p4] at g851; cases g851) | (rw [p7] at g851; cases g851) | (rw [p8] at g851; cases g851) | (rw [p9] at g851; cases g851) | (rw [s2] at g851; cases g851) | (rw [s3] at g851; cases g851) | (rw [s4] at g851; cases g851) | (rw [s5] at g851; cases g851) | (rw [s6] at g851; cases g851) | skip
            refine zSaload (m := 1) (k := 0) vr_128_61 rfl rfl rfl ?_
            refine zLget vr_128_62 rfl (fun p853 w853 e853 t853 g853 => ?_)
            cases e853
            first | (rw [p1] at g853; cases g853) | (rw [p2] at g853; cases g853) | (rw [p3] at g853; cases g853) | (rw [p4] at g853; cases g853) | (rw [p7] at g853; cases g853) | (rw [p8] at g853; cases g853) | (rw [p9] at g853; cases g853) | (rw [s2] at g853; cases g853) | (rw [s3] at g853; cases g853) | (rw [s4] at g853; cases g853) | (rw [s5] at g853; cases g853) | (rw [s6] at g853; cases g853) | skip
            refine zScall vr_128_65 rfl rfl rfl (fun m854 _ => C_in _ _ _ _ _ _) (fun v854 h854 u854 q854 => ?_) (fun E854 h854 u854 q854 => ?_)
            · obtain ⟨eh854, z854⟩ := q854
              replace eh854 := eh854.symm
              subst eh854
              cases z854
              show zL zrx zi _ 128 68 [(0, _), (1, _)] [_] _ _ _
              refine zSb1 (f := fun x => decide (x = 0)) (off := 18) (t := 86) vr_128_68 rfl rfl rfl (fun x855 e855 q855 => ?_) (fun x855 e855 q855 => ?_)
              · cases e855
                have c855 := of_decide_eq_true q855
                refine zSp0 (pc' := 87) (st' := .int (0) :: _) vr_128_86 rfl rfl ?_
                refine zLiret vr_128_87 rfl (fun x857 e857 => ?_)
                cases e857
                first
                  | exact ⟨rfl, congrArg (fun z : Int32 => Sum.inl (some (Value.int z))) (if_pos (show (okP (mR h p) (iv h q 3) (iv h q 2) (iv h q 4) (iv h q 5) (iv h q 6)) from ⟨Decidable.not_not.mp c819, hs_y c827, Decidable.not_not.mp c837, Decidable.not_not.mp c845, (inB_b c855).1, (inB_b c855).2, Int32.not_lt.mp c334⟩)).symm⟩
                  | exact ⟨rfl, congrArg (fun z : Int32 => Sum.inl (some (Value.int z))) (if_neg (fun z : (okP (mR h p) (iv h q 3) (iv h q 2) (iv h q 4) (iv h q 5) (iv h q 6)) => c819 z.1)).symm⟩
                  | exact ⟨rfl, congrArg (fun z : Int32 => Sum.inl (some (Value.int z))) (if_neg (fun z : (okP (mR h p) (iv h q 3) (iv h q 2) (iv h q 4) (iv h q 5) (iv h q 6)) => hs_n c827 z.2.1)).symm⟩
                  | exact ⟨rfl, congrArg (fun z : Int32 => Sum.inl (some (Value.int z))) (if_neg (fun z : (okP (mR h p) (iv h q 3) (iv h q 2) (iv h q 4) (iv h q 5) (iv h q 6)) => c837 z.2.2.1)).symm⟩
                  | exact ⟨rfl, congrArg (fun z : Int32 => Sum.inl (some (Value.int z))) (if_neg (fun z : (okP (mR h p) (iv h q 3) (iv h q 2) (iv h q 4) (iv h q 5) (iv h q 6)) => c845 z.2.2.2.1)).symm⟩
                  | exact ⟨rfl, congrArg (fun z : Int32 => Sum.inl (some (Value.int z))) (if_neg (fun z : (okP (mR h p) (iv h q 3) (iv h q 2) (iv h q 4) (iv h q 5) (iv h q 6)) => inB_c c855 ⟨z.2.2.2.2.1, z.2.2.2.2.2.1⟩)).symm⟩
                  | exact ⟨rfl, congrArg (fun z : Int32 => Sum.inl (some (Value.int z))) (if_neg (fun z : (okP (mR h p) (iv h q 3) (iv h q 2) (iv h q 4) (iv h q 5) (iv h q 6)) => absurd c334 (Int32.not_lt.mpr z.2.2.2.2.2.2))).symm⟩
              · cases e855
                have c855 := ndc q855
                refine zSaload (m := 1) (k := 1) vr_128_71 rfl rfl rfl ?_
                refine zLget vr_128_72 rfl (fun p859 w859 e859 t859 g859 => ?_)
                cases e859
                first | (rw [p1] at g859; cases g859) | (rw [p2] at g859; cases g859) | (rw [p3] at g859; cases g859) | (rw [p4] at g859; cases g859) | (rw [p7] at g859; cases g859) | (rw [p8] at g859; cases g859) | (rw [p9] at g859; cases g859) | (rw [s2] at g859; cases g859) | (rw [s3] at g859; cases g859) | (rw [s4] at g859; cases g859) | (rw [s5] at g859; cases g859) | (rw [s6] at g859; cases g859) | skip
                refine zSaload (m := 1) (k := 0) vr_128_75 rfl rfl rfl ?_
                refine zLget vr_128_76 rfl (fun p861 w861 e861 t861 g861 => ?_)
                cases e861
                first | (rw [p1] at g861; cases g861) | (rw [p2] at g861; cases g861) | (rw [p3] at g861; cases g861) | (rw [p4] at g861; cases g861) | (rw [p7] at g861; cases g861) | (rw [p8] at g861; cases g861) | (rw [p9] at g861; cases g861) | (rw [s2] at g861; cases g861) | (rw [s3] at g861; cases g861) | (rw [s4] at g861; cases g861) | (rw [s5] at g861; cases g861) | (rw [s6] at g861; cases g861) | skip
                refine zSb2 (f := fun x y => decide (x < y)) (off := 7) (t := 86) vr_128_79 rfl rfl rfl (fun x862 y862 e862 f862 q862 => ?_) (fun x862 y862 e862 f862 q862 => ?_)
                · cases e862
                  cases f862
                  have c862 := of_decide_eq_true q862
                  refine zSp0 (pc' := 87) (st' := .int (0) :: _) vr_128_86 rfl rfl ?_
                  refine zLiret vr_128_87 rfl (fun x864 e864 => ?_)
                  cases e864
                  first
                    | exact ⟨rfl, congrArg (fun z : Int32 => Sum.inl (some (Value.int z))) (if_pos (show (okP (mR h p) (iv h q 3) (iv h q 2) (iv h q 4) (iv h q 5) (iv h q 6)) from ⟨Decidable.not_not.mp c819, hs_y c827, Decidable.not_not.mp c837, Decidable.not_not.mp c845, (inB_b c855).1, (inB_b c855).2, Int32.not_lt.mp c862⟩)).symm⟩
                    | exact ⟨rfl, congrArg (fun z : Int32 => Sum.inl (some (Value.int z))) (if_neg (fun z : (okP (mR h p) (iv h q 3) (iv h q 2) (iv h q 4) (iv h q 5) (iv h q 6)) => c819 z.1)).symm⟩
                    | exact ⟨rfl, congrArg (fun z : Int32 => Sum.inl (some (Value.int z))) (if_neg (fun z : (okP (mR h p) (iv h q 3) (iv h q 2) (iv h q 4) (iv h q 5) (iv h q 6)) => hs_n c827 z.2.1)).symm⟩
                    | exact ⟨rfl, congrArg (fun z : Int32 => Sum.inl (some (Value.int z))) (if_neg (fun z : (okP (mR h p) (iv h q 3) (iv h q 2) (iv h q 4) (iv h q 5) (iv h q 6)) => c837 z.2.2.1)).symm⟩
                    | exact ⟨rfl, congrArg (fun z : Int32 => Sum.inl (some (Value.int z))) (if_neg (fun z : (okP (mR h p) (iv h q 3) (iv h q 2) (iv h q 4) (iv h q 5) (iv h q 6)) => c845 z.2.2.2.1)).symm⟩
                    | exact ⟨rfl, congrArg (fun z : Int32 => Sum.inl (some (Value.int z))) (if_neg (fun z : (okP (mR h p) (iv h q 3) (iv h q 2) (iv h q 4) (iv h q 5) (iv h q 6)) => inB_c c855 ⟨z.2.2.2.2.1, z.2.2.2.2.2.1⟩)).symm⟩
                    | exact ⟨rfl, congrArg (fun z : Int32 => Sum.inl (some (Value.int z))) (if_neg (fun z : (okP (mR h p) (iv h q 3) (iv h q 2) (iv h q 4) (iv h q 5) (iv h q 6)) => absurd c862 (Int32.not_lt.mpr z.2.2.2.2.2.2))).symm⟩
                · cases e862
                  cases f862
                  have c862 := ndc q862
                  refine zSp0 (pc' := 83) (st' := .int (1) :: _) vr_128_82 rfl rfl ?_
                  refine zSgo (t := 87) vr_128_83 rfl rfl ?_
                  refine zLiret vr_128_87 rfl (fun x867 e867 => ?_)
                  cases e867
                  first
                    | exact ⟨rfl, congrArg (fun z : Int32 => Sum.inl (some (Value.int z))) (if_pos (show (okP (mR h p) (iv h q 3) (iv h q 2) (iv h q 4) (iv h q 5) (iv h q 6)) from ⟨Decidable.not_not.mp c819, hs_y c827, Decidable.not_not.mp c837, Decidable.not_not.mp c845, (inB_b c855).1, (inB_b c855).2, Int32.not_lt.mp c862⟩)).symm⟩
                    | exact ⟨rfl, congrArg (fun z : Int32 => Sum.inl (some (Value.int z))) (if_neg (fun z : (okP (mR h p) (iv h q 3) (iv h q 2) (iv h q 4) (iv h q 5) (iv h q 6)) => c819 z.1)).symm⟩
                    | exact ⟨rfl, congrArg (fun z : Int32 => Sum.inl (some (Value.int z))) (if_neg (fun z : (okP (mR h p) (iv h q 3) (iv h q 2) (iv h q 4) (iv h q 5) (iv h q 6)) => hs_n c827 z.2.1)).symm⟩
                    | exact ⟨rfl, congrArg (fun z : Int32 => Sum.inl (some (Value.int z))) (if_neg (fun z : (okP (mR h p) (iv h q 3) (iv h q 2) (iv h q 4) (iv h q 5) (iv h q 6)) => c837 z.2.2.1)).symm⟩
                    | exact ⟨rfl, congrArg (fun z : Int32 => Sum.inl (some (Value.int z))) (if_neg (fun z : (okP (mR h p) (iv h q 3) (iv h q 2) (iv h q 4) (iv h q 5) (iv h q 6)) => c845 z.2.2.2.1)).symm⟩
                    | exact ⟨rfl, congrArg (fun z : Int32 => Sum.inl (some (Value.int z))) (if_neg (fun z : (okP (mR h p) (iv h q 3) (iv h q 2) (iv h q 4) (iv h q 5) (iv h q 6)) => inB_c c855 ⟨z.2.2.2.2.1, z.2.2.2.2.2.1⟩)).symm⟩
                    | exact ⟨rfl, congrArg (fun z : Int32 => Sum.inl (some (Value.int z))) (if_neg (fun z : (okP (mR h p) (iv h q 3) (iv h q 2) (iv h q 4) (iv h q 5) (iv h q 6)) => absurd c862 (Int32.not_lt.mpr z.2.2.2.2.2.2))).symm⟩
            · obtain ⟨-, z⟩ := q854
              cases z
    · obtain ⟨-, z⟩ := q826
      cases z
theorem C_stV (n p : Nat) (h : List zC) (u : Nat) {a b c : Int32} (h3 : gF h p 3 = some (.int a)) (h4 : gF h p 4 = some (.int b)) (h6 : gF h p 6 = some (.int c)) (ra : rI 0 63 a) (rb : rI 0 63 b) : zL zrx zi n 127 0 [(0, .ref p)] [] h u (fun o h2 _ => h2 = h ∧ o = .inl (some (.int (stV h p)))) :=
  zL_K _ _ _ _ _ _ _ _ _ (C_strength n p h u h3 h4 h6) (fun o h2 _ q => by
    obtain ⟨q1, s, t, q2, q3, q4⟩ := q
    refine ⟨q1, ?_⟩
    rw [q4]
    unfold stV
    rw [iv_of h3, iv_of h4, iv_of h6, psz_f ra q2, psz_f rb q3])
set_option maxRecDepth 20000 in
theorem C_cu_loop {par cnt : Int32} {q el : Nat} {h : List zC} (hS : Stc h) (hs : gF h 223 2 = some (.int cnt)) (hL : gF h 223 1 = some (.ref el)) (h0 : 0 ≤ cnt.toInt) (h40 : cnt.toInt ≤ 40) (hq : ∀ k, k < cnt.toNatClampNeg → ∃ x : Nat, gF h el k = some (.ref x) ∧ RI h x ∧ ∃ a b c : Int32, gF h x 3 = some (.int a) ∧ gF h x 4 = some (.int b) ∧ gF h x 6 = some (.int c) ∧ rI 0 63 a ∧ rI 0 63 b) (hci : CI h q) : ∀ (n k : Nat) (s t : Int32) (w : Value) (u : Nat), k ≤ cnt.toNatClampNeg → cuM (dM h el par (iv h q 3) (iv h q 2) (iv h q 4) (iv h q 5) (iv h q 6)) k = (t, s) → zL zrx zi n 135 8 [(5, .int (Int32.ofNat k)), (4, .int t), (3, .int s), (0, .ref 213), (1, .int par), (2, .ref q), (6, w)] [] h u (fun o h2 _ => h2 = h ∧ o = .inl (some (.int (cuM (dM h el par (iv h q 3) (iv h q 2) (iv h q 4) (iv h q 5) (iv h q 6)) cnt.toNatClampNeg).1)))
  | 0, _, _, _, _, _, _, _ => trivial
  | n + 1, k, s, t, w, u, hk, hD => by
    have ck : cnt.toNatClampNeg = cnt.toInt.toNat := rfl
    have kk := (toNat_ofNat (m := k) (by omega))
    refine zLp vr_135_8 rfl rfl ?_
    refine zSaload (m := 1) (k := 0) vr_135_10 rfl rfl rfl ?_
    refine zLget vr_135_11 rfl (fun p869 w869 e869 t869 g869 => ?_)
    cases e869
    first | (rw [(st_213_7 hS)] at g869; cases g869) | skip
    refine zScall vr_135_14 rfl rfl rfl (fun m870 _ => C_lsize _ _ _ _ hs) (fun v870 h870 u870 q870 => ?_) (fun E870 h870 u870 q870 => ?_)
    · obtain ⟨eh870, z870⟩ := q870
      replace eh870 := eh870.symm
      subst eh870
      cases z870
      show zL zrx zi _ 135 19 [(5, _), (4, _), (3, _), (0, _), (1, _), (2, _), (6, _)] [_, _] _ _ _
      refine zSb2 (f := fun x y => decide (y ≤ x)) (off := 92) (t := 111) vr_135_19 rfl rfl rfl (fun x871 y871 e871 f871 q871 => ?_) (fun x871 y871 e871 f871 q871 => ?_)
      · cases e871
        cases f871
        have c871 := of_decide_eq_true q871
        refine zSiload (m := 2) (k := 4) vr_135_111 rfl rfl rfl (fun x872 e872 => ?_)
        cases e872
        refine zLiret vr_135_113 rfl (fun x873 e873 => ?_)
        cases e873
        have y := c871
        rw [i32_le, kk.2] at y
        have e : k = cnt.toNatClampNeg := by omega
        rw [← e, hD]
        exact ⟨rfl, rfl⟩
      · cases e871
        cases f871
        have c871 := ndc q871
        have hlt : k < cnt.toNatClampNeg := by
          have y := c871
          rw [i32_le, kk.2] at y
          omega
        obtain ⟨x, x1, ri, fa, fb, fc, f3, f4, f6, ra, rb⟩ := hq k hlt
        refine zSaload (m := 1) (k := 0) vr_135_22 rfl rfl rfl ?_
        refine zLget vr_135_23 rfl (fun p875 w875 e875 t875 g875 => ?_)
        cases e875
        first | (rw [(st_213_7 hS)] at g875; cases g875) | skip
        refine zSiload (m := 2) (k := 5) vr_135_26 rfl rfl rfl (fun x876 e876 => ?_)
        cases e876
        refine zScall vr_135_28 rfl rfl rfl (fun m877 _ => C_get _ _ _ _ _ hL hs) (fun v877 h877 u877 q877 => ?_) (fun E877 h877 u877 q877 => ?_)
        · obtain ⟨eh877, y877, w877, z877, k877⟩ := q877
          replace eh877 := eh877.symm
          subst eh877
          cases z877
          show zL zrx zi _ 135 33 [(5, _), (4, _), (3, _), (0, _), (1, _), (2, _), (6, _)] [_] _ _ _
          refine zLcst vr_135_33 rfl (fun p878 e878 => ?_)
          cases e878
          have e1 := k877
          rw [kk.1, x1] at e1
          cases e1
          have rx := rf_of x1
          refine zSastore (m := 2) (k := 6) vr_135_36 rfl rfl ?_
          show zL zrx zi _ 135 38 [(6, _), (5, _), (4, _), (3, _), (0, _), (1, _), (2, _)] [] _ _ _
          refine zSaload (m := 2) (k := 6) vr_135_38 rfl rfl rfl ?_
          refine zLget vr_135_40 rfl (fun p881 w881 e881 t881 g881 => ?_)
          cases e881
          first | (rw [(st_213_7 hS)] at g881; cases g881) | skip
          refine zSiload (m := 1) (k := 1) vr_135_43 rfl rfl rfl (fun x882 e882 => ?_)
          cases e882
          refine zSb2 (f := fun x y => decide (¬ x = y)) (off := 61) (t := 105) vr_135_44 rfl rfl rfl (fun x883 y883 e883 f883 q883 => ?_) (fun x883 y883 e883 f883 q883 => ?_)
          · cases e883
            cases f883
            have c883 := of_decide_eq_true q883
            refine zSiinc vr_135_105 rfl rfl (fun x884 e884 => ?_)
            cases e884
            show zL zrx zi _ 135 108 [(5, _), (6, _), (4, _), (3, _), (0, _), (1, _), (2, _)] [] _ _ _
            refine zSgo (t := 8) vr_135_108 rfl rfl ?_
            rw [ofNat_succ]
            refine zL_pm _ _ _ [(5, _), (4, _), (3, _), (0, _), (1, _), (2, _), (6, _)] _ _ _ _ _ ⟨(List.forall_mem_cons.mpr ⟨List.mem_cons_self, (List.forall_mem_cons.mpr ⟨(List.mem_cons_of_mem _ (List.mem_cons_of_mem _ (List.mem_cons_of_mem _ (List.mem_cons_of_mem _ (List.mem_cons_of_mem _ (List.mem_cons_of_mem _ List.mem_cons_self)))))), (List.forall_mem_cons.mpr ⟨(List.mem_cons_of_mem _ List.mem_cons_self), (List.forall_mem_cons.mpr ⟨(List.mem_cons_of_mem _ (List.mem_cons_of_mem _ List.mem_cons_self)), (List.forall_mem_cons.mpr ⟨(List.mem_cons_of_mem _ (List.mem_cons_of_mem _ (List.mem_cons_of_mem _ List.mem_cons_self))), (List.forall_mem_cons.mpr ⟨(List.mem_cons_of_mem _ (List.mem_cons_of_mem _ (List.mem_cons_of_mem _ (List.mem_cons_of_mem _ List.mem_cons_self)))), (List.forall_mem_cons.mpr ⟨(List.mem_cons_of_mem _ (List.mem_cons_of_mem _ (List.mem_cons_of_mem _ (List.mem_cons_of_mem _ (List.mem_cons_of_mem _ List.mem_cons_self))))), (fun _ h => absurd h List.not_mem_nil)⟩)⟩)⟩)⟩)⟩)⟩)⟩), show ([5, 4, 3, 0, 1, 2, 6] : List Nat).Nodup by decide⟩ (C_cu_loop hS hs hL h0 h40 hq hci n (k + 1) _ _ _ _ (by omega) ?_)
            first
              | exact (dM_n (fun z => by have y := z.1; rw [rx, iv_of g881] at y; exact c883 y)).trans hD
              | exact (dM_n (fun z => by have y := c848; have z2 := z.2; rw [rx] at z2; rw [if_pos z2] at y; exact absurd y (by decide))).trans hD
              | (refine (dM_y ⟨by rw [rx, iv_of g881]; exact Decidable.not_not.mp c883, by have y := c848; rw [rx]; by_cases z : okP (mR h x) (iv h q 3) (iv h q 2) (iv h q 4) (iv h q 5) (iv h q 6); exact z; rw [if_neg z] at y; exact absurd rfl y⟩).trans ?_; rw [hD, rx]; unfold stM; dsimp only; rw [if_pos (Int32.not_le.mp c853)])
              | (refine (dM_y ⟨by rw [rx, iv_of g881]; exact Decidable.not_not.mp c883, by have y := c848; rw [rx]; by_cases z : okP (mR h x) (iv h q 3) (iv h q 2) (iv h q 4) (iv h q 5) (iv h q 6); exact z; rw [if_neg z] at y; exact absurd rfl y⟩).trans ?_; rw [hD, rx, iv_of g743]; unfold stM; dsimp only; rw [if_neg (Int32.not_lt.mpr c853), if_pos (Or.inl c667)])
              | (refine (dM_y ⟨by rw [rx, iv_of g881]; exact Decidable.not_not.mp c883, by have y := c848; rw [rx]; by_cases z : okP (mR h x) (iv h q 3) (iv h q 2) (iv h q 4) (iv h q 5) (iv h q 6); exact z; rw [if_neg z] at y; exact absurd rfl y⟩).trans ?_; rw [hD, rx, iv_of g743]; unfold stM; dsimp only; rw [if_neg (Int32.not_lt.mpr c853), if_pos (Or.inr (by have y := Decidable.not_not.mp c741; have y2 := (iv_of g771).symm.trans (iv_of g743); rw [y2] at y; exact y))])
              | (refine (dM_y ⟨by rw [rx, iv_of g881]; exact Decidable.not_not.mp c883, by have y := c848; rw [rx]; by_cases z : okP (mR h x) (iv h q 3) (iv h q 2) (iv h q 4) (iv h q 5) (iv h q 6); exact z; rw [if_neg z] at y; exact absurd rfl y⟩).trans ?_; rw [hD, rx, iv_of g771]; unfold stM; dsimp only; rw [if_neg (Int32.not_lt.mpr c853), if_neg (fun z => by rcases z with z | z; exact c667 z; exact c741 z)])
          · cases e883
            cases f883
            have c883 := ndc q883
            refine zSaload (m := 2) (k := 6) vr_135_47 rfl rfl rfl ?_
            refine zSaload (m := 1) (k := 2) vr_135_49 rfl rfl rfl ?_
            refine zScall vr_135_50 rfl rfl rfl (fun m888 _ => C_holds _ _ _ _ _ ri hci) (fun v888 h888 u888 q888 => ?_) (fun E888 h888 u888 q888 => ?_)
            · obtain ⟨eh888, z888⟩ := q888
              replace eh888 := eh888.symm
              subst eh888
              cases z888
              show zL zrx zi _ 135 53 [(6, _), (5, _), (4, _), (3, _), (0, _), (1, _), (2, _)] [_] _ _ _
              refine zSb1 (f := fun x => decide (x = 0)) (off := 52) (t := 105) vr_135_53 rfl rfl rfl (fun x889 e889 q889 => ?_) (fun x889 e889 q889 => ?_)
              · cases e889
                have c889 := of_decide_eq_true q889
                refine zSiinc vr_135_105 rfl rfl (fun x890 e890 => ?_)
                cases e890
                show zL zrx zi _ 135 108 [(5, _), (6, _), (4, _), (3, _), (0, _), (1, _), (2, _)] [] _ _ _
                refine zSgo (t := 8) vr_135_108 rfl rfl ?_
                rw [ofNat_succ]
                refine zL_pm _ _ _ [(5, _), (4, _), (3, _), (0, _), (1, _), (2, _), (6, _)] _ _ _ _ _ ⟨(List.forall_mem_cons.mpr ⟨List.mem_cons_self, (List.forall_mem_cons.mpr ⟨(List.mem_cons_of_mem _ (List.mem_cons_of_mem _ (List.mem_cons_of_mem _ (List.mem_cons_of_mem _ (List.mem_cons_of_mem _ (List.mem_cons_of_mem _ List.mem_cons_self)))))), (List.forall_mem_cons.mpr ⟨(List.mem_cons_of_mem _ List.mem_cons_self), (List.forall_mem_cons.mpr ⟨(List.mem_cons_of_mem _ (List.mem_cons_of_mem _ List.mem_cons_self)), (List.forall_mem_cons.mpr ⟨(List.mem_cons_of_mem _ (List.mem_cons_of_mem _ (List.mem_cons_of_mem _ List.mem_cons_self))), (List.forall_mem_cons.mpr ⟨(List.mem_cons_of_mem _ (List.mem_cons_of_mem _ (List.mem_cons_of_mem _ (List.mem_cons_of_mem _ List.mem_cons_self)))), (List.forall_mem_cons.mpr ⟨(List.mem_cons_of_mem _ (List.mem_cons_of_mem _ (List.mem_cons_of_mem _ (List.mem_cons_of_mem _ (List.mem_cons_of_mem _ List.mem_cons_self))))), (fun _ h => absurd h List.not_mem_nil)⟩)⟩)⟩)⟩)⟩)⟩)⟩), show ([5, 4, 3, 0, 1, 2, 6] : List Nat).Nodup by decide⟩ (C_cu_loop hS hs hL h0 h40 hq hci n (k + 1) _ _ _ _ (by omega) ?_)
                first
                  | exact (dM_n (fun z => by have y := z.1; rw [rx, iv_of g881] at y; exact c883 y)).trans hD
                  | exact (dM_n (fun z => by have y := c889; have z2 := z.2; rw [rx] at z2; rw [if_pos z2] at y; exact absurd y (by decide))).trans hD
                  | (refine (dM_y ⟨by rw [rx, iv_of g881]; exact Decidable.not_not.mp c883, by have y := c889; rw [rx]; by_cases z : okP (mR h x) (iv h q 3) (iv h q 2) (iv h q 4) (iv h q 5) (iv h q 6); exact z; rw [if_neg z] at y; exact absurd rfl y⟩).trans ?_; rw [hD, rx]; unfold stM; dsimp only; rw [if_pos (Int32.not_le.mp c853)])
                  | (refine (dM_y ⟨by rw [rx, iv_of g881]; exact Decidable.not_not.mp c883, by have y := c889; rw [rx]; by_cases z : okP (mR h x) (iv h q 3) (iv h q 2) (iv h q 4) (iv h q 5) (iv h q 6); exact z; rw [if_neg z] at y; exact absurd rfl y⟩).trans ?_; rw [hD, rx, iv_of g743]; unfold stM; dsimp only; rw [if_neg (Int32.not_lt.mpr c853), if_pos (Or.inl c667)])
                  | (refine (dM_y ⟨by rw [rx, iv_of g881]; exact Decidable.not_not.mp c883, by have y := c889; rw [rx]; by_cases z : okP (mR h x) (iv h q 3) (iv h q 2) (iv h q 4) (iv h q 5) (iv h q 6); exact z; rw [if_neg z] at y; exact absurd rfl y⟩).trans ?_; rw [hD, rx, iv_of g743]; unfold stM; dsimp only; rw [if_neg (Int32.not_lt.mpr c853), if_pos (Or.inr (by have y := Decidable.not_not.mp c741; have y2 := (iv_of g771).symm.trans (iv_of g743); rw [y2] at y; exact y))])
                  | (refine (dM_y ⟨by rw [rx, iv_of g881]; exact Decidable.not_not.mp c883, by have y := c889; rw [rx]; by_cases z : okP (mR h x) (iv h q 3) (iv h q 2) (iv h q 4) (iv h q 5) (iv h q 6); exact z; rw [if_neg z] at y; exact absurd rfl y⟩).trans ?_; rw [hD, rx, iv_of g771]; unfold stM; dsimp only; rw [if_neg (Int32.not_lt.mpr c853), if_neg (fun z => by rcases z with z | z; exact c667 z; exact c741 z)])
              · cases e889
                have c889 := ndc q889
                refine zSaload (m := 2) (k := 6) vr_135_56 rfl rfl rfl ?_
                refine zScall vr_135_58 rfl rfl rfl (fun m893 _ => C_stV _ _ _ _ f3 f4 f6 ra rb) (fun v893 h893 u893 q893 => ?_) (fun E893 h893 u893 q893 => ?_)
                · obtain ⟨eh893, z893⟩ := q893
                  replace eh893 := eh893.symm
                  subst eh893
                  cases z893
                  show zL zrx zi _ 135 61 [(6, _), (5, _), (4, _), (3, _), (0, _), (1, _), (2, _)] [_] _ _ _
                  refine zSiload (m := 1) (k := 3) vr_135_61 rfl rfl rfl (fun x894 e894 => ?_)
                  cases e894
                  refine zSb2 (f := fun x y => decide (y ≤ x)) (off := 6) (t := 68) vr_135_62 rfl rfl rfl (fun x895 y895 e895 f895 q895 => ?_) (fun x895 y895 e895 f895 q895 => ?_)
                  · cases e895
                    cases f895
                    have c895 := of_decide_eq_true q895
                    refine zSaload (m := 2) (k := 6) vr_135_68 rfl rfl rfl ?_
                    refine zScall vr_135_70 rfl rfl rfl (fun m897 _ => C_stV _ _ _ _ f3 f4 f6 ra rb) (fun v897 h897 u897 q897 => ?_) (fun E897 h897 u897 q897 => ?_)
                    · obtain ⟨eh897, z897⟩ := q897
                      replace eh897 := eh897.symm
                      subst eh897
                      cases z897
                      show zL zrx zi _ 135 73 [(6, _), (5, _), (4, _), (3, _), (0, _), (1, _), (2, _)] [_] _ _ _
                      refine zSiload (m := 1) (k := 3) vr_135_73 rfl rfl rfl (fun x898 e898 => ?_)
                      cases e898
                      refine zSb2 (f := fun x y => decide (y < x)) (off := 13) (t := 87) vr_135_74 rfl rfl rfl (fun x899 y899 e899 f899 q899 => ?_) (fun x899 y899 e899 f899 q899 => ?_)
                      · cases e899
                        cases f899
                        have c899 := of_decide_eq_true q899
                        refine zSaload (m := 2) (k := 6) vr_135_87 rfl rfl rfl ?_
                        refine zLget vr_135_89 rfl (fun p901 w901 e901 t901 g901 => ?_)
                        cases e901
                        first | (rw [(st_213_7 hS)] at g901; cases g901) | skip
                        refine zSgo (t := 97) vr_135_92 rfl rfl ?_
                        refine zSistore (m := 2) (k := 4) vr_135_97 rfl rfl (fun x903 e903 => ?_)
                        cases e903
                        show zL zrx zi _ 135 99 [(4, _), (6, _), (5, _), (3, _), (0, _), (1, _), (2, _)] [] _ _ _
                        refine zSaload (m := 2) (k := 6) vr_135_99 rfl rfl rfl ?_
                        refine zScall vr_135_101 rfl rfl rfl (fun m905 _ => C_stV _ _ _ _ f3 f4 f6 ra rb) (fun v905 h905 u905 q905 => ?_) (fun E905 h905 u905 q905 => ?_)
                        · obtain ⟨eh905, z905⟩ := q905
                          replace eh905 := eh905.symm
                          subst eh905
                          cases z905
                          show zL zrx zi _ 135 104 [(4, _), (6, _), (5, _), (3, _), (0, _), (1, _), (2, _)] [_] _ _ _
                          refine zSistore (m := 1) (k := 3) vr_135_104 rfl rfl (fun x906 e906 => ?_)
                          cases e906
                          show zL zrx zi _ 135 105 [(3, _), (4, _), (6, _), (5, _), (0, _), (1, _), (2, _)] [] _ _ _
                          refine zSiinc vr_135_105 rfl rfl (fun x907 e907 => ?_)
                          cases e907
                          show zL zrx zi _ 135 108 [(5, _), (3, _), (4, _), (6, _), (0, _), (1, _), (2, _)] [] _ _ _
                          refine zSgo (t := 8) vr_135_108 rfl rfl ?_
                          rw [ofNat_succ]
                          refine zL_pm _ _ _ [(5, _), (4, _), (3, _), (0, _), (1, _), (2, _), (6, _)] _ _ _ _ _ ⟨(List.forall_mem_cons.mpr ⟨List.mem_cons_self, (List.forall_mem_cons.mpr ⟨(List.mem_cons_of_mem _ (List.mem_cons_of_mem _ List.mem_cons_self)), (List.forall_mem_cons.mpr ⟨(List.mem_cons_of_mem _ List.mem_cons_self), (List.forall_mem_cons.mpr ⟨(List.mem_cons_of_mem _ (List.mem_cons_of_mem _ (List.mem_cons_of_mem _ (List.mem_cons_of_mem _ (List.mem_cons_of_mem _ (List.mem_cons_of_mem _ List.mem_cons_self)))))), (List.forall_mem_cons.mpr ⟨(List.mem_cons_of_mem _ (List.mem_cons_of_mem _ (List.mem_cons_of_mem _ List.mem_cons_self))), (List.forall_mem_cons.mpr ⟨(List.mem_cons_of_mem _ (List.mem_cons_of_mem _ (List.mem_cons_of_mem _ (List.mem_cons_of_mem _ List.mem_cons_self)))), (List.forall_mem_cons.mpr ⟨(List.mem_cons_of_mem _ (List.mem_cons_of_mem _ (List.mem_cons_of_mem _ (List.mem_cons_of_mem _ (List.mem_cons_of_mem _ List.mem_cons_self))))), (fun _ h => absurd h List.not_mem_nil)⟩)⟩)⟩)⟩)⟩)⟩)⟩), show ([5, 4, 3, 0, 1, 2, 6] : List Nat).Nodup by decide⟩ (C_cu_loop hS hs hL h0 h40 hq hci n (k + 1) _ _ _ _ (by omega) ?_)
                          first
                            | exact (dM_n (fun z => by have y := z.1; rw [rx, iv_of g881] at y; exact c883 y)).trans hD
                            | exact (dM_n (fun z => by have y := c889; have z2 := z.2; rw [rx] at z2; rw [if_pos z2] at y; exact absurd y (by decide))).trans hD
                            | (refine (dM_y ⟨by rw [rx, iv_of g881]; exact Decidable.not_not.mp c883, by have y := c889; rw [rx]; by_cases z : okP (mR h x) (iv h q 3) (iv h q 2) (iv h q 4) (iv h q 5) (iv h q 6); exact z; rw [if_neg z] at y; exact absurd rfl y⟩).trans ?_; rw [hD, rx]; unfold stM; dsimp only; rw [if_pos (Int32.not_le.mp c895)])
                            | (refine (dM_y ⟨by rw [rx, iv_of g881]; exact Decidable.not_not.mp c883, by have y := c889; rw [rx]; by_cases z : okP (mR h x) (iv h q 3) (iv h q 2) (iv h q 4) (iv h q 5) (iv h q 6); exact z; rw [if_neg z] at y; exact absurd rfl y⟩).trans ?_; rw [hD, rx, iv_of g901]; unfold stM; dsimp only; rw [if_neg (Int32.not_lt.mpr c895), if_pos (Or.inl c899)])
                            | (refine (dM_y ⟨by rw [rx, iv_of g881]; exact Decidable.not_not.mp c883, by have y := c889; rw [rx]; by_cases z : okP (mR h x) (iv h q 3) (iv h q 2) (iv h q 4) (iv h q 5) (iv h q 6); exact z; rw [if_neg z] at y; exact absurd rfl y⟩).trans ?_; rw [hD, rx, iv_of g901]; unfold stM; dsimp only; rw [if_neg (Int32.not_lt.mpr c895), if_pos (Or.inr (by have y := Decidable.not_not.mp c741; have y2 := (iv_of g771).symm.trans (iv_of g901); rw [y2] at y; exact y))])
                            | (refine (dM_y ⟨by rw [rx, iv_of g881]; exact Decidable.not_not.mp c883, by have y := c889; rw [rx]; by_cases z : okP (mR h x) (iv h q 3) (iv h q 2) (iv h q 4) (iv h q 5) (iv h q 6); exact z; rw [if_neg z] at y; exact absurd rfl y⟩).trans ?_; rw [hD, rx, iv_of g771]; unfold stM; dsimp only; rw [if_neg (Int32.not_lt.mpr c895), if_neg (fun z => by rcases z with z | z; exact c899 z; exact c741 z)])
                        · obtain ⟨-, z⟩ := q905
                          cases z
                      · cases e899
                        cases f899
                        have c899 := ndc q899
                        refine zSiload (m := 2) (k := 4) vr_135_77 rfl rfl rfl (fun x909 e909 => ?_)
                        cases e909
                        refine zSaload (m := 2) (k := 6) vr_135_79 rfl rfl rfl ?_
                        refine zLget vr_135_81 rfl (fun p911 w911 e911 t911 g911 => ?_)
                        cases e911
                        first | (rw [(st_213_7 hS)] at g911; cases g911) | skip
                        refine zSb2 (f := fun x y => decide (¬ x = y)) (off := 11) (t := 95) vr_135_84 rfl rfl rfl (fun x912 y912 e912 f912 q912 => ?_) (fun x912 y912 e912 f912 q912 => ?_)
                        · cases e912
                          cases f912
                          have c912 := of_decide_eq_true q912
                          refine zSp0 (pc' := 97) (st' := .int (-2) :: _) vr_135_95 rfl rfl ?_
                          refine zSistore (m := 2) (k := 4) vr_135_97 rfl rfl (fun x914 e914 => ?_)
                          cases e914
                          show zL zrx zi _ 135 99 [(4, _), (6, _), (5, _), (3, _), (0, _), (1, _), (2, _)] [] _ _ _
                          refine zSaload (m := 2) (k := 6) vr_135_99 rfl rfl rfl ?_
                          refine zScall vr_135_101 rfl rfl rfl (fun m916 _ => C_stV _ _ _ _ f3 f4 f6 ra rb) (fun v916 h916 u916 q916 => ?_) (fun E916 h916 u916 q916 => ?_)
                          · obtain ⟨eh916, z916⟩ := q916
                            replace eh916 := eh916.symm
                            subst eh916
                            cases z916
                            show zL zrx zi _ 135 104 [(4, _), (6, _), (5, _), (3, _), (0, _), (1, _), (2, _)] [_] _ _ _
                            refine zSistore (m := 1) (k := 3) vr_135_104 rfl rfl (fun x917 e917 => ?_)
                            cases e917
                            show zL zrx zi _ 135 105 [(3, _), (4, _), (6, _), (5, _), (0, _), (1, _), (2, _)] [] _ _ _
                            refine zSiinc vr_135_105 rfl rfl (fun x918 e918 => ?_)
                            cases e918
                            show zL zrx zi _ 135 108 [(5, _), (3, _), (4, _), (6, _), (0, _), (1, _), (2, _)] [] _ _ _
                            refine zSgo (t := 8) vr_135_108 rfl rfl ?_
                            rw [ofNat_succ]
                            refine zL_pm _ _ _ [(5, _), (4, _), (3, _), (0, _), (1, _), (2, _), (6, _)] _ _ _ _ _ ⟨(List.forall_mem_cons.mpr ⟨List.mem_cons_self, (List.forall_mem_cons.mpr ⟨(List.mem_cons_of_mem _ (List.mem_cons_of_mem _ List.mem_cons_self)), (List.forall_mem_cons.mpr ⟨(List.mem_cons_of_mem _ List.mem_cons_self), (List.forall_mem_cons.mpr ⟨(List.mem_cons_of_mem _ (List.mem_cons_of_mem _ (List.mem_cons_of_mem _ (List.mem_cons_of_mem _ (List.mem_cons_of_mem _ (List.mem_cons_of_mem _ List.mem_cons_self)))))), (List.forall_mem_cons.mpr ⟨(List.mem_cons_of_mem _ (List.mem_cons_of_mem _ (List.mem_cons_of_mem _ List.mem_cons_self))), (List.forall_mem_cons.mpr ⟨(List.mem_cons_of_mem _ (List.mem_cons_of_mem _ (List.mem_cons_of_mem _ (List.mem_cons_of_mem _ List.mem_cons_self)))), (List.forall_mem_cons.mpr ⟨(List.mem_cons_of_mem _ (List.mem_cons_of_mem _ (List.mem_cons_of_mem _ (List.mem_cons_of_mem _ (List.mem_cons_of_mem _ List.mem_cons_self))))), (fun _ h => absurd h List.not_mem_nil)⟩)⟩)⟩)⟩)⟩)⟩)⟩), show ([5, 4, 3, 0, 1, 2, 6] : List Nat).Nodup by decide⟩ (C_cu_loop hS hs hL h0 h40 hq hci n (k + 1) _ _ _ _ (by omega) ?_)
                            first
                              | exact (dM_n (fun z => by have y := z.1; rw [rx, iv_of g881] at y; exact c883 y)).trans hD
                              | exact (dM_n (fun z => by have y := c889; have z2 := z.2; rw [rx] at z2; rw [if_pos z2] at y; exact absurd y (by decide))).trans hD
                              | (refine (dM_y ⟨by rw [rx, iv_of g881]; exact Decidable.not_not.mp c883, by have y := c889; rw [rx]; by_cases z : okP (mR h x) (iv h q 3) (iv h q 2) (iv h q 4) (iv h q 5) (iv h q 6); exact z; rw [if_neg z] at y; exact absurd rfl y⟩).trans ?_; rw [hD, rx]; unfold stM; dsimp only; rw [if_pos (Int32.not_le.mp c895)])
                              | (refine (dM_y ⟨by rw [rx, iv_of g881]; exact Decidable.not_not.mp c883, by have y := c889; rw [rx]; by_cases z : okP (mR h x) (iv h q 3) (iv h q 2) (iv h q 4) (iv h q 5) (iv h q 6); exact z; rw [if_neg z] at y; exact absurd rfl y⟩).trans ?_; rw [hD, rx, iv_of g901]; unfold stM; dsimp only; rw [if_neg (Int32.not_lt.mpr c895), if_pos (Or.inl c899)])
                              | (refine (dM_y ⟨by rw [rx, iv_of g881]; exact Decidable.not_not.mp c883, by have y := c889; rw [rx]; by_cases z : okP (mR h x) (iv h q 3) (iv h q 2) (iv h q 4) (iv h q 5) (iv h q 6); exact z; rw [if_neg z] at y; exact absurd rfl y⟩).trans ?_; rw [hD, rx, iv_of g901]; unfold stM; dsimp only; rw [if_neg (Int32.not_lt.mpr c895), if_pos (Or.inr (by have y := Decidable.not_not.mp c912; have y2 := (iv_of g911).symm.trans (iv_of g901); rw [y2] at y; exact y))])
                              | (refine (dM_y ⟨by rw [rx, iv_of g881]; exact Decidable.not_not.mp c883, by have y := c889; rw [rx]; by_cases z : okP (mR h x) (iv h q 3) (iv h q 2) (iv h q 4) (iv h q 5) (iv h q 6); exact z; rw [if_neg z] at y; exact absurd rfl y⟩).trans ?_; rw [hD, rx, iv_of g911]; unfold stM; dsimp only; rw [if_neg (Int32.not_lt.mpr c895), if_neg (fun z => by rcases z with z | z; exact c899 z; exact c912 z)])
                          · obtain ⟨-, z⟩ := q916
                            cases z
                        · cases e912
                          cases f912
                          have c912 := ndc q912
                          refine zSaload (m := 2) (k := 6) vr_135_87 rfl rfl rfl ?_
                          refine zLget vr_135_89 rfl (fun p921 w921 e921 t921 g921 => ?_)
                          cases e921
                          first | (rw [(st_213_7 hS)] at g921; cases g921) | skip
                          refine zSgo (t := 97) vr_135_92 rfl rfl ?_
                          refine zSistore (m := 2) (k := 4) vr_135_97 rfl rfl (fun x923 e923 => ?_)
                          cases e923
                          show zL zrx zi _ 135 99 [(4, _), (6, _), (5, _), (3, _), (0, _), (1, _), (2, _)] [] _ _ _
                          refine zSaload (m := 2) (k := 6) vr_135_99 rfl rfl rfl ?_
                          refine zScall vr_135_101 rfl rfl rfl (fun m925 _ => C_stV _ _ _ _ f3 f4 f6 ra rb) (fun v925 h925 u925 q925 => ?_) (fun E925 h925 u925 q925 => ?_)
                          · obtain ⟨eh925, z925⟩ := q925
                            replace eh925 := eh925.symm
                            subst eh925
                            cases z925
                            show zL zrx zi _ 135 104 [(4, _), (6, _), (5, _), (3, _), (0, _), (1, _), (2, _)] [_] _ _ _
                            refine zSistore (m := 1) (k := 3) vr_135_104 rfl rfl (fun x926 e926 => ?_)
                            cases e926
                            show zL zrx zi _ 135 105 [(3, _), (4, _), (6, _), (5, _), (0, _), (1, _), (2, _)] [] _ _ _
                            refine zSiinc vr_135_105 rfl rfl (fun x927 e927 => ?_)
                            cases e927
                            show zL zrx zi _ 135 108 [(5, _), (3, _), (4, _), (6, _), (0, _), (1, _), (2, _)] [] _ _ _
                            refine zSgo (t := 8) vr_135_108 rfl rfl ?_
                            rw [ofNat_succ]
                            refine zL_pm _ _ _ [(5, _), (4, _), (3, _), (0, _), (1, _), (2, _), (6, _)] _ _ _ _ _ ⟨(List.forall_mem_cons.mpr ⟨List.mem_cons_self, (List.forall_mem_cons.mpr ⟨(List.mem_cons_of_mem _ (List.mem_cons_of_mem _ List.mem_cons_self)), (List.forall_mem_cons.mpr ⟨(List.mem_cons_of_mem _ List.mem_cons_self), (List.forall_mem_cons.mpr ⟨(List.mem_cons_of_mem _ (List.mem_cons_of_mem _ (List.mem_cons_of_mem _ (List.mem_cons_of_mem _ (List.mem_cons_of_mem _ (List.mem_cons_of_mem _ List.mem_cons_self)))))), (List.forall_mem_cons.mpr ⟨(List.mem_cons_of_mem _ (List.mem_cons_of_mem _ (List.mem_cons_of_mem _ List.mem_cons_self))), (List.forall_mem_cons.mpr ⟨(List.mem_cons_of_mem _ (List.mem_cons_of_mem _ (List.mem_cons_of_mem _ (List.mem_cons_of_mem _ List.mem_cons_self)))), (List.forall_mem_cons.mpr ⟨(List.mem_cons_of_mem _ (List.mem_cons_of_mem _ (List.mem_cons_of_mem _ (List.mem_cons_of_mem _ (List.mem_cons_of_mem _ List.mem_cons_self))))), (fun _ h => absurd h List.not_mem_nil)⟩)⟩)⟩)⟩)⟩)⟩)⟩), show ([5, 4, 3, 0, 1, 2, 6] : List Nat).Nodup by decide⟩ (C_cu_loop hS hs hL h0 h40 hq hci n (k + 1) _ _ _ _ (by omega) ?_)
                            first
                              | exact (dM_n (fun z => by have y := z.1; rw [rx, iv_of g881] at y; exact c883 y)).trans hD
                              | exact (dM_n (fun z => by have y := c889; have z2 := z.2; rw [rx] at z2; rw [if_pos z2] at y; exact absurd y (by decide))).trans hD
                              | (refine (dM_y ⟨by rw [rx, iv_of g881]; exact Decidable.not_not.mp c883, by have y := c889; rw [rx]; by_cases z : okP (mR h x) (iv h q 3) (iv h q 2) (iv h q 4) (iv h q 5) (iv h q 6); exact z; rw [if_neg z] at y; exact absurd rfl y⟩).trans ?_; rw [hD, rx]; unfold stM; dsimp only; rw [if_pos (Int32.not_le.mp c895)])
                              | (refine (dM_y ⟨by rw [rx, iv_of g881]; exact Decidable.not_not.mp c883, by have y := c889; rw [rx]; by_cases z : okP (mR h x) (iv h q 3) (iv h q 2) (iv h q 4) (iv h q 5) (iv h q 6); exact z; rw [if_neg z] at y; exact absurd rfl y⟩).trans ?_; rw [hD, rx, iv_of g921]; unfold stM; dsimp only; rw [if_neg (Int32.not_lt.mpr c895), if_pos (Or.inl c899)])
                              | (refine (dM_y ⟨by rw [rx, iv_of g881]; exact Decidable.not_not.mp c883, by have y := c889; rw [rx]; by_cases z : okP (mR h x) (iv h q 3) (iv h q 2) (iv h q 4) (iv h q 5) (iv h q 6); exact z; rw [if_neg z] at y; exact absurd rfl y⟩).trans ?_; rw [hD, rx, iv_of g921]; unfold stM; dsimp only; rw [if_neg (Int32.not_lt.mpr c895), if_pos (Or.inr (by have y := Decidable.not_not.mp c912; have y2 := (iv_of g911).symm.trans (iv_of g921); rw [y2] at y; exact y))])
                              | (refine (dM_y ⟨by rw [rx, iv_of g881]; exact Decidable.not_not.mp c883, by have y := c889; rw [rx]; by_cases z : okP (mR h x) (iv h q 3) (iv h q 2) (iv h q 4) (iv h q 5) (iv h q 6); exact z; rw [if_neg z] at y; exact absurd rfl y⟩).trans ?_; rw [hD, rx, iv_of g911]; unfold stM; dsimp only; rw [if_neg (Int32.not_lt.mpr c895), if_neg (fun z => by rcases z with z | z; exact c899 z; exact c912 z)])
                          · obtain ⟨-, z⟩ := q925
                            cases z
                    · obtain ⟨-, z⟩ := q897
                      cases z
                  · cases e895
                    cases f895
                    have c895 := ndc q895
                    refine zSgo (t := 105) vr_135_65 rfl rfl ?_
                    refine zSiinc vr_135_105 rfl rfl (fun x930 e930 => ?_)
                    cases e930
                    show zL zrx zi _ 135 108 [(5, _), (6, _), (4, _), (3, _), (0, _), (1, _), (2, _)] [] _ _ _
                    refine zSgo (t := 8) vr_135_108 rfl rfl ?_
                    rw [ofNat_succ]
                    refine zL_pm _ _ _ [(5, _), (4, _), (3, _), (0, _), (1, _), (2, _), (6, _)] _ _ _ _ _ ⟨(List.forall_mem_cons.mpr ⟨List.mem_cons_self, (List.forall_mem_cons.mpr ⟨(List.mem_cons_of_mem _ (List.mem_cons_of_mem _ (List.mem_cons_of_mem _ (List.mem_cons_of_mem _ (List.mem_cons_of_mem _ (List.mem_cons_of_mem _ List.mem_cons_self)))))), (List.forall_mem_cons.mpr ⟨(List.mem_cons_of_mem _ List.mem_cons_self), (List.forall_mem_cons.mpr ⟨(List.mem_cons_of_mem _ (List.mem_cons_of_mem _ List.mem_cons_self)), (List.forall_mem_cons.mpr ⟨(List.mem_cons_of_mem _ (List.mem_cons_of_mem _ (List.mem_cons_of_mem _ List.mem_cons_self))), (List.forall_mem_cons.mpr ⟨(List.mem_cons_of_mem _ (List.mem_cons_of_mem _ (List.mem_cons_of_mem _ (List.mem_cons_of_mem _ List.mem_cons_self)))), (List.forall_mem_cons.mpr ⟨(List.mem_cons_of_mem _ (List.mem_cons_of_mem _ (List.mem_cons_of_mem _ (List.mem_cons_of_mem _ (List.mem_cons_of_mem _ List.mem_cons_self))))), (fun _ h => absurd h List.not_mem_nil)⟩)⟩)⟩)⟩)⟩)⟩)⟩), show ([5, 4, 3, 0, 1, 2, 6] : List Nat).Nodup by decide⟩ (C_cu_loop hS hs hL h0 h40 hq hci n (k + 1) _ _ _ _ (by omega) ?_)
                    first
                      | exact (dM_n (fun z => by have y := z.1; rw [rx, iv_of g881] at y; exact c883 y)).trans hD
                      | exact (dM_n (fun z => by have y := c889; have z2 := z.2; rw [rx] at z2; rw [if_pos z2] at y; exact absurd y (by decide))).trans hD
                      | (refine (dM_y ⟨by rw [rx, iv_of g881]; exact Decidable.not_not.mp c883, by have y := c889; rw [rx]; by_cases z : okP (mR h x) (iv h q 3) (iv h q 2) (iv h q 4) (iv h q 5) (iv h q 6); exact z; rw [if_neg z] at y; exact absurd rfl y⟩).trans ?_; rw [hD, rx]; unfold stM; dsimp only; rw [if_pos (Int32.not_le.mp c895)])
                      | (refine (dM_y ⟨by rw [rx, iv_of g881]; exact Decidable.not_not.mp c883, by have y := c889; rw [rx]; by_cases z : okP (mR h x) (iv h q 3) (iv h q 2) (iv h q 4) (iv h q 5) (iv h q 6); exact z; rw [if_neg z] at y; exact absurd rfl y⟩).trans ?_; rw [hD, rx, iv_of g921]; unfold stM; dsimp only; rw [if_neg (Int32.not_lt.mpr c895), if_pos (Or.inl c899)])
                      | (refine (dM_y ⟨by rw [rx, iv_of g881]; exact Decidable.not_not.mp c883, by have y := c889; rw [rx]; by_cases z : okP (mR h x) (iv h q 3) (iv h q 2) (iv h q 4) (iv h q 5) (iv h q 6); exact z; rw [if_neg z] at y; exact absurd rfl y⟩).trans ?_; rw [hD, rx, iv_of g921]; unfold stM; dsimp only; rw [if_neg (Int32.not_lt.mpr c895), if_pos (Or.inr (by have y := Decidable.not_not.mp c912; have y2 := (iv_of g911).symm.trans (iv_of g921); rw [y2] at y; exact y))])
                      | (refine (dM_y ⟨by rw [rx, iv_of g881]; exact Decidable.not_not.mp c883, by have y := c889; rw [rx]; by_cases z : okP (mR h x) (iv h q 3) (iv h q 2) (iv h q 4) (iv h q 5) (iv h q 6); exact z; rw [if_neg z] at y; exact absurd rfl y⟩).trans ?_; rw [hD, rx, iv_of g911]; unfold stM; dsimp only; rw [if_neg (Int32.not_lt.mpr c895), if_neg (fun z => by rcases z with z | z; exact c899 z; exact c912 z)])
                · obtain ⟨-, z⟩ := q893
                  cases z
            · obtain ⟨-, z⟩ := q888
              cases z
        · obtain ⟨-, -, w, z, -⟩ := q877
          cases z
    · obtain ⟨-, z⟩ := q870
      cases z
theorem C_custom (n : Nat) (par : Int32) (q : Nat) (h : List zC) (u : Nat) {cnt : Int32} {el : Nat} (hS : Stc h) (hs : gF h 223 2 = some (.int cnt)) (hL : gF h 223 1 = some (.ref el)) (h0 : 0 ≤ cnt.toInt) (h40 : cnt.toInt ≤ 40) (hq : ∀ k, k < cnt.toNatClampNeg → ∃ x : Nat, gF h el k = some (.ref x) ∧ RI h x ∧ ∃ a b c : Int32, gF h x 3 = some (.int a) ∧ gF h x 4 = some (.int b) ∧ gF h x 6 = some (.int c) ∧ rI 0 63 a ∧ rI 0 63 b) (hci : CI h q) : zL zrx zi n 135 0 [(0, .ref 213), (1, .int par), (2, .ref q)] [] h u (fun o h2 _ => h2 = h ∧ o = .inl (some (.int (cuM (dM h el par (iv h q 3) (iv h q 2) (iv h q 4) (iv h q 5) (iv h q 6)) cnt.toNatClampNeg).1))) := by
  refine zSp0 (pc' := 1) (st' := .int (-1) :: _) vr_135_0 rfl rfl ?_
  refine zSistore (m := 1) (k := 3) vr_135_1 rfl rfl (fun x933 e933 => ?_)
  cases e933
  show zL zrx zi _ 135 2 [(3, _), (0, _), (1, _), (2, _)] [] _ _ _
  refine zSp0 (pc' := 3) (st' := .int (-1) :: _) vr_135_2 rfl rfl ?_
  refine zSistore (m := 2) (k := 4) vr_135_3 rfl rfl (fun x935 e935 => ?_)
  cases e935
  show zL zrx zi _ 135 5 [(4, _), (3, _), (0, _), (1, _), (2, _)] [] _ _ _
  refine zSp0 (pc' := 6) (st' := .int (0) :: _) vr_135_5 rfl rfl ?_
  refine zSistore (m := 2) (k := 5) vr_135_6 rfl rfl (fun x937 e937 => ?_)
  cases e937
  show zL zrx zi _ 135 8 [(5, _), (4, _), (3, _), (0, _), (1, _), (2, _)] [] _ _ _
  refine zL_pm _ _ _ [(5, _), (4, _), (3, _), (0, _), (1, _), (2, _), (6, _)] _ _ _ _ _ ⟨(List.forall_mem_cons.mpr ⟨List.mem_cons_self, (List.forall_mem_cons.mpr ⟨(List.mem_cons_of_mem _ List.mem_cons_self), (List.forall_mem_cons.mpr ⟨(List.mem_cons_of_mem _ (List.mem_cons_of_mem _ List.mem_cons_self)), (List.forall_mem_cons.mpr ⟨(List.mem_cons_of_mem _ (List.mem_cons_of_mem _ (List.mem_cons_of_mem _ List.mem_cons_self))), (List.forall_mem_cons.mpr ⟨(List.mem_cons_of_mem _ (List.mem_cons_of_mem _ (List.mem_cons_of_mem _ (List.mem_cons_of_mem _ List.mem_cons_self)))), (List.forall_mem_cons.mpr ⟨(List.mem_cons_of_mem _ (List.mem_cons_of_mem _ (List.mem_cons_of_mem _ (List.mem_cons_of_mem _ (List.mem_cons_of_mem _ List.mem_cons_self))))), (fun _ h => absurd h List.not_mem_nil)⟩)⟩)⟩)⟩)⟩)⟩), show ([5, 4, 3, 0, 1, 2, 6] : List Nat).Nodup by decide⟩ (C_cu_loop hS hs hL h0 h40 hq hci _ 0 (-1) (-1) .null _ (Nat.zero_le _) rfl)
theorem C_swap (n : Nat) (p a b : Int32) (h : List zC) (u : Nat) (hS : Stc h) : zL zrx zi n 58 0 [(0, .ref 16), (1, .int p), (2, .int a), (3, .int b)] [] h u (fun o h2 _ => match o with
  | .inl v => (iN 6 p ∧ iN 6 a ∧ iN 6 b) ∧ ∃ r, v = some r ∧ wSw h h2 (19 + p.toNatClampNeg) a.toNatClampNeg b.toNatClampNeg r
  | .inr E => hExt h h2 ∧ ((E = 0 ∧ ¬ iN 6 p) ∨ (E = 1 ∧ iN 6 p ∧ ¬ (iN 6 a ∧ iN 6 b)))) := by
  refine zSiload (m := 1) (k := 1) vr_58_0 rfl rfl rfl (fun x938 e938 => ?_)
  cases e938
  refine zSp0 (pc' := 3) (st' := .int (6) :: _) vr_58_1 rfl rfl ?_
  refine zScall vr_58_3 rfl rfl rfl (fun m940 _ => C_num6 _ _ _ _ (m := 6) (by rfl)) (fun v940 h940 u940 q940 => ?_) (fun E940 h940 u940 q940 => ?_)
  · obtain ⟨eh940, rfl, ip⟩ := q940
    replace eh940 := eh940.symm
    subst eh940
    show zL zrx zi _ 58 6 [(0, _), (1, _), (2, _), (3, _)] [] _ _ _
    refine zSiload (m := 1) (k := 2) vr_58_6 rfl rfl rfl (fun x941 e941 => ?_)
    cases e941
    refine zSp0 (pc' := 8) (st' := .int (0) :: _) vr_58_7 rfl rfl ?_
    refine zSp0 (pc' := 9) (st' := .int (5) :: _) vr_58_8 rfl rfl ?_
    refine zScall vr_58_9 rfl rfl rfl (fun m944 _ => C_val _ _ _ _ _ _) (fun v944 h944 u944 q944 => ?_) (fun E944 h944 u944 q944 => ?_)
    · obtain ⟨eh944, rfl, k944⟩ := q944
      replace eh944 := eh944.symm
      subst eh944
      have ia : iN 6 a := ⟨by have := k944.1; have z0 : (0 : Int32).toInt = 0 := rfl; omega, by have := k944.2; have z5 : (5 : Int32).toInt = 5 := rfl; omega⟩
      show zL zrx zi _ 58 12 [(0, _), (1, _), (2, _), (3, _)] [] _ _ _
      refine zSiload (m := 1) (k := 3) vr_58_12 rfl rfl rfl (fun x945 e945 => ?_)
      cases e945
      refine zSp0 (pc' := 14) (st' := .int (0) :: _) vr_58_13 rfl rfl ?_
      refine zSp0 (pc' := 15) (st' := .int (5) :: _) vr_58_14 rfl rfl ?_
      refine zScall vr_58_15 rfl rfl rfl (fun m948 _ => C_val _ _ _ _ _ _) (fun v948 h948 u948 q948 => ?_) (fun E948 h948 u948 q948 => ?_)
      · obtain ⟨eh948, rfl, k948⟩ := q948
        replace eh948 := eh948.symm
        subst eh948
        have ib : iN 6 b := ⟨by have := k948.1; have z0 : (0 : Int32).toInt = 0 := rfl; omega, by have := k948.2; have z5 : (5 : Int32).toInt = 5 := rfl; omega⟩
        show zL zrx zi _ 58 18 [(0, _), (1, _), (2, _), (3, _)] [] _ _ _
        have hp := iN_lt (m := 6) ip
        have ha := iN_lt (m := 6) ia
        have hb := iN_lt (m := 6) ib
        refine zSaload (m := 1) (k := 0) vr_58_18 rfl rfl rfl ?_
        refine zLget vr_58_19 rfl (fun p950 w950 e950 t950 g950 => ?_)
        cases e950
        first | (rw [(st_16_5 hS)] at g950; cases g950) | (rw [(st_row hS hp)] at g950; cases g950) | skip
        refine zSiload (m := 1) (k := 1) vr_58_22 rfl rfl rfl (fun x951 e951 => ?_)
        cases e951
        refine zLaald vr_58_23 rfl (fun p952 x952 w952 e952 f952 c952 t952 g952 => ?_)
        cases e952
        cases f952
        first | (rw [(st_16_5 hS)] at g952; cases g952) | (rw [(st_row hS hp)] at g952; cases g952) | skip
        refine zSiload (m := 1) (k := 2) vr_58_24 rfl rfl rfl (fun x953 e953 => ?_)
        cases e953
        refine zLiald vr_58_25 rfl (fun p954 x954 w954 e954 f954 c954 t954 g954 => ?_)
        cases e954
        cases f954
        first | (rw [(st_16_5 hS)] at g954; cases g954) | (rw [(st_row hS hp)] at g954; cases g954) | skip
        have w1 := g954
        refine zSistore (m := 2) (k := 4) vr_58_26 rfl rfl (fun x955 e955 => ?_)
        cases e955
        show zL zrx zi _ 58 28 [(4, _), (0, _), (1, _), (2, _), (3, _)] [] _ _ _
        refine zSaload (m := 1) (k := 0) vr_58_28 rfl rfl rfl ?_
        refine zLget vr_58_29 rfl (fun p957 w957 e957 t957 g957 => ?_)
        cases e957
        first | (rw [(st_16_5 hS)] at g957; cases g957) | (rw [(st_row hS hp)] at g957; cases g957) | skip
        refine zSiload (m := 1) (k := 1) vr_58_32 rfl rfl rfl (fun x958 e958 => ?_)
        cases e958
        refine zLaald vr_58_33 rfl (fun p959 x959 w959 e959 f959 c959 t959 g959 => ?_)
        cases e959
        cases f959
        first | (rw [(st_16_5 hS)] at g959; cases g959) | (rw [(st_row hS hp)] at g959; cases g959) | skip
        refine zSiload (m := 1) (k := 2) vr_58_34 rfl rfl rfl (fun x960 e960 => ?_)
        cases e960
        refine zSaload (m := 1) (k := 0) vr_58_35 rfl rfl rfl ?_
        refine zLget vr_58_36 rfl (fun p962 w962 e962 t962 g962 => ?_)
        cases e962
        first | (rw [(st_16_5 hS)] at g962; cases g962) | (rw [(st_row hS hp)] at g962; cases g962) | skip
        refine zSiload (m := 1) (k := 1) vr_58_39 rfl rfl rfl (fun x963 e963 => ?_)
        cases e963
        refine zLaald vr_58_40 rfl (fun p964 x964 w964 e964 f964 c964 t964 g964 => ?_)
        cases e964
        cases f964
        first | (rw [(st_16_5 hS)] at g964; cases g964) | (rw [(st_row hS hp)] at g964; cases g964) | skip
        refine zSiload (m := 1) (k := 3) vr_58_41 rfl rfl rfl (fun x965 e965 => ?_)
        cases e965
        refine zLiald vr_58_42 rfl (fun p966 x966 w966 e966 f966 c966 t966 g966 => ?_)
        cases e966
        cases f966
        first | (rw [(st_16_5 hS)] at g966; cases g966) | (rw [(st_row hS hp)] at g966; cases g966) | skip
        have w2 := g966
        refine zLiast vr_58_43 rfl (fun p967 x967 z967 k967 e967 f967 d967 c967 t967 g967 => ?_)
        cases e967
        cases f967
        cases d967
        have hS1 := hS.row hp g967
        have p1 := g967
        refine zSaload (m := 1) (k := 0) vr_58_44 rfl rfl rfl ?_
        refine zLget vr_58_45 rfl (fun p969 w969 e969 t969 g969 => ?_)
        cases e969
        first | (rw [(st_16_5 hS1)] at g969; cases g969) | (rw [(st_row hS1 hp)] at g969; cases g969) | skip
        refine zSiload (m := 1) (k := 1) vr_58_48 rfl rfl rfl (fun x970 e970 => ?_)
        cases e970
        refine zLaald vr_58_49 rfl (fun p971 x971 w971 e971 f971 c971 t971 g971 => ?_)
        cases e971
        cases f971
        first | (rw [(st_16_5 hS1)] at g971; cases g971) | (rw [(st_row hS1 hp)] at g971; cases g971) | skip
        refine zSiload (m := 1) (k := 3) vr_58_50 rfl rfl rfl (fun x972 e972 => ?_)
        cases e972
        refine zSiload (m := 2) (k := 4) vr_58_51 rfl rfl rfl (fun x973 e973 => ?_)
        cases e973
        refine zLiast vr_58_53 rfl (fun p974 x974 z974 k974 e974 f974 d974 c974 t974 g974 => ?_)
        cases e974
        cases f974
        cases d974
        have hS2 := hS1.row hp g974
        have p2 := g974
        refine zSaload (m := 1) (k := 0) vr_58_54 rfl rfl rfl ?_
        refine zLget vr_58_55 rfl (fun p976 w976 e976 t976 g976 => ?_)
        cases e976
        first | (rw [(st_16_5 hS2)] at g976; cases g976) | (rw [(st_row hS2 hp)] at g976; cases g976) | skip
        refine zSiload (m := 1) (k := 1) vr_58_58 rfl rfl rfl (fun x977 e977 => ?_)
        cases e977
        refine zLaald vr_58_59 rfl (fun p978 x978 w978 e978 f978 c978 t978 g978 => ?_)
        cases e978
        cases f978
        first | (rw [(st_16_5 hS2)] at g978; cases g978) | (rw [(st_row hS2 hp)] at g978; cases g978) | skip
        refine zSiload (m := 1) (k := 2) vr_58_60 rfl rfl rfl (fun x979 e979 => ?_)
        cases e979
        refine zLiald vr_58_61 rfl (fun p980 x980 w980 e980 f980 c980 t980 g980 => ?_)
        cases e980
        cases f980
        first | (rw [(st_16_5 hS2)] at g980; cases g980) | (rw [(st_row hS2 hp)] at g980; cases g980) | skip
        have w3 := g980
        refine zLiret vr_58_62 rfl (fun x981 e981 => ?_)
        cases e981
        exact ⟨⟨ip, ia, ib⟩, _, rfl, _, _, _, _, w1, w2, p1, p2, w3, rfl⟩
      · obtain ⟨rfl, q1, q2⟩ := q948
        rw [zCat_no vh_58_15_1]
        have z5 : (5 : Int32).toInt = 5 := rfl
        have z0 : (0 : Int32).toInt = 0 := rfl
        refine ⟨q2, Or.inr ⟨rfl, ip, fun z => q1 ?_⟩⟩
        obtain ⟨⟨y1, y2⟩, y3, y4⟩ := z
        constructor <;> omega
    · obtain ⟨rfl, q1, q2⟩ := q944
      rw [zCat_no vh_58_9_1]
      have z5 : (5 : Int32).toInt = 5 := rfl
      have z0 : (0 : Int32).toInt = 0 := rfl
      refine ⟨q2, Or.inr ⟨rfl, ip, fun z => q1 ?_⟩⟩
      obtain ⟨⟨y1, y2⟩, y3, y4⟩ := z
      constructor <;> omega
  · obtain ⟨rfl, q1, q2⟩ := q940
    rw [zCat_no vh_58_3_0]
    exact ⟨q2, Or.inl ⟨rfl, q1⟩⟩
abbrev Q_Lswap (p a b : Int32) (h : List zC) : zK := fun o h2 _ => ∃ k : Int32, o = .inl (some (.int k)) ∧
  ((k = 0 ∧ (iN 6 p ∧ iN 6 a ∧ iN 6 b) ∧ ∃ (r : Int32) (h1 : List zC), wSw h h1 (19 + p.toNatClampNeg) a.toNatClampNeg b.toNatClampNeg (.int r) ∧ hPut h1 h2 238 0 (.long r.toInt64)) ∨ (k = 1 ∧ ¬ iN 6 p ∧ hExt h h2) ∨ (k = 2 ∧ iN 6 p ∧ ¬ (iN 6 a ∧ iN 6 b) ∧ hExt h h2))
theorem C_Lswap (n : Nat) (p a b : Int32) (h : List zC) (u : Nat) (hS : Stc h) : zL zrx zi n 209 0 [(0, .ref 16), (1, .int p), (2, .int a), (3, .int b), (4, .ref 238)] [] h u (Q_Lswap p a b h) := by
  refine zSaload (m := 2) (k := 4) vr_209_0 rfl rfl rfl ?_
  refine zSaload (m := 1) (k := 0) vr_209_2 rfl rfl rfl ?_
  refine zSiload (m := 1) (k := 1) vr_209_3 rfl rfl rfl (fun x984 e984 => ?_)
  cases e984
  refine zSiload (m := 1) (k := 2) vr_209_4 rfl rfl rfl (fun x985 e985 => ?_)
  cases e985
  refine zSiload (m := 1) (k := 3) vr_209_5 rfl rfl rfl (fun x986 e986 => ?_)
  cases e986
  refine zScall vr_209_6 rfl rfl rfl (fun m987 _ => C_swap _ _ _ _ _ _ hS) (fun v987 h987 u987 q987 => ?_) (fun E987 h987 u987 q987 => ?_)
  · obtain ⟨k1, r987, rfl, k2⟩ := q987
    show zL zrx zi _ 209 9 [(0, _), (1, _), (2, _), (3, _), (4, _)] [_, _] _ _ _
    refine zS1 (f := fun x => .long x.toInt64) vr_209_9 rfl rfl (fun x988 e988 => ?_)
    cases e988
    refine zLput vr_209_10 rfl (fun p989 k989 e989 t989 g989 => ?_)
    cases e989
    have gP := g989
    refine zSgo (t := 24) vr_209_13 rfl rfl ?_
    refine zSp0 (pc' := 25) (st' := .int (0) :: _) vr_209_24 rfl rfl ?_
    refine zLiret vr_209_25 rfl (fun x992 e992 => ?_)
    cases e992
    exact ⟨_, rfl, Or.inl ⟨rfl, k1, _, _, k2, gP⟩⟩
  · obtain ⟨q1, ⟨rfl, z⟩ | ⟨rfl, z⟩⟩ := q987
    · rw [zCat_hit (k := 5) (m := 2) vh_209_6_0 vr_209_16 rfl (by decide)]
      show zL zrx zi _ 209 18 [(0, _), (1, _), (2, _), (3, _), (4, _)] [] _ _ _
      refine zSp0 (pc' := 19) (st' := .int (1) :: _) vr_209_18 rfl rfl ?_
      refine zLiret vr_209_19 rfl (fun x994 e994 => ?_)
      cases e994
      exact ⟨_, rfl, Or.inr (Or.inl ⟨rfl, z, q1⟩)⟩
    · rw [zCat_hit (k := 5) (m := 2) vh_209_6_1 vr_209_20 rfl (by decide)]
      show zL zrx zi _ 209 22 [(0, _), (1, _), (2, _), (3, _), (4, _)] [] _ _ _
      refine zSp0 (pc' := 23) (st' := .int (2) :: _) vr_209_22 rfl rfl ?_
      refine zLiret vr_209_23 rfl (fun x996 e996 => ?_)
      cases e996
      exact ⟨_, rfl, Or.inr (Or.inr ⟨rfl, z.1, z.2, q1⟩)⟩
abbrev Q_mswap (p a b : Int32) (h : List zC) : zK := fun o h2 _ => ∃ (r : Int32) (h0 : List zC), o = .inl (some (.int r)) ∧ hPut h h0 213 0 (.int 0) ∧
  (((iN 6 p ∧ iN 6 a ∧ iN 6 b) ∧ wSw h0 h2 (216 + p.toNatClampNeg) a.toNatClampNeg b.toNatClampNeg (.int r)) ∨ (¬ iN 6 p ∧ hPut h0 h2 213 0 (.int 1)) ∨ (iN 6 p ∧ ¬ (iN 6 a ∧ iN 6 b) ∧ hPut h0 h2 213 0 (.int 2)))
theorem C_mswap (n : Nat) (p a b : Int32) (h : List zC) (u : Nat) (hS : Stc h) : zL zrx zi n 151 0 [(0, .ref 213), (1, .int p), (2, .int a), (3, .int b)] [] h u (Q_mswap p a b h) := by
  refine zSaload (m := 1) (k := 0) vr_151_0 rfl rfl rfl ?_
  refine zSp0 (pc' := 2) (st' := .int (0) :: _) vr_151_1 rfl rfl ?_
  refine zLput vr_151_2 rfl (fun p999 k999 e999 t999 g999 => ?_)
  cases e999
  have t0 := g999
  have hS0 := hS.thr g999
  refine zSiload (m := 1) (k := 1) vr_151_5 rfl rfl rfl (fun x1000 e1000 => ?_)
  cases e1000
  refine zSp0 (pc' := 7) (st' := .int (0) :: _) vr_151_6 rfl rfl ?_
  refine zSp0 (pc' := 8) (st' := .int (5) :: _) vr_151_7 rfl rfl ?_
  refine zScall vr_151_8 rfl rfl rfl (fun m1003 _ => C_in _ _ _ _ _ _) (fun v1003 h1003 u1003 q1003 => ?_) (fun E1003 h1003 u1003 q1003 => ?_)
  · obtain ⟨eh1003, z1003⟩ := q1003
    replace eh1003 := eh1003.symm
    subst eh1003
    cases z1003
    show zL zrx zi _ 151 11 [(0, _), (1, _), (2, _), (3, _)] [_] _ _ _
    refine zSb1 (f := fun x => decide (¬ x = 0)) (off := 9) (t := 20) vr_151_11 rfl rfl rfl (fun x1004 e1004 q1004 => ?_) (fun x1004 e1004 q1004 => ?_)
    · cases e1004
      refine zSiload (m := 1) (k := 2) vr_151_20 rfl rfl rfl (fun x1005 e1005 => ?_)
      cases e1005
      refine zSp0 (pc' := 22) (st' := .int (0) :: _) vr_151_21 rfl rfl ?_
      refine zSp0 (pc' := 23) (st' := .int (5) :: _) vr_151_22 rfl rfl ?_
      refine zScall vr_151_23 rfl rfl rfl (fun m1008 _ => C_in _ _ _ _ _ _) (fun v1008 h1008 u1008 q1008 => ?_) (fun E1008 h1008 u1008 q1008 => ?_)
      · obtain ⟨eh1008, z1008⟩ := q1008
        replace eh1008 := eh1008.symm
        subst eh1008
        cases z1008
        show zL zrx zi _ 151 26 [(0, _), (1, _), (2, _), (3, _)] [_] _ _ _
        refine zSb1 (f := fun x => decide (x = 0)) (off := 12) (t := 38) vr_151_26 rfl rfl rfl (fun x1009 e1009 q1009 => ?_) (fun x1009 e1009 q1009 => ?_)
        · cases e1009
          refine zSaload (m := 1) (k := 0) vr_151_38 rfl rfl rfl ?_
          refine zSp0 (pc' := 40) (st' := .int (2) :: _) vr_151_39 rfl rfl ?_
          refine zScall vr_151_40 rfl rfl rfl (fun m1012 _ => C_no _ _ _ _ _) (fun v1012 h1012 u1012 q1012 => ?_) (fun E1012 h1012 u1012 q1012 => ?_)
          · obtain ⟨gn1012, z1012⟩ := q1012
            cases z1012
            show zL zrx zi _ 151 43 [(0, _), (1, _), (2, _), (3, _)] [_] _ _ _
            refine zLiret vr_151_43 rfl (fun x1013 e1013 => ?_)
            cases e1013
            first
              | exact ⟨_, _, rfl, t0, Or.inr (Or.inr ⟨in6_y (of_decide_eq_true q1004), fun z => in6_n (of_decide_eq_true q1009) z.1, gn1012⟩)⟩
              | exact ⟨_, _, rfl, t0, Or.inr (Or.inr ⟨in6_y (of_decide_eq_true q1004), fun z => in6_n (by simpa using q961) z.2, gn1012⟩)⟩
          · obtain ⟨-, z⟩ := q1012
            cases z
        · cases e1009
          refine zSiload (m := 1) (k := 3) vr_151_29 rfl rfl rfl (fun x1014 e1014 => ?_)
          cases e1014
          refine zSp0 (pc' := 31) (st' := .int (0) :: _) vr_151_30 rfl rfl ?_
          refine zSp0 (pc' := 32) (st' := .int (5) :: _) vr_151_31 rfl rfl ?_
          refine zScall vr_151_32 rfl rfl rfl (fun m1017 _ => C_in _ _ _ _ _ _) (fun v1017 h1017 u1017 q1017 => ?_) (fun E1017 h1017 u1017 q1017 => ?_)
          · obtain ⟨eh1017, z1017⟩ := q1017
            replace eh1017 := eh1017.symm
            subst eh1017
            cases z1017
            show zL zrx zi _ 151 35 [(0, _), (1, _), (2, _), (3, _)] [_] _ _ _
            refine zSb1 (f := fun x => decide (¬ x = 0)) (off := 9) (t := 44) vr_151_35 rfl rfl rfl (fun x1018 e1018 q1018 => ?_) (fun x1018 e1018 q1018 => ?_)
            · cases e1018
              have ip := in6_y (of_decide_eq_true q1004)
              have ia := in6_y (x := a) (by simpa using q1009)
              have ib := in6_y (of_decide_eq_true q1018)
              have hp := iN_lt (m := 6) ip
              have ha := iN_lt (m := 6) ia
              have hb := iN_lt (m := 6) ib
              refine zSaload (m := 1) (k := 0) vr_151_44 rfl rfl rfl ?_
              refine zLget vr_151_45 rfl (fun p1020 w1020 e1020 t1020 g1020 => ?_)
              cases e1020
              first | (rw [(st_213_5 hS0)] at g1020; cases g1020) | (rw [(st_mrow hS0 hp)] at g1020; cases g1020) | skip
              refine zSiload (m := 1) (k := 1) vr_151_48 rfl rfl rfl (fun x1021 e1021 => ?_)
              cases e1021
              refine zLaald vr_151_49 rfl (fun p1022 x1022 w1022 e1022 f1022 c1022 t1022 g1022 => ?_)
              cases e1022
              cases f1022
              first | (rw [(st_213_5 hS0)] at g1022; cases g1022) | (rw [(st_mrow hS0 hp)] at g1022; cases g1022) | skip
              refine zSiload (m := 1) (k := 2) vr_151_50 rfl rfl rfl (fun x1023 e1023 => ?_)
              cases e1023
              refine zLiald vr_151_51 rfl (fun p1024 x1024 w1024 e1024 f1024 c1024 t1024 g1024 => ?_)
              cases e1024
              cases f1024
              first | (rw [(st_213_5 hS0)] at g1024; cases g1024) | (rw [(st_mrow hS0 hp)] at g1024; cases g1024) | skip
              have w1 := g1024
              refine zSistore (m := 2) (k := 4) vr_151_52 rfl rfl (fun x1025 e1025 => ?_)
              cases e1025
              show zL zrx zi _ 151 54 [(4, _), (0, _), (1, _), (2, _), (3, _)] [] _ _ _
              refine zSaload (m := 1) (k := 0) vr_151_54 rfl rfl rfl ?_
              refine zLget vr_151_55 rfl (fun p1027 w1027 e1027 t1027 g1027 => ?_)
              cases e1027
              first | (rw [(st_213_5 hS0)] at g1027; cases g1027) | (rw [(st_mrow hS0 hp)] at g1027; cases g1027) | skip
              refine zSiload (m := 1) (k := 1) vr_151_58 rfl rfl rfl (fun x1028 e1028 => ?_)
              cases e1028
              refine zLaald vr_151_59 rfl (fun p1029 x1029 w1029 e1029 f1029 c1029 t1029 g1029 => ?_)
              cases e1029
              cases f1029
              first | (rw [(st_213_5 hS0)] at g1029; cases g1029) | (rw [(st_mrow hS0 hp)] at g1029; cases g1029) | skip
              refine zSiload (m := 1) (k := 2) vr_151_60 rfl rfl rfl (fun x1030 e1030 => ?_)
              cases e1030
              refine zSaload (m := 1) (k := 0) vr_151_61 rfl rfl rfl ?_
              refine zLget vr_151_62 rfl (fun p1032 w1032 e1032 t1032 g1032 => ?_)
              cases e1032
              first | (rw [(st_213_5 hS0)] at g1032; cases g1032) | (rw [(st_mrow hS0 hp)] at g1032; cases g1032) | skip
              refine zSiload (m := 1) (k := 1) vr_151_65 rfl rfl rfl (fun x1033 e1033 => ?_)
              cases e1033
              refine zLaald vr_151_66 rfl (fun p1034 x1034 w1034 e1034 f1034 c1034 t1034 g1034 => ?_)
              cases e1034
              cases f1034
              first | (rw [(st_213_5 hS0)] at g1034; cases g1034) | (rw [(st_mrow hS0 hp)] at g1034; cases g1034) | skip
              refine zSiload (m := 1) (k := 3) vr_151_67 rfl rfl rfl (fun x1035 e1035 => ?_)
              cases e1035
              refine zLiald vr_151_68 rfl (fun p1036 x1036 w1036 e1036 f1036 c1036 t1036 g1036 => ?_)
              cases e1036
              cases f1036
              first | (rw [(st_213_5 hS0)] at g1036; cases g1036) | (rw [(st_mrow hS0 hp)] at g1036; cases g1036) | skip
              have w2 := g1036
              refine zLiast vr_151_69 rfl (fun p1037 x1037 z1037 k1037 e1037 f1037 d1037 c1037 t1037 g1037 => ?_)
              cases e1037
              cases f1037
              cases d1037
              have hS1 := hS0.mrow hp g1037
              have p1 := g1037
              refine zSaload (m := 1) (k := 0) vr_151_70 rfl rfl rfl ?_
              refine zLget vr_151_71 rfl (fun p1039 w1039 e1039 t1039 g1039 => ?_)
              cases e1039
              first | (rw [(st_213_5 hS1)] at g1039; cases g1039) | (rw [(st_mrow hS1 hp)] at g1039; cases g1039) | skip
              refine zSiload (m := 1) (k := 1) vr_151_74 rfl rfl rfl (fun x1040 e1040 => ?_)
              cases e1040
              refine zLaald vr_151_75 rfl (fun p1041 x1041 w1041 e1041 f1041 c1041 t1041 g1041 => ?_)
              cases e1041
              cases f1041
              first | (rw [(st_213_5 hS1)] at g1041; cases g1041) | (rw [(st_mrow hS1 hp)] at g1041; cases g1041) | skip
              refine zSiload (m := 1) (k := 3) vr_151_76 rfl rfl rfl (fun x1042 e1042 => ?_)
              cases e1042
              refine zSiload (m := 2) (k := 4) vr_151_77 rfl rfl rfl (fun x1043 e1043 => ?_)
              cases e1043
              refine zLiast vr_151_79 rfl (fun p1044 x1044 z1044 k1044 e1044 f1044 d1044 c1044 t1044 g1044 => ?_)
              cases e1044
              cases f1044
              cases d1044
              have hS2 := hS1.mrow hp g1044
              have p2 := g1044
              refine zSaload (m := 1) (k := 0) vr_151_80 rfl rfl rfl ?_
              refine zLget vr_151_81 rfl (fun p1046 w1046 e1046 t1046 g1046 => ?_)
              cases e1046
              first | (rw [(st_213_5 hS2)] at g1046; cases g1046) | (rw [(st_mrow hS2 hp)] at g1046; cases g1046) | skip
              refine zSiload (m := 1) (k := 1) vr_151_84 rfl rfl rfl (fun x1047 e1047 => ?_)
              cases e1047
              refine zLaald vr_151_85 rfl (fun p1048 x1048 w1048 e1048 f1048 c1048 t1048 g1048 => ?_)
              cases e1048
              cases f1048
              first | (rw [(st_213_5 hS2)] at g1048; cases g1048) | (rw [(st_mrow hS2 hp)] at g1048; cases g1048) | skip
              refine zSiload (m := 1) (k := 2) vr_151_86 rfl rfl rfl (fun x1049 e1049 => ?_)
              cases e1049
              refine zLiald vr_151_87 rfl (fun p1050 x1050 w1050 e1050 f1050 c1050 t1050 g1050 => ?_)
              cases e1050
              cases f1050
              first | (rw [(st_213_5 hS2)] at g1050; cases g1050) | (rw [(st_mrow hS2 hp)] at g1050; cases g1050) | skip
              have w3 := g1050
              refine zLiret vr_151_88 rfl (fun x1051 e1051 => ?_)
              cases e1051
              exact ⟨_, _, rfl, t0, Or.inl ⟨⟨ip, ia, ib⟩, _, _, _, _, w1, w2, p1, p2, w3, rfl⟩⟩
            · cases e1018
              refine zSaload (m := 1) (k := 0) vr_151_38 rfl rfl rfl ?_
              refine zSp0 (pc' := 40) (st' := .int (2) :: _) vr_151_39 rfl rfl ?_
              refine zScall vr_151_40 rfl rfl rfl (fun m1054 _ => C_no _ _ _ _ _) (fun v1054 h1054 u1054 q1054 => ?_) (fun E1054 h1054 u1054 q1054 => ?_)
              · obtain ⟨gn1054, z1054⟩ := q1054
                cases z1054
                show zL zrx zi _ 151 43 [(0, _), (1, _), (2, _), (3, _)] [_] _ _ _
                refine zLiret vr_151_43 rfl (fun x1055 e1055 => ?_)
                cases e1055
                first
                  | exact ⟨_, _, rfl, t0, Or.inr (Or.inr ⟨in6_y (of_decide_eq_true q1004), fun z => in6_n (of_decide_eq_true q1009) z.1, gn1054⟩)⟩
                  | exact ⟨_, _, rfl, t0, Or.inr (Or.inr ⟨in6_y (of_decide_eq_true q1004), fun z => in6_n (by simpa using q1018) z.2, gn1054⟩)⟩
              · obtain ⟨-, z⟩ := q1054
                cases z
          · obtain ⟨-, z⟩ := q1017
            cases z
      · obtain ⟨-, z⟩ := q1008
        cases z
    · cases e1004
      refine zSaload (m := 1) (k := 0) vr_151_14 rfl rfl rfl ?_
      refine zSp0 (pc' := 16) (st' := .int (1) :: _) vr_151_15 rfl rfl ?_
      refine zScall vr_151_16 rfl rfl rfl (fun m1058 _ => C_no _ _ _ _ _) (fun v1058 h1058 u1058 q1058 => ?_) (fun E1058 h1058 u1058 q1058 => ?_)
      · obtain ⟨gn1058, z1058⟩ := q1058
        cases z1058
        show zL zrx zi _ 151 19 [(0, _), (1, _), (2, _), (3, _)] [_] _ _ _
        refine zLiret vr_151_19 rfl (fun x1059 e1059 => ?_)
        cases e1059
        exact ⟨_, _, rfl, t0, Or.inr (Or.inl ⟨in6_n (by simpa using q1004), gn1058⟩)⟩
      · obtain ⟨-, z⟩ := q1058
        cases z
  · obtain ⟨-, z⟩ := q1003
    cases z
theorem C_means (n : Nat) (p a : Int32) (h : List zC) (u : Nat) (hS : Stc h) : zL zrx zi n 77 0 [(0, .ref 16), (1, .int p), (2, .int a)] [] h u (fun o h2 _ => match o with
  | .inl v => h2 = h ∧ (iN 6 p ∧ iN 6 a) ∧ ∃ x : Int32, v = some (.int x) ∧ gF h (19 + p.toNatClampNeg) a.toNatClampNeg = some (.int x)
  | .inr E => hExt h h2 ∧ E = 0 ∧ ¬ (iN 6 p ∧ iN 6 a)) := by
  refine zSiload (m := 1) (k := 1) vr_77_0 rfl rfl rfl (fun x1060 e1060 => ?_)
  cases e1060
  refine zSp0 (pc' := 3) (st' := .int (6) :: _) vr_77_1 rfl rfl ?_
  refine zScall vr_77_3 rfl rfl rfl (fun m1062 _ => C_num6 _ _ _ _ (m := 6) (by rfl)) (fun v1062 h1062 u1062 q1062 => ?_) (fun E1062 h1062 u1062 q1062 => ?_)
  · obtain ⟨eh1062, rfl, ip⟩ := q1062
    replace eh1062 := eh1062.symm
    subst eh1062
    show zL zrx zi _ 77 6 [(0, _), (1, _), (2, _)] [] _ _ _
    refine zSiload (m := 1) (k := 2) vr_77_6 rfl rfl rfl (fun x1063 e1063 => ?_)
    cases e1063
    refine zSp0 (pc' := 9) (st' := .int (6) :: _) vr_77_7 rfl rfl ?_
    refine zScall vr_77_9 rfl rfl rfl (fun m1065 _ => C_num6 _ _ _ _ (m := 6) (by rfl)) (fun v1065 h1065 u1065 q1065 => ?_) (fun E1065 h1065 u1065 q1065 => ?_)
    · obtain ⟨eh1065, rfl, ia⟩ := q1065
      replace eh1065 := eh1065.symm
      subst eh1065
      show zL zrx zi _ 77 12 [(0, _), (1, _), (2, _)] [] _ _ _
      have hp := iN_lt (m := 6) ip
      have ha := iN_lt (m := 6) ia
      refine zSaload (m := 1) (k := 0) vr_77_12 rfl rfl rfl ?_
      refine zLget vr_77_13 rfl (fun p1067 w1067 e1067 t1067 g1067 => ?_)
      cases e1067
      first | (rw [(st_16_5 hS)] at g1067; cases g1067) | (rw [(st_row hS hp)] at g1067; cases g1067) | skip
      refine zSiload (m := 1) (k := 1) vr_77_16 rfl rfl rfl (fun x1068 e1068 => ?_)
      cases e1068
      refine zLaald vr_77_17 rfl (fun p1069 x1069 w1069 e1069 f1069 c1069 t1069 g1069 => ?_)
      cases e1069
      cases f1069
      first | (rw [(st_16_5 hS)] at g1069; cases g1069) | (rw [(st_row hS hp)] at g1069; cases g1069) | skip
      refine zSiload (m := 1) (k := 2) vr_77_18 rfl rfl rfl (fun x1070 e1070 => ?_)
      cases e1070
      refine zLiald vr_77_19 rfl (fun p1071 x1071 w1071 e1071 f1071 c1071 t1071 g1071 => ?_)
      cases e1071
      cases f1071
      first | (rw [(st_16_5 hS)] at g1071; cases g1071) | (rw [(st_row hS hp)] at g1071; cases g1071) | skip
      have w1 := g1071
      refine zLiret vr_77_20 rfl (fun x1072 e1072 => ?_)
      cases e1072
      exact ⟨rfl, ⟨ip, ia⟩, _, rfl, w1⟩
    · obtain ⟨rfl, q1, q2⟩ := q1065
      rw [zCat_no vh_77_9_0]
      exact ⟨q2, rfl, fun z => q1 z.2⟩
  · obtain ⟨rfl, q1, q2⟩ := q1062
    rw [zCat_no vh_77_3_0]
    exact ⟨q2, rfl, fun z => q1 z.1⟩
abbrev Q_Lmeans (p a : Int32) (h : List zC) : zK := fun o h2 _ => ∃ k : Int32, o = .inl (some (.int k)) ∧
  ((k = 0 ∧ (iN 6 p ∧ iN 6 a) ∧ ∃ r : Int32, gF h (19 + p.toNatClampNeg) a.toNatClampNeg = some (.int r) ∧ hPut h h2 238 0 (.long r.toInt64)) ∨ (k = 1 ∧ ¬ (iN 6 p ∧ iN 6 a) ∧ hExt h h2))
theorem C_Lmeans (n : Nat) (p a : Int32) (h : List zC) (u : Nat) (hS : Stc h) : zL zrx zi n 227 0 [(0, .ref 16), (1, .int p), (2, .int a), (3, .ref 238)] [] h u (Q_Lmeans p a h) := by
  refine zSaload (m := 1) (k := 3) vr_227_0 rfl rfl rfl ?_
  refine zSaload (m := 1) (k := 0) vr_227_1 rfl rfl rfl ?_
  refine zSiload (m := 1) (k := 1) vr_227_2 rfl rfl rfl (fun x1075 e1075 => ?_)
  cases e1075
  refine zSiload (m := 1) (k := 2) vr_227_3 rfl rfl rfl (fun x1076 e1076 => ?_)
  cases e1076
  refine zScall vr_227_4 rfl rfl rfl (fun m1077 _ => C_means _ _ _ _ _ hS) (fun v1077 h1077 u1077 q1077 => ?_) (fun E1077 h1077 u1077 q1077 => ?_)
  · obtain ⟨eh1077, k1, r1077, rfl, k2⟩ := q1077
    replace eh1077 := eh1077.symm
    subst eh1077
    show zL zrx zi _ 227 7 [(0, _), (1, _), (2, _), (3, _)] [_, _] _ _ _
    refine zS1 (f := fun x => .long x.toInt64) vr_227_7 rfl rfl (fun x1078 e1078 => ?_)
    cases e1078
    refine zLput vr_227_8 rfl (fun p1079 k1079 e1079 t1079 g1079 => ?_)
    cases e1079
    have gP := g1079
    refine zSgo (t := 18) vr_227_11 rfl rfl ?_
    refine zSp0 (pc' := 19) (st' := .int (0) :: _) vr_227_18 rfl rfl ?_
    refine zLiret vr_227_19 rfl (fun x1082 e1082 => ?_)
    cases e1082
    exact ⟨_, rfl, Or.inl ⟨rfl, k1, _, k2, gP⟩⟩
  · obtain ⟨q1, rfl, z⟩ := q1077
    rw [zCat_hit (k := 4) (m := 2) vh_227_4_0 vr_227_14 rfl (by decide)]
    show zL zrx zi _ 227 16 [(0, _), (1, _), (2, _), (3, _)] [] _ _ _
    refine zSp0 (pc' := 17) (st' := .int (1) :: _) vr_227_16 rfl rfl ?_
    refine zLiret vr_227_17 rfl (fun x1084 e1084 => ?_)
    cases e1084
    exact ⟨_, rfl, Or.inr ⟨rfl, z, q1⟩⟩
abbrev Q_mmeans (p a : Int32) (h : List zC) : zK := fun o h2 _ => ∃ (r : Int32) (h0 : List zC), o = .inl (some (.int r)) ∧ hPut h h0 213 0 (.int 0) ∧
  (((iN 6 p ∧ iN 6 a) ∧ h2 = h0 ∧ gF h0 (216 + p.toNatClampNeg) a.toNatClampNeg = some (.int r)) ∨ (¬ (iN 6 p ∧ iN 6 a) ∧ hPut h0 h2 213 0 (.int 1)))
theorem C_mmeans (n : Nat) (p a : Int32) (h : List zC) (u : Nat) (hS : Stc h) : zL zrx zi n 178 0 [(0, .ref 213), (1, .int p), (2, .int a)] [] h u (Q_mmeans p a h) := by
  refine zSaload (m := 1) (k := 0) vr_178_0 rfl rfl rfl ?_
  refine zSp0 (pc' := 2) (st' := .int (0) :: _) vr_178_1 rfl rfl ?_
  refine zLput vr_178_2 rfl (fun p1087 k1087 e1087 t1087 g1087 => ?_)
  cases e1087
  have t0 := g1087
  have hS0 := hS.thr g1087
  refine zSiload (m := 1) (k := 1) vr_178_5 rfl rfl rfl (fun x1088 e1088 => ?_)
  cases e1088
  refine zSp0 (pc' := 7) (st' := .int (0) :: _) vr_178_6 rfl rfl ?_
  refine zSp0 (pc' := 8) (st' := .int (5) :: _) vr_178_7 rfl rfl ?_
  refine zScall vr_178_8 rfl rfl rfl (fun m1091 _ => C_in _ _ _ _ _ _) (fun v1091 h1091 u1091 q1091 => ?_) (fun E1091 h1091 u1091 q1091 => ?_)
  · obtain ⟨eh1091, z1091⟩ := q1091
    replace eh1091 := eh1091.symm
    subst eh1091
    cases z1091
    show zL zrx zi _ 178 11 [(0, _), (1, _), (2, _)] [_] _ _ _
    refine zSb1 (f := fun x => decide (x = 0)) (off := 12) (t := 23) vr_178_11 rfl rfl rfl (fun x1092 e1092 q1092 => ?_) (fun x1092 e1092 q1092 => ?_)
    · cases e1092
      refine zSaload (m := 1) (k := 0) vr_178_23 rfl rfl rfl ?_
      refine zSp0 (pc' := 25) (st' := .int (1) :: _) vr_178_24 rfl rfl ?_
      refine zScall vr_178_25 rfl rfl rfl (fun m1095 _ => C_no _ _ _ _ _) (fun v1095 h1095 u1095 q1095 => ?_) (fun E1095 h1095 u1095 q1095 => ?_)
      · obtain ⟨gn1095, z1095⟩ := q1095
        cases z1095
        show zL zrx zi _ 178 28 [(0, _), (1, _), (2, _)] [_] _ _ _
        refine zLiret vr_178_28 rfl (fun x1096 e1096 => ?_)
        cases e1096
        first
          | exact ⟨_, _, rfl, t0, Or.inr ⟨fun z => in6_n (of_decide_eq_true q1092) z.1, gn1095⟩⟩
          | exact ⟨_, _, rfl, t0, Or.inr ⟨fun z => in6_n (by simpa using q1072) z.2, gn1095⟩⟩
      · obtain ⟨-, z⟩ := q1095
        cases z
    · cases e1092
      refine zSiload (m := 1) (k := 2) vr_178_14 rfl rfl rfl (fun x1097 e1097 => ?_)
      cases e1097
      refine zSp0 (pc' := 16) (st' := .int (0) :: _) vr_178_15 rfl rfl ?_
      refine zSp0 (pc' := 17) (st' := .int (5) :: _) vr_178_16 rfl rfl ?_
      refine zScall vr_178_17 rfl rfl rfl (fun m1100 _ => C_in _ _ _ _ _ _) (fun v1100 h1100 u1100 q1100 => ?_) (fun E1100 h1100 u1100 q1100 => ?_)
      · obtain ⟨eh1100, z1100⟩ := q1100
        replace eh1100 := eh1100.symm
        subst eh1100
        cases z1100
        show zL zrx zi _ 178 20 [(0, _), (1, _), (2, _)] [_] _ _ _
        refine zSb1 (f := fun x => decide (¬ x = 0)) (off := 9) (t := 29) vr_178_20 rfl rfl rfl (fun x1101 e1101 q1101 => ?_) (fun x1101 e1101 q1101 => ?_)
        · cases e1101
          have ip := in6_y (x := p) (by simpa using q1092)
          have ia := in6_y (of_decide_eq_true q1101)
          have hp := iN_lt (m := 6) ip
          have ha := iN_lt (m := 6) ia
          refine zSaload (m := 1) (k := 0) vr_178_29 rfl rfl rfl ?_
          refine zLget vr_178_30 rfl (fun p1103 w1103 e1103 t1103 g1103 => ?_)
          cases e1103
          first | (rw [(st_213_5 hS0)] at g1103; cases g1103) | (rw [(st_mrow hS0 hp)] at g1103; cases g1103) | skip
          refine zSiload (m := 1) (k := 1) vr_178_33 rfl rfl rfl (fun x1104 e1104 => ?_)
          cases e1104
          refine zLaald vr_178_34 rfl (fun p1105 x1105 w1105 e1105 f1105 c1105 t1105 g1105 => ?_)
          cases e1105
          cases f1105
          first | (rw [(st_213_5 hS0)] at g1105; cases g1105) | (rw [(st_mrow hS0 hp)] at g1105; cases g1105) | skip
          refine zSiload (m := 1) (k := 2) vr_178_35 rfl rfl rfl (fun x1106 e1106 => ?_)
          cases e1106
          refine zLiald vr_178_36 rfl (fun p1107 x1107 w1107 e1107 f1107 c1107 t1107 g1107 => ?_)
          cases e1107
          cases f1107
          first | (rw [(st_213_5 hS0)] at g1107; cases g1107) | (rw [(st_mrow hS0 hp)] at g1107; cases g1107) | skip
          have w1 := g1107
          refine zLiret vr_178_37 rfl (fun x1108 e1108 => ?_)
          cases e1108
          exact ⟨_, _, rfl, t0, Or.inl ⟨⟨ip, ia⟩, rfl, w1⟩⟩
        · cases e1101
          refine zSaload (m := 1) (k := 0) vr_178_23 rfl rfl rfl ?_
          refine zSp0 (pc' := 25) (st' := .int (1) :: _) vr_178_24 rfl rfl ?_
          refine zScall vr_178_25 rfl rfl rfl (fun m1111 _ => C_no _ _ _ _ _) (fun v1111 h1111 u1111 q1111 => ?_) (fun E1111 h1111 u1111 q1111 => ?_)
          · obtain ⟨gn1111, z1111⟩ := q1111
            cases z1111
            show zL zrx zi _ 178 28 [(0, _), (1, _), (2, _)] [_] _ _ _
            refine zLiret vr_178_28 rfl (fun x1112 e1112 => ?_)
            cases e1112
            first
              | exact ⟨_, _, rfl, t0, Or.inr ⟨fun z => in6_n (of_decide_eq_true q1092) z.1, gn1111⟩⟩
              | exact ⟨_, _, rfl, t0, Or.inr ⟨fun z => in6_n (by simpa using q1101) z.2, gn1111⟩⟩
          · obtain ⟨-, z⟩ := q1111
            cases z
      · obtain ⟨-, z⟩ := q1100
        cases z
  · obtain ⟨-, z⟩ := q1091
    cases z
/-- the relation: the wordings are the same on both sides -/
def Rw (h : List zC) : Prop := ∀ i, i < 6 → ∀ j, j < 6 → gF h (19 + i) j = gF h (216 + i) j
/-- what does not touch the rows keeps it -/
theorem Rw.same {h h' : List zC} (hr : Rw h) (e : ∀ p k : Nat, (19 ≤ p ∧ p < 25) ∨ (216 ≤ p ∧ p < 222) → gF h' p k = gF h p k) : Rw h' := fun i hi j hj => by
  rw [e (19 + i) j (by omega), e (216 + i) j (by omega)]
  exact hr i hi j hj
theorem Rw.fr {Wr : List (Nat × Nat)} {ρ : List Nat} {h h' : List zC} (hr : Rw h) (hl : 239 ≤ h.length) (ro : Ro ρ) (hF : gFr Wr ρ h h') (hw : Wr.all (fun w => !(w.1 == 11) && !(w.1 == 43)) = true) : Rw h' := by
  have no : ∀ r k, r = 11 ∨ r = 43 → wIn Wr r k = false := fun r k hrk => by
    unfold wIn
    refine List.any_eq_false.mpr (fun w hm => ?_)
    have := List.all_eq_true.mp hw w hm
    simp only [Bool.and_eq_true, Bool.not_eq_true', beq_eq_false_iff_ne] at this
    have : ¬ w.1 = r := by omega
    simp [this]
  have r1 : ∀ i, i < 6 → rho0[19 + i]? = some 11 := by decide
  have r2 : ∀ i, i < 6 → rho0[216 + i]? = some 43 := by decide
  refine hr.same (fun p k hp => ?_)
  rcases hp with ⟨a, b⟩ | ⟨a, b⟩
  · exact gFr_F hF (ro _ _ (by have := r1 (p - 19) (by omega); rwa [show 19 + (p - 19) = p by omega] at this)) (no _ _ (Or.inl rfl)) (by omega)
  · exact gFr_F hF (ro _ _ (by have := r2 (p - 216) (by omega); rwa [show 216 + (p - 216) = p by omega] at this)) (no _ _ (Or.inr rfl)) (by omega)
theorem wSw_at {h h2 : List zC} {q a b : Nat} {r : Value} (w : wSw h h2 q a b r) : (∀ p k, gF h2 p k = if p = q ∧ k = b then gF h q a else if p = q ∧ k = a then gF h q b else gF h p k) ∧ gF h2 q a = some r := by
  obtain ⟨x, y, z, h1, e1, e2, p1, p2, e3, rfl⟩ := w
  refine ⟨fun p k => ?_, e3⟩
  rw [p2.2.1, p1.2.1, e1, e2]
/-- a swap on both sides -/
theorem sum_swap {h1 h2 h3 h5 : List zC} {u2 u5 : Nat} {p a b k r' : Int32} (hr : Rw h1) (hl : 239 ≤ h1.length) (V1 : Q_Lswap p a b h1 (.inl (some (.int k))) h2 u2) (E : ∀ p, p < 239 → ∀ k, gF h3 p k = gF h2 p k) (V2 : Q_mswap p a b h3 (.inl (some (.int r'))) h5 u5) :
    Rw h5 ∧ gF h5 213 0 = some (.int k) ∧ (k = 0 → gF h5 238 0 = some (.long r'.toInt64)) ∧ (k = 0 ∨ k = 1 ∨ k = 2) := by
  obtain ⟨k', e1, V1⟩ := V1
  cases e1
  obtain ⟨r, h4, e2, t0, V2⟩ := V2
  cases e2
  rcases V1 with ⟨rfl, ⟨ip, ia, ib⟩, rc, hc, w, po⟩ | ⟨rfl, ip, x⟩ | ⟨rfl, ip, iab, x⟩
  · rcases V2 with ⟨-, w'⟩ | ⟨n, -⟩ | ⟨-, n, -⟩
    · obtain ⟨c1, c2⟩ := wSw_at w
      obtain ⟨d1, d2⟩ := wSw_at w'
      have hp := iN_lt (m := 6) ip
      have ha := iN_lt (m := 6) ia
      have hb := iN_lt (m := 6) ib
      generalize p.toNatClampNeg = P at *
      generalize a.toNatClampNeg = A at *
      generalize b.toNatClampNeg = B at *
      have f4 : ∀ q k, q < 239 → ¬ q = 213 → ¬ q = 238 → gF h4 q k = gF hc q k := fun q k q1 q2 q3 => by
        rw [t0.2.1, if_neg (fun z => q2 z.1), E q q1, po.2.1, if_neg (fun z => q3 z.1)]
      have m4 : ∀ i j, i < 6 → gF h4 (216 + i) j = gF h1 (216 + i) j := fun i j hi => by
        rw [f4 _ _ (by omega) (by omega) (by omega), c1, if_neg (by omega), if_neg (by omega)]
      have key : Rw h5 := fun i hi j hj => by
        rw [d1 (19 + i) j, if_neg (by omega), if_neg (by omega), f4 _ _ (by omega) (by omega) (by omega), c1, d1 (216 + i) j, m4 P A hp, m4 P B hp, m4 i j hi, hr P hp A ha, hr P hp B hb, hr i hi j hj]
        have z : 19 + i = 19 + P ↔ 216 + i = 216 + P := by omega
        simp only [z]
      refine ⟨key, ?_, fun _ => ?_, Or.inl rfl⟩
      · rw [d1, if_neg (by omega), if_neg (by omega), t0.2.1, if_pos ⟨rfl, rfl⟩]
      · rw [d1, if_neg (by omega), if_neg (by omega), t0.2.1, if_neg (by omega), E _ (by omega), po.2.1, if_pos ⟨rfl, rfl⟩]
        have q : gF h5 (19 + P) A = some (.int rc) := by
          rw [d1, if_neg (by omega), if_neg (by omega), f4 _ _ (by omega) (by omega) (by omega)]
          exact c2
        rw [key P hp A ha, d2] at q
        cases q
        rfl
    · exact absurd ip n
    · exact absurd ⟨ia, ib⟩ n
  · rcases V2 with ⟨w', -⟩ | ⟨-, t1⟩ | ⟨w', -⟩
    · exact absurd w'.1 ip
    · refine ⟨hr.same (fun q k hq => ?_), ?_, fun z => (by cases z), Or.inr (Or.inl rfl)⟩
      · rw [t1.2.1, if_neg (by omega), t0.2.1, if_neg (by omega), E q (by omega), x.fld (by omega)]
      · rw [t1.2.1, if_pos ⟨rfl, rfl⟩]
    · exact absurd w' ip
  · rcases V2 with ⟨w', -⟩ | ⟨n, -⟩ | ⟨-, -, t1⟩
    · exact absurd w'.2 iab
    · exact absurd ip n
    · refine ⟨hr.same (fun q k hq => ?_), ?_, fun z => (by cases z), Or.inr (Or.inr rfl)⟩
      · rw [t1.2.1, if_neg (by omega), t0.2.1, if_neg (by omega), E q (by omega), x.fld (by omega)]
      · rw [t1.2.1, if_pos ⟨rfl, rfl⟩]
/-- the same is asked on both sides -/
theorem sum_means {h1 h2 h3 h5 : List zC} {u2 u5 : Nat} {p a k r' : Int32} (hr : Rw h1) (hl : 239 ≤ h1.length) (V1 : Q_Lmeans p a h1 (.inl (some (.int k))) h2 u2) (E : ∀ p, p < 239 → ∀ k, gF h3 p k = gF h2 p k) (V2 : Q_mmeans p a h3 (.inl (some (.int r'))) h5 u5) :
    Rw h5 ∧ gF h5 213 0 = some (.int k) ∧ (k = 0 → gF h5 238 0 = some (.long r'.toInt64)) ∧ (k = 0 ∨ k = 1 ∨ k = 2) := by
  obtain ⟨k', e1, V1⟩ := V1
  cases e1
  obtain ⟨r, h4, e2, t0, V2⟩ := V2
  cases e2
  rcases V1 with ⟨rfl, ⟨ip, ia⟩, rc, w, po⟩ | ⟨rfl, ip, x⟩
  · rcases V2 with ⟨-, e, w'⟩ | ⟨n, -⟩
    · subst e
      refine ⟨hr.same (fun q k hq => ?_), ?_, fun _ => ?_, Or.inl rfl⟩
      · rw [t0.2.1, if_neg (by omega), E q (by omega), po.2.1, if_neg (by omega)]
      · rw [t0.2.1, if_pos ⟨rfl, rfl⟩]
      · have hp := iN_lt (m := 6) ip
        have ha := iN_lt (m := 6) ia
        rw [t0.2.1, if_neg (by omega), E _ (by omega), po.2.1, if_pos ⟨rfl, rfl⟩]
        rw [t0.2.1, if_neg (by omega), E _ (by omega), po.2.1, if_neg (by omega), ← hr _ hp _ ha, w] at w'
        cases w'
        rfl
    · exact absurd ⟨ip, ia⟩ n
  · rcases V2 with ⟨w', -⟩ | ⟨-, t1⟩
    · exact absurd w' ip
    · refine ⟨hr.same (fun q k hq => ?_), ?_, fun z => (by cases z), Or.inr (Or.inl rfl)⟩
      · rw [t1.2.1, if_neg (by omega), t0.2.1, if_neg (by omega), E q (by omega), x.fld (by omega)]
      · rw [t1.2.1, if_pos ⟨rfl, rfl⟩]
set_option maxRecDepth 20000 in
theorem C_real_loop {p f : Int32} {h : List zC} (hS : Stc h) (ip : iN 6 p) : ∀ (n k : Nat) (r : Int32) (u : Nat), k ≤ 6 → rfF (fun k => iv h (19 + p.toNatClampNeg) k) f k = r → zL zrx zi n 99 5 [(4, .int (Int32.ofNat k)), (3, .int r), (0, .ref 16), (1, .int p), (2, .int f)] [] h u (fun o h2 _ => h2 = h ∧ o = .inl (some (.int (rfF (fun k => iv h (19 + p.toNatClampNeg) k) f 6))))
  | 0, _, _, _, _, _ => trivial
  | n + 1, k, r, u, hk, hD => by
    have kk := (toNat_ofNat (m := k) (by omega))
    have z6 : (6 : Int32).toInt = 6 := rfl
    have hp := iN_lt (m := 6) ip
    refine zLp vr_99_5 rfl rfl ?_
    refine zSp0 (pc' := 9) (st' := .int (6) :: _) vr_99_7 rfl rfl ?_
    refine zSb2 (f := fun x y => decide (y ≤ x)) (off := 33) (t := 42) vr_99_9 rfl rfl rfl (fun x1114 y1114 e1114 f1114 q1114 => ?_) (fun x1114 y1114 e1114 f1114 q1114 => ?_)
    · cases e1114
      cases f1114
      have c1114 := of_decide_eq_true q1114
      refine zSiload (m := 1) (k := 3) vr_99_42 rfl rfl rfl (fun x1115 e1115 => ?_)
      cases e1115
      refine zLiret vr_99_43 rfl (fun x1116 e1116 => ?_)
      cases e1116
      have y := c1114
      rw [i32_le, kk.2, z6] at y
      have e : k = 6 := by omega
      rw [← hD, e]
      exact ⟨rfl, rfl⟩
    · cases e1114
      cases f1114
      have c1114 := ndc q1114
      refine zSiload (m := 1) (k := 2) vr_99_12 rfl rfl rfl (fun x1117 e1117 => ?_)
      cases e1117
      refine zSiload (m := 2) (k := 4) vr_99_13 rfl rfl rfl (fun x1118 e1118 => ?_)
      cases e1118
      refine zS2 (f := fun x y => .int (x >>> (y &&& 31))) vr_99_15 rfl rfl (fun x1119 y1119 e1119 f1119 => ?_)
      cases e1119
      cases f1119
      refine zSp0 (pc' := 17) (st' := .int (1) :: _) vr_99_16 rfl rfl ?_
      refine zS2 (f := fun x y => .int (x &&& y)) vr_99_17 rfl rfl (fun x1121 y1121 e1121 f1121 => ?_)
      cases e1121
      cases f1121
      refine zSp0 (pc' := 19) (st' := .int (1) :: _) vr_99_18 rfl rfl ?_
      refine zSb2 (f := fun x y => decide (¬ x = y)) (off := 17) (t := 36) vr_99_19 rfl rfl rfl (fun x1123 y1123 e1123 f1123 q1123 => ?_) (fun x1123 y1123 e1123 f1123 q1123 => ?_)
      · cases e1123
        cases f1123
        have c1123 := of_decide_eq_true q1123
        refine zSiinc vr_99_36 rfl rfl (fun x1124 e1124 => ?_)
        cases e1124
        show zL zrx zi _ 99 39 [(4, _), (3, _), (0, _), (1, _), (2, _)] [] _ _ _
        refine zSgo (t := 5) vr_99_39 rfl rfl ?_
        rw [ofNat_succ]
        refine zL_pm _ _ _ [(4, _), (3, _), (0, _), (1, _), (2, _)] _ _ _ _ _ ⟨(List.forall_mem_cons.mpr ⟨List.mem_cons_self, (List.forall_mem_cons.mpr ⟨(List.mem_cons_of_mem _ List.mem_cons_self), (List.forall_mem_cons.mpr ⟨(List.mem_cons_of_mem _ (List.mem_cons_of_mem _ List.mem_cons_self)), (List.forall_mem_cons.mpr ⟨(List.mem_cons_of_mem _ (List.mem_cons_of_mem _ (List.mem_cons_of_mem _ List.mem_cons_self))), (List.forall_mem_cons.mpr ⟨(List.mem_cons_of_mem _ (List.mem_cons_of_mem _ (List.mem_cons_of_mem _ (List.mem_cons_of_mem _ List.mem_cons_self)))), (fun _ h => absurd h List.not_mem_nil)⟩)⟩)⟩)⟩)⟩), show ([4, 3, 0, 1, 2] : List Nat).Nodup by decide⟩ (C_real_loop hS ip n (k + 1) _ _ (by have y := c1114; rw [i32_le, kk.2, z6] at y; omega) ?_)
        first
          | exact (rfF_n c1123).trans hD
          | exact (rfF_y (Decidable.not_not.mp c1123)).trans (by rw [hD]; show r ||| 1 <<< (iv h (19 + p.toNatClampNeg) k &&& 31) = _; rw [← kk.1, iv_of g1017])
      · cases e1123
        cases f1123
        have c1123 := ndc q1123
        refine zSiload (m := 1) (k := 3) vr_99_22 rfl rfl rfl (fun x1126 e1126 => ?_)
        cases e1126
        refine zSp0 (pc' := 24) (st' := .int (1) :: _) vr_99_23 rfl rfl ?_
        refine zSaload (m := 1) (k := 0) vr_99_24 rfl rfl rfl ?_
        refine zLget vr_99_25 rfl (fun p1129 w1129 e1129 t1129 g1129 => ?_)
        cases e1129
        first | (rw [(st_16_5 hS)] at g1129; cases g1129) | (rw [(st_row hS hp)] at g1129; cases g1129) | skip
        refine zSiload (m := 1) (k := 1) vr_99_28 rfl rfl rfl (fun x1130 e1130 => ?_)
        cases e1130
        refine zLaald vr_99_29 rfl (fun p1131 x1131 w1131 e1131 f1131 c1131 t1131 g1131 => ?_)
        cases e1131
        cases f1131
        first | (rw [(st_16_5 hS)] at g1131; cases g1131) | (rw [(st_row hS hp)] at g1131; cases g1131) | skip
        refine zSiload (m := 2) (k := 4) vr_99_30 rfl rfl rfl (fun x1132 e1132 => ?_)
        cases e1132
        refine zLiald vr_99_32 rfl (fun p1133 x1133 w1133 e1133 f1133 c1133 t1133 g1133 => ?_)
        cases e1133
        cases f1133
        first | (rw [(st_16_5 hS)] at g1133; cases g1133) | (rw [(st_row hS hp)] at g1133; cases g1133) | skip
        refine zS2 (f := fun x y => .int (x <<< (y &&& 31))) vr_99_33 rfl rfl (fun x1134 y1134 e1134 f1134 => ?_)
        cases e1134
        cases f1134
        refine zS2 (f := fun x y => .int (x ||| y)) vr_99_34 rfl rfl (fun x1135 y1135 e1135 f1135 => ?_)
        cases e1135
        cases f1135
        refine zSistore (m := 1) (k := 3) vr_99_35 rfl rfl (fun x1136 e1136 => ?_)
        cases e1136
        show zL zrx zi _ 99 36 [(3, _), (4, _), (0, _), (1, _), (2, _)] [] _ _ _
        refine zSiinc vr_99_36 rfl rfl (fun x1137 e1137 => ?_)
        cases e1137
        show zL zrx zi _ 99 39 [(4, _), (3, _), (0, _), (1, _), (2, _)] [] _ _ _
        refine zSgo (t := 5) vr_99_39 rfl rfl ?_
        rw [ofNat_succ]
        refine zL_pm _ _ _ [(4, _), (3, _), (0, _), (1, _), (2, _)] _ _ _ _ _ ⟨(List.forall_mem_cons.mpr ⟨List.mem_cons_self, (List.forall_mem_cons.mpr ⟨(List.mem_cons_of_mem _ List.mem_cons_self), (List.forall_mem_cons.mpr ⟨(List.mem_cons_of_mem _ (List.mem_cons_of_mem _ List.mem_cons_self)), (List.forall_mem_cons.mpr ⟨(List.mem_cons_of_mem _ (List.mem_cons_of_mem _ (List.mem_cons_of_mem _ List.mem_cons_self))), (List.forall_mem_cons.mpr ⟨(List.mem_cons_of_mem _ (List.mem_cons_of_mem _ (List.mem_cons_of_mem _ (List.mem_cons_of_mem _ List.mem_cons_self)))), (fun _ h => absurd h List.not_mem_nil)⟩)⟩)⟩)⟩)⟩), show ([4, 3, 0, 1, 2] : List Nat).Nodup by decide⟩ (C_real_loop hS ip n (k + 1) _ _ (by have y := c1114; rw [i32_le, kk.2, z6] at y; omega) ?_)
        first
          | exact (rfF_n c1123).trans hD
          | exact (rfF_y (Decidable.not_not.mp c1123)).trans (by rw [hD]; show r ||| 1 <<< (iv h (19 + p.toNatClampNeg) k &&& 31) = _; rw [← kk.1, iv_of g1133])
theorem C_real (n : Nat) (p f : Int32) (h : List zC) (u : Nat) (hS : Stc h) (ip : iN 6 p) : zL zrx zi n 99 0 [(0, .ref 16), (1, .int p), (2, .int f)] [] h u (fun o h2 _ => h2 = h ∧ o = .inl (some (.int (rfF (fun k => iv h (19 + p.toNatClampNeg) k) f 6)))) := by
  refine zSp0 (pc' := 1) (st' := .int (0) :: _) vr_99_0 rfl rfl ?_
  refine zSistore (m := 1) (k := 3) vr_99_1 rfl rfl (fun x1140 e1140 => ?_)
  cases e1140
  show zL zrx zi _ 99 2 [(3, _), (0, _), (1, _), (2, _)] [] _ _ _
  refine zSp0 (pc' := 3) (st' := .int (0) :: _) vr_99_2 rfl rfl ?_
  refine zSistore (m := 2) (k := 4) vr_99_3 rfl rfl (fun x1142 e1142 => ?_)
  cases e1142
  show zL zrx zi _ 99 5 [(4, _), (3, _), (0, _), (1, _), (2, _)] [] _ _ _
  refine zL_pm _ _ _ [(4, _), (3, _), (0, _), (1, _), (2, _)] _ _ _ _ _ ⟨(List.forall_mem_cons.mpr ⟨List.mem_cons_self, (List.forall_mem_cons.mpr ⟨(List.mem_cons_of_mem _ List.mem_cons_self), (List.forall_mem_cons.mpr ⟨(List.mem_cons_of_mem _ (List.mem_cons_of_mem _ List.mem_cons_self)), (List.forall_mem_cons.mpr ⟨(List.mem_cons_of_mem _ (List.mem_cons_of_mem _ (List.mem_cons_of_mem _ List.mem_cons_self))), (List.forall_mem_cons.mpr ⟨(List.mem_cons_of_mem _ (List.mem_cons_of_mem _ (List.mem_cons_of_mem _ (List.mem_cons_of_mem _ List.mem_cons_self)))), (fun _ h => absurd h List.not_mem_nil)⟩)⟩)⟩)⟩)⟩), show ([4, 3, 0, 1, 2] : List Nat).Nodup by decide⟩ (C_real_loop hS ip _ 0 0 _ (by omega) rfl)
theorem C_dispute (n : Nat) (p q r m f a g : Int32) (h : List zC) (u : Nat) {cnt day : Int32} (hS : Stc h) (hc : gF h 16 3 = some (.int cnt)) (hd : gF h 16 0 = some (.int day)) : zL zrx zi n 62 0 [(0, .ref 16), (1, .int p), (2, .int q), (3, .int r), (4, .int m), (5, .int f), (6, .int a), (7, .int g)] [] h u (fun o h2 _ => match o with
  | .inl v => okD p q r m f a g day cnt ∧ (∃ x : Int32, v = some (.int x)) ∧ DM h h2 (189 + cnt.toNatClampNeg) cnt p q r m (rfF (fun k => iv h (19 + p.toNatClampNeg) k) f 6) a (day - g)
  | .inr E => (E = 0 ∨ E = 1 ∨ E = 2) ∧ hExt h h2 ∧ ¬ okD p q r m f a g day cnt) := by
  refine zSiload (m := 1) (k := 1) vr_62_0 rfl rfl rfl (fun x1143 e1143 => ?_)
  cases e1143
  refine zSp0 (pc' := 3) (st' := .int (6) :: _) vr_62_1 rfl rfl ?_
  refine zScall vr_62_3 rfl rfl rfl (fun m1145 _ => C_num6 _ _ _ _ (m := 6) (by rfl)) (fun v1145 h1145 u1145 q1145 => ?_) (fun E1145 h1145 u1145 q1145 => ?_)
  · obtain ⟨eh1145, rfl, r1⟩ := q1145
    replace eh1145 := eh1145.symm
    subst eh1145
    show zL zrx zi _ 62 6 [(0, _), (1, _), (2, _), (3, _), (4, _), (5, _), (6, _), (7, _)] [] _ _ _
    refine zSiload (m := 1) (k := 2) vr_62_6 rfl rfl rfl (fun x1146 e1146 => ?_)
    cases e1146
    refine zSp0 (pc' := 9) (st' := .int (6) :: _) vr_62_7 rfl rfl ?_
    refine zScall vr_62_9 rfl rfl rfl (fun m1148 _ => C_num6 _ _ _ _ (m := 6) (by rfl)) (fun v1148 h1148 u1148 q1148 => ?_) (fun E1148 h1148 u1148 q1148 => ?_)
    · obtain ⟨eh1148, rfl, r2⟩ := q1148
      replace eh1148 := eh1148.symm
      subst eh1148
      show zL zrx zi _ 62 12 [(0, _), (1, _), (2, _), (3, _), (4, _), (5, _), (6, _), (7, _)] [] _ _ _
      refine zSiload (m := 1) (k := 3) vr_62_12 rfl rfl rfl (fun x1149 e1149 => ?_)
      cases e1149
      refine zSp0 (pc' := 14) (st' := .int (4) :: _) vr_62_13 rfl rfl ?_
      refine zScall vr_62_14 rfl rfl rfl (fun m1151 _ => C_num6 _ _ _ _ (m := 4) (by rfl)) (fun v1151 h1151 u1151 q1151 => ?_) (fun E1151 h1151 u1151 q1151 => ?_)
      · obtain ⟨eh1151, rfl, r3⟩ := q1151
        replace eh1151 := eh1151.symm
        subst eh1151
        show zL zrx zi _ 62 17 [(0, _), (1, _), (2, _), (3, _), (4, _), (5, _), (6, _), (7, _)] [] _ _ _
        refine zSiload (m := 2) (k := 4) vr_62_17 rfl rfl rfl (fun x1152 e1152 => ?_)
        cases e1152
        refine zSp0 (pc' := 20) (st' := .int (4) :: _) vr_62_19 rfl rfl ?_
        refine zScall vr_62_20 rfl rfl rfl (fun m1154 _ => C_num6 _ _ _ _ (m := 4) (by rfl)) (fun v1154 h1154 u1154 q1154 => ?_) (fun E1154 h1154 u1154 q1154 => ?_)
        · obtain ⟨eh1154, rfl, r4⟩ := q1154
          replace eh1154 := eh1154.symm
          subst eh1154
          show zL zrx zi _ 62 23 [(0, _), (1, _), (2, _), (3, _), (4, _), (5, _), (6, _), (7, _)] [] _ _ _
          refine zSiload (m := 2) (k := 5) vr_62_23 rfl rfl rfl (fun x1155 e1155 => ?_)
          cases e1155
          refine zSp0 (pc' := 26) (st' := .int (0) :: _) vr_62_25 rfl rfl ?_
          refine zSp0 (pc' := 28) (st' := .int (63) :: _) vr_62_26 rfl rfl ?_
          refine zScall vr_62_28 rfl rfl rfl (fun m1158 _ => C_val _ _ _ _ _ _) (fun v1158 h1158 u1158 q1158 => ?_) (fun E1158 h1158 u1158 q1158 => ?_)
          · obtain ⟨eh1158, rfl, r5⟩ := q1158
            replace eh1158 := eh1158.symm
            subst eh1158
            show zL zrx zi _ 62 31 [(0, _), (1, _), (2, _), (3, _), (4, _), (5, _), (6, _), (7, _)] [] _ _ _
            refine zSiload (m := 2) (k := 6) vr_62_31 rfl rfl rfl (fun x1159 e1159 => ?_)
            cases e1159
            refine zSp0 (pc' := 34) (st' := .int (0) :: _) vr_62_33 rfl rfl ?_
            refine zSp0 (pc' := 37) (st' := .int (999) :: _) vr_62_34 rfl rfl ?_
            refine zScall vr_62_37 rfl rfl rfl (fun m1162 _ => C_val _ _ _ _ _ _) (fun v1162 h1162 u1162 q1162 => ?_) (fun E1162 h1162 u1162 q1162 => ?_)
            · obtain ⟨eh1162, rfl, r6⟩ := q1162
              replace eh1162 := eh1162.symm
              subst eh1162
              show zL zrx zi _ 62 40 [(0, _), (1, _), (2, _), (3, _), (4, _), (5, _), (6, _), (7, _)] [] _ _ _
              refine zSiload (m := 2) (k := 7) vr_62_40 rfl rfl rfl (fun x1163 e1163 => ?_)
              cases e1163
              refine zSp0 (pc' := 43) (st' := .int (0) :: _) vr_62_42 rfl rfl ?_
              refine zSaload (m := 1) (k := 0) vr_62_43 rfl rfl rfl ?_
              refine zLget vr_62_44 rfl (fun p1166 w1166 e1166 t1166 g1166 => ?_)
              cases e1166
              first | (rw [hd] at g1166; cases g1166) | (rw [hc] at g1166; cases g1166) | (rw [(st_16_8 hS)] at g1166; cases g1166) | (rw [(st_case hS hk)] at g1166; cases g1166) | skip
              refine zScall vr_62_47 rfl rfl rfl (fun m1167 _ => C_val _ _ _ _ _ _) (fun v1167 h1167 u1167 q1167 => ?_) (fun E1167 h1167 u1167 q1167 => ?_)
              · obtain ⟨eh1167, rfl, r7⟩ := q1167
                replace eh1167 := eh1167.symm
                subst eh1167
                show zL zrx zi _ 62 50 [(0, _), (1, _), (2, _), (3, _), (4, _), (5, _), (6, _), (7, _)] [] _ _ _
                refine zSaload (m := 1) (k := 0) vr_62_50 rfl rfl rfl ?_
                refine zLget vr_62_51 rfl (fun p1169 w1169 e1169 t1169 g1169 => ?_)
                cases e1169
                first | (rw [hd] at g1169; cases g1169) | (rw [hc] at g1169; cases g1169) | (rw [(st_16_8 hS)] at g1169; cases g1169) | (rw [(st_case hS hk)] at g1169; cases g1169) | skip
                refine zSp0 (pc' := 56) (st' := .int (24) :: _) vr_62_54 rfl rfl ?_
                refine zSb2 (f := fun x y => decide (y ≤ x)) (off := 7) (t := 63) vr_62_56 rfl rfl rfl (fun x1171 y1171 e1171 f1171 q1171 => ?_) (fun x1171 y1171 e1171 f1171 q1171 => ?_)
                · cases e1171
                  cases f1171
                  have c1171 := of_decide_eq_true q1171
                  refine zSp0 (pc' := 64) (st' := .int (0) :: _) vr_62_63 rfl rfl ?_
                  refine zScall vr_62_64 rfl rfl rfl (fun m _ => C_needState _ _ _ _) (fun v h u q => absurd rfl q.2.2) (fun E h3 u q => ?_)
                  obtain ⟨rfl, -, q2⟩ := q
                  rw [zCat_no vh_62_64_2]
                  refine ⟨Or.inr (Or.inr rfl), q2, fun z => ?_⟩
                  have y := c1171
                  have z24 : (24 : Int32).toInt = 24 := rfl
                  rw [i32_le, z24] at y
                  have := z.2.2
                  omega
                · cases e1171
                  cases f1171
                  have c1171 := ndc q1171
                  have hcn : cnt.toInt < 24 := by
                    have y := c1171
                    have z24 : (24 : Int32).toInt = 24 := rfl
                    rw [i32_le, z24] at y
                    omega
                  have hk : cnt.toNatClampNeg < 24 := by
                    show cnt.toInt.toNat < 24
                    omega
                  refine zSp0 (pc' := 60) (st' := .int (1) :: _) vr_62_59 rfl rfl ?_
                  refine zSgo (t := 64) vr_62_60 rfl rfl ?_
                  refine zScall vr_62_64 rfl rfl rfl (fun m1174 _ => C_needState _ _ _ _) (fun v1174 h1174 u1174 q1174 => ?_) (fun E1174 h1174 u1174 q1174 => ?_)
                  · obtain ⟨eh1174, rfl, -⟩ := q1174
                    replace eh1174 := eh1174.symm
                    subst eh1174
                    show zL zrx zi _ 62 67 [(0, _), (1, _), (2, _), (3, _), (4, _), (5, _), (6, _), (7, _)] [] _ _ _
                    refine zSaload (m := 1) (k := 0) vr_62_67 rfl rfl rfl ?_
                    refine zLget vr_62_68 rfl (fun p1176 w1176 e1176 t1176 g1176 => ?_)
                    cases e1176
                    first | (rw [hd] at g1176; cases g1176) | (rw [hc] at g1176; cases g1176) | (rw [(st_16_8 hS)] at g1176; cases g1176) | (rw [(st_case hS hk)] at g1176; cases g1176) | skip
                    refine zSaload (m := 1) (k := 0) vr_62_71 rfl rfl rfl ?_
                    refine zLget vr_62_72 rfl (fun p1178 w1178 e1178 t1178 g1178 => ?_)
                    cases e1178
                    first | (rw [hd] at g1178; cases g1178) | (rw [hc] at g1178; cases g1178) | (rw [(st_16_8 hS)] at g1178; cases g1178) | (rw [(st_case hS hk)] at g1178; cases g1178) | skip
                    refine zLaald vr_62_75 rfl (fun p1179 x1179 w1179 e1179 f1179 c1179 t1179 g1179 => ?_)
                    cases e1179
                    cases f1179
                    first | (rw [hd] at g1179; cases g1179) | (rw [hc] at g1179; cases g1179) | (rw [(st_16_8 hS)] at g1179; cases g1179) | (rw [(st_case hS hk)] at g1179; cases g1179) | skip
                    refine zSastore (m := 2) (k := 8) vr_62_76 rfl rfl ?_
                    show zL zrx zi _ 62 78 [(8, _), (0, _), (1, _), (2, _), (3, _), (4, _), (5, _), (6, _), (7, _)] [] _ _ _
                    refine zSaload (m := 2) (k := 8) vr_62_78 rfl rfl rfl ?_
                    refine zSiload (m := 1) (k := 1) vr_62_80 rfl rfl rfl (fun x1182 e1182 => ?_)
                    cases e1182
                    refine zLput vr_62_81 rfl (fun p1183 k1183 e1183 t1183 g1183 => ?_)
                    cases e1183
                    refine zSaload (m := 2) (k := 8) vr_62_84 rfl rfl rfl ?_
                    refine zSiload (m := 1) (k := 2) vr_62_86 rfl rfl rfl (fun x1185 e1185 => ?_)
                    cases e1185
                    refine zLput vr_62_87 rfl (fun p1186 k1186 e1186 t1186 g1186 => ?_)
                    cases e1186
                    refine zSaload (m := 2) (k := 8) vr_62_90 rfl rfl rfl ?_
                    refine zSiload (m := 1) (k := 3) vr_62_92 rfl rfl rfl (fun x1188 e1188 => ?_)
                    cases e1188
                    refine zLput vr_62_93 rfl (fun p1189 k1189 e1189 t1189 g1189 => ?_)
                    cases e1189
                    refine zSaload (m := 2) (k := 8) vr_62_96 rfl rfl rfl ?_
                    refine zSiload (m := 2) (k := 4) vr_62_98 rfl rfl rfl (fun x1191 e1191 => ?_)
                    cases e1191
                    refine zLput vr_62_100 rfl (fun p1192 k1192 e1192 t1192 g1192 => ?_)
                    cases e1192
                    have fr1 : ∀ x k, ¬ x = (189 + cnt.toNatClampNeg) → gF k1192 x k = gF h x k := fun x k z => by
                      rw [g1192.2.1, if_neg (fun y => z y.1), g1189.2.1, if_neg (fun y => z y.1), g1186.2.1, if_neg (fun y => z y.1), g1183.2.1, if_neg (fun y => z y.1)]
                    have hS1 : Stc k1192 := hS.one (by rw [g1192.1, g1189.1, g1186.1, g1183.1]) fr1 (stL_case hk)
                    have w4 : (fun k => iv k1192 (19 + p.toNatClampNeg) k) = fun k => iv h (19 + p.toNatClampNeg) k := funext (fun k => iv_eq (fr1 _ _ (by have := iN_lt (m := 6) r1; omega)))
                    refine zSaload (m := 2) (k := 8) vr_62_103 rfl rfl rfl ?_
                    refine zSaload (m := 1) (k := 0) vr_62_105 rfl rfl rfl ?_
                    refine zSiload (m := 1) (k := 1) vr_62_106 rfl rfl rfl (fun x1195 e1195 => ?_)
                    cases e1195
                    refine zSiload (m := 2) (k := 5) vr_62_107 rfl rfl rfl (fun x1196 e1196 => ?_)
                    cases e1196
                    refine zScall vr_62_109 rfl rfl rfl (fun m1197 _ => C_real _ _ _ _ _ hS1 r1) (fun v1197 h1197 u1197 q1197 => ?_) (fun E1197 h1197 u1197 q1197 => ?_)
                    · obtain ⟨eh1197, z1197⟩ := q1197
                      replace eh1197 := eh1197.symm
                      subst eh1197
                      cases z1197
                      show zL zrx zi _ 62 112 [(8, _), (0, _), (1, _), (2, _), (3, _), (4, _), (5, _), (6, _), (7, _)] [_, _] _ _ _
                      refine zLput vr_62_112 rfl (fun p1198 k1198 e1198 t1198 g1198 => ?_)
                      cases e1198
                      refine zSaload (m := 2) (k := 8) vr_62_115 rfl rfl rfl ?_
                      refine zSiload (m := 2) (k := 6) vr_62_117 rfl rfl rfl (fun x1200 e1200 => ?_)
                      cases e1200
                      refine zLput vr_62_119 rfl (fun p1201 k1201 e1201 t1201 g1201 => ?_)
                      cases e1201
                      have fr2 : ∀ x k, ¬ x = (189 + cnt.toNatClampNeg) → gF k1201 x k = gF h x k := fun x k z => by
                        rw [g1201.2.1, if_neg (fun y => z y.1), g1198.2.1, if_neg (fun y => z y.1), g1192.2.1, if_neg (fun y => z y.1), g1189.2.1, if_neg (fun y => z y.1), g1186.2.1, if_neg (fun y => z y.1), g1183.2.1, if_neg (fun y => z y.1)]
                      refine zSaload (m := 2) (k := 8) vr_62_122 rfl rfl rfl ?_
                      refine zSaload (m := 1) (k := 0) vr_62_124 rfl rfl rfl ?_
                      refine zLget vr_62_125 rfl (fun p1204 w1204 e1204 t1204 g1204 => ?_)
                      cases e1204
                      first | (rw [((fr2 16 0 (by omega)).trans hd)] at g1204; cases g1204) | skip
                      refine zSiload (m := 2) (k := 7) vr_62_128 rfl rfl rfl (fun x1205 e1205 => ?_)
                      cases e1205
                      refine zS2 (f := fun x y => .int (x - y)) vr_62_130 rfl rfl (fun x1206 y1206 e1206 f1206 => ?_)
                      cases e1206
                      cases f1206
                      refine zLput vr_62_131 rfl (fun p1207 k1207 e1207 t1207 g1207 => ?_)
                      cases e1207
                      have fr3 : ∀ x k, ¬ x = (189 + cnt.toNatClampNeg) → gF k1207 x k = gF h x k := fun x k z => by
                        rw [g1207.2.1, if_neg (fun y => z y.1), g1201.2.1, if_neg (fun y => z y.1), g1198.2.1, if_neg (fun y => z y.1), g1192.2.1, if_neg (fun y => z y.1), g1189.2.1, if_neg (fun y => z y.1), g1186.2.1, if_neg (fun y => z y.1), g1183.2.1, if_neg (fun y => z y.1)]
                      refine zSaload (m := 1) (k := 0) vr_62_134 rfl rfl rfl ?_
                      refine zSdup vr_62_135 rfl ?_
                      refine zLget vr_62_136 rfl (fun p1210 w1210 e1210 t1210 g1210 => ?_)
                      cases e1210
                      first | (rw [((fr3 16 3 (by omega)).trans hc)] at g1210; cases g1210) | skip
                      refine zSp0 (pc' := 140) (st' := .int (1) :: _) vr_62_139 rfl rfl ?_
                      refine zS2 (f := fun x y => .int (x + y)) vr_62_140 rfl rfl (fun x1212 y1212 e1212 f1212 => ?_)
                      cases e1212
                      cases f1212
                      refine zLput vr_62_141 rfl (fun p1213 k1213 e1213 t1213 g1213 => ?_)
                      cases e1213
                      have fr4 : ∀ x k, ¬ x = (189 + cnt.toNatClampNeg) → ¬ (x = 16 ∧ k = 3) → gF k1213 x k = gF h x k := fun x k z y => by
                        rw [g1213.2.1, if_neg y, fr3 x k z]
                      have cn4 : gF k1213 16 3 = some (.int (cnt + 1)) := by
                        rw [g1213.2.1, if_pos ⟨rfl, rfl⟩]
                      refine zSaload (m := 1) (k := 0) vr_62_144 rfl rfl rfl ?_
                      refine zLget vr_62_145 rfl (fun p1215 w1215 e1215 t1215 g1215 => ?_)
                      cases e1215
                      first | (rw [cn4] at g1215; cases g1215) | skip
                      refine zSp0 (pc' := 149) (st' := .int (1) :: _) vr_62_148 rfl rfl ?_
                      refine zS2 (f := fun x y => .int (x - y)) vr_62_149 rfl rfl (fun x1217 y1217 e1217 f1217 => ?_)
                      cases e1217
                      cases f1217
                      refine zLiret vr_62_150 rfl (fun x1218 e1218 => ?_)
                      cases e1218
                      exact ⟨⟨⟨r1, r2, r3, r4⟩, ⟨r5, r6, r7⟩, hcn⟩, ⟨_, rfl⟩, fr4, cn4, ⟨by rw [g1213.2.1, if_neg (by omega), g1207.2.1, if_neg (by omega), g1201.2.1, if_neg (by omega), g1198.2.1, if_neg (by omega), g1192.2.1, if_neg (by omega), g1189.2.1, if_neg (by omega), g1186.2.1, if_neg (by omega), g1183.2.1, if_pos ⟨rfl, rfl⟩], by rw [g1213.2.1, if_neg (by omega), g1207.2.1, if_neg (by omega), g1201.2.1, if_neg (by omega), g1198.2.1, if_neg (by omega), g1192.2.1, if_neg (by omega), g1189.2.1, if_neg (by omega), g1186.2.1, if_pos ⟨rfl, rfl⟩], by rw [g1213.2.1, if_neg (by omega), g1207.2.1, if_neg (by omega), g1201.2.1, if_neg (by omega), g1198.2.1, if_neg (by omega), g1192.2.1, if_neg (by omega), g1189.2.1, if_pos ⟨rfl, rfl⟩], by rw [g1213.2.1, if_neg (by omega), g1207.2.1, if_neg (by omega), g1201.2.1, if_neg (by omega), g1198.2.1, if_neg (by omega), g1192.2.1, if_pos ⟨rfl, rfl⟩], by rw [g1213.2.1, if_neg (by omega), g1207.2.1, if_neg (by omega), g1201.2.1, if_neg (by omega), g1198.2.1, if_pos ⟨rfl, rfl⟩, w4], by rw [g1213.2.1, if_neg (by omega), g1207.2.1, if_neg (by omega), g1201.2.1, if_pos ⟨rfl, rfl⟩], by rw [g1213.2.1, if_neg (by omega), g1207.2.1, if_pos ⟨rfl, rfl⟩]⟩, by rw [g1213.2.1, if_neg (by omega), g1207.2.1, if_neg (by omega), g1201.2.1, if_neg (by omega), g1198.2.1, if_neg (by omega), g1192.2.1, if_neg (by omega), g1189.2.1, if_neg (by omega), g1186.2.1, if_neg (by omega), g1183.2.1, if_neg (by omega)], by rw [g1213.2.1, if_neg (by omega), g1207.2.1, if_neg (by omega), g1201.2.1, if_neg (by omega), g1198.2.1, if_neg (by omega), g1192.2.1, if_neg (by omega), g1189.2.1, if_neg (by omega), g1186.2.1, if_neg (by omega), g1183.2.1, if_neg (by omega)], by rw [g1213.1, g1207.1, g1201.1, g1198.1, g1192.1, g1189.1, g1186.1, g1183.1], fun x => ⟨by rw [g1213.2.2.1, g1207.2.2.1, g1201.2.2.1, g1198.2.2.1, g1192.2.2.1, g1189.2.2.1, g1186.2.2.1, g1183.2.2.1], by rw [g1213.2.2.2, g1207.2.2.2, g1201.2.2.2, g1198.2.2.2, g1192.2.2.2, g1189.2.2.2, g1186.2.2.2, g1183.2.2.2]⟩⟩
                    · obtain ⟨-, z⟩ := q1197
                      cases z
                  · obtain ⟨-, z, -⟩ := q1174
                    exact absurd z (by decide)
              · obtain ⟨rfl, q1, q2⟩ := q1167
                rw [zCat_no vh_62_47_1]
                exact ⟨Or.inr (Or.inl rfl), q2, fun z => q1 z.2.1.2.2⟩
            · obtain ⟨rfl, q1, q2⟩ := q1162
              rw [zCat_no vh_62_37_1]
              exact ⟨Or.inr (Or.inl rfl), q2, fun z => q1 z.2.1.2.1⟩
          · obtain ⟨rfl, q1, q2⟩ := q1158
            rw [zCat_no vh_62_28_1]
            exact ⟨Or.inr (Or.inl rfl), q2, fun z => q1 z.2.1.1⟩
        · obtain ⟨rfl, q1, q2⟩ := q1154
          rw [zCat_no vh_62_20_0]
          exact ⟨Or.inl rfl, q2, fun z => q1 z.1.2.2.2⟩
      · obtain ⟨rfl, q1, q2⟩ := q1151
        rw [zCat_no vh_62_14_0]
        exact ⟨Or.inl rfl, q2, fun z => q1 z.1.2.2.1⟩
    · obtain ⟨rfl, q1, q2⟩ := q1148
      rw [zCat_no vh_62_9_0]
      exact ⟨Or.inl rfl, q2, fun z => q1 z.1.2.1⟩
  · obtain ⟨rfl, q1, q2⟩ := q1145
    rw [zCat_no vh_62_3_0]
    exact ⟨Or.inl rfl, q2, fun z => q1 z.1.1⟩
abbrev Q_Ldispute (cnt day : Int32) (p q r m f a g : Int32) (h : List zC) : zK := fun o h2 _ => ∃ k : Int32, o = .inl (some (.int k)) ∧ ((k = 0 ∧ okD p q r m f a g day cnt ∧ ∃ (h1 : List zC) (w : Value), DM h h1 (189 + cnt.toNatClampNeg) cnt p q r m (rfF (fun k => iv h (19 + p.toNatClampNeg) k) f 6) a (day - g) ∧ hPut h1 h2 238 0 w) ∨ (¬ k = 0 ∧ ¬ okD p q r m f a g day cnt ∧ hExt h h2))
theorem C_Ldispute (n : Nat) (p q r m f a g : Int32) (h : List zC) (u : Nat) {cnt day : Int32} (hS : Stc h) (hc : gF h 16 3 = some (.int cnt)) (hd : gF h 16 0 = some (.int day)) : zL zrx zi n 213 0 [(0, .ref 16), (1, .int p), (2, .int q), (3, .int r), (4, .int m), (5, .int f), (6, .int a), (7, .int g), (8, .ref 238)] [] h u (Q_Ldispute cnt day p q r m f a g h) := by
  refine zSaload (m := 2) (k := 8) vr_213_0 rfl rfl rfl ?_
  refine zSaload (m := 1) (k := 0) vr_213_2 rfl rfl rfl ?_
  refine zSiload (m := 1) (k := 1) vr_213_3 rfl rfl rfl (fun x1221 e1221 => ?_)
  cases e1221
  refine zSiload (m := 1) (k := 2) vr_213_4 rfl rfl rfl (fun x1222 e1222 => ?_)
  cases e1222
  refine zSiload (m := 1) (k := 3) vr_213_5 rfl rfl rfl (fun x1223 e1223 => ?_)
  cases e1223
  refine zSiload (m := 2) (k := 4) vr_213_6 rfl rfl rfl (fun x1224 e1224 => ?_)
  cases e1224
  refine zSiload (m := 2) (k := 5) vr_213_8 rfl rfl rfl (fun x1225 e1225 => ?_)
  cases e1225
  refine zSiload (m := 2) (k := 6) vr_213_10 rfl rfl rfl (fun x1226 e1226 => ?_)
  cases e1226
  refine zSiload (m := 2) (k := 7) vr_213_12 rfl rfl rfl (fun x1227 e1227 => ?_)
  cases e1227
  refine zScall vr_213_14 rfl rfl rfl (fun m1228 _ => C_dispute _ _ _ _ _ _ _ _ _ _ hS hc hd) (fun v1228 h1228 u1228 q1228 => ?_) (fun E1228 h1228 u1228 q1228 => ?_)
  · obtain ⟨k1, ⟨x1228, rfl⟩, k2⟩ := q1228
    show zL zrx zi _ 213 17 [(0, _), (1, _), (2, _), (3, _), (4, _), (5, _), (6, _), (7, _), (8, _)] [_, _] _ _ _
    refine zS1 (f := fun x => .long x.toInt64) vr_213_17 rfl rfl (fun x1229 e1229 => ?_)
    cases e1229
    refine zLput vr_213_18 rfl (fun p1230 k1230 e1230 t1230 g1230 => ?_)
    cases e1230
    have gP := g1230
    refine zSgo (t := 36) vr_213_21 rfl rfl ?_
    refine zSp0 (pc' := 37) (st' := .int (0) :: _) vr_213_36 rfl rfl ?_
    refine zLiret vr_213_37 rfl (fun x1233 e1233 => ?_)
    cases e1233
    exact ⟨_, rfl, Or.inl ⟨rfl, k1, _, _, k2, gP⟩⟩
  · obtain ⟨e, q1, z⟩ := q1228
    rcases e with rfl | rfl | rfl
    · rw [zCat_hit (k := 9) (m := 2) vh_213_14_0 vr_213_24 rfl (by decide)]
      show zL zrx zi _ 213 26 [(0, _), (1, _), (2, _), (3, _), (4, _), (5, _), (6, _), (7, _), (8, _)] [] _ _ _
      refine zSp0 (pc' := 27) (st' := .int (1) :: _) vr_213_26 rfl rfl ?_
      refine zLiret vr_213_27 rfl (fun x1235 e1235 => ?_)
      cases e1235
      exact ⟨_, rfl, Or.inr ⟨by decide, z, q1⟩⟩
    · rw [zCat_hit (k := 9) (m := 2) vh_213_14_1 vr_213_28 rfl (by decide)]
      show zL zrx zi _ 213 30 [(0, _), (1, _), (2, _), (3, _), (4, _), (5, _), (6, _), (7, _), (8, _)] [] _ _ _
      refine zSp0 (pc' := 31) (st' := .int (2) :: _) vr_213_30 rfl rfl ?_
      refine zLiret vr_213_31 rfl (fun x1237 e1237 => ?_)
      cases e1237
      exact ⟨_, rfl, Or.inr ⟨by decide, z, q1⟩⟩
    · rw [zCat_hit (k := 9) (m := 2) vh_213_14_2 vr_213_32 rfl (by decide)]
      show zL zrx zi _ 213 34 [(0, _), (1, _), (2, _), (3, _), (4, _), (5, _), (6, _), (7, _), (8, _)] [] _ _ _
      refine zSp0 (pc' := 35) (st' := .int (3) :: _) vr_213_34 rfl rfl ?_
      refine zLiret vr_213_35 rfl (fun x1239 e1239 => ?_)
      cases e1239
      exact ⟨_, rfl, Or.inr ⟨by decide, z, q1⟩⟩
theorem C_icase (n : Nat) (q : Nat) (p q2 r m f a d : Int32) (h : List zC) (u : Nat) : zL zrx zi n 124 0 [(0, .ref q), (1, .int p), (2, .int q2), (3, .int r), (4, .int m), (5, .int f), (6, .int a), (7, .int d)] [] h u (fun o h2 _ => o = .inl none ∧ IC h h2 q p q2 r m f a d) := by
  refine zSaload (m := 1) (k := 0) vr_124_0 rfl rfl rfl ?_
  refine zSobj vr_124_1 rfl ?_
  refine zSaload (m := 1) (k := 0) vr_124_4 rfl rfl rfl ?_
  refine zSp0 (pc' := 6) (st' := .int (-1) :: _) vr_124_5 rfl rfl ?_
  refine zLput vr_124_6 rfl (fun p1244 k1244 e1244 t1244 g1244 => ?_)
  cases e1244
  refine zSaload (m := 1) (k := 0) vr_124_9 rfl rfl rfl ?_
  refine zSp0 (pc' := 11) (st' := .int (-1) :: _) vr_124_10 rfl rfl ?_
  refine zLput vr_124_11 rfl (fun p1247 k1247 e1247 t1247 g1247 => ?_)
  cases e1247
  refine zSaload (m := 1) (k := 0) vr_124_14 rfl rfl rfl ?_
  refine zSiload (m := 1) (k := 1) vr_124_15 rfl rfl rfl (fun x1249 e1249 => ?_)
  cases e1249
  refine zLput vr_124_16 rfl (fun p1250 k1250 e1250 t1250 g1250 => ?_)
  cases e1250
  refine zSaload (m := 1) (k := 0) vr_124_19 rfl rfl rfl ?_
  refine zSiload (m := 1) (k := 2) vr_124_20 rfl rfl rfl (fun x1252 e1252 => ?_)
  cases e1252
  refine zLput vr_124_21 rfl (fun p1253 k1253 e1253 t1253 g1253 => ?_)
  cases e1253
  refine zSaload (m := 1) (k := 0) vr_124_24 rfl rfl rfl ?_
  refine zSiload (m := 1) (k := 3) vr_124_25 rfl rfl rfl (fun x1255 e1255 => ?_)
  cases e1255
  refine zLput vr_124_26 rfl (fun p1256 k1256 e1256 t1256 g1256 => ?_)
  cases e1256
  refine zSaload (m := 1) (k := 0) vr_124_29 rfl rfl rfl ?_
  refine zSiload (m := 2) (k := 4) vr_124_30 rfl rfl rfl (fun x1258 e1258 => ?_)
  cases e1258
  refine zLput vr_124_32 rfl (fun p1259 k1259 e1259 t1259 g1259 => ?_)
  cases e1259
  refine zSaload (m := 1) (k := 0) vr_124_35 rfl rfl rfl ?_
  refine zSiload (m := 2) (k := 5) vr_124_36 rfl rfl rfl (fun x1261 e1261 => ?_)
  cases e1261
  refine zLput vr_124_38 rfl (fun p1262 k1262 e1262 t1262 g1262 => ?_)
  cases e1262
  refine zSaload (m := 1) (k := 0) vr_124_41 rfl rfl rfl ?_
  refine zSiload (m := 2) (k := 6) vr_124_42 rfl rfl rfl (fun x1264 e1264 => ?_)
  cases e1264
  refine zLput vr_124_44 rfl (fun p1265 k1265 e1265 t1265 g1265 => ?_)
  cases e1265
  refine zSaload (m := 1) (k := 0) vr_124_47 rfl rfl rfl ?_
  refine zSiload (m := 2) (k := 7) vr_124_48 rfl rfl rfl (fun x1267 e1267 => ?_)
  cases e1267
  refine zLput vr_124_50 rfl (fun p1268 k1268 e1268 t1268 g1268 => ?_)
  cases e1268
  refine zSvoid vr_124_53 rfl ?_
  exact ⟨rfl, fun x k z => by rw [g1268.2.1, if_neg (fun y => z y.1), g1265.2.1, if_neg (fun y => z y.1), g1262.2.1, if_neg (fun y => z y.1), g1259.2.1, if_neg (fun y => z y.1), g1256.2.1, if_neg (fun y => z y.1), g1253.2.1, if_neg (fun y => z y.1), g1250.2.1, if_neg (fun y => z y.1), g1247.2.1, if_neg (fun y => z y.1), g1244.2.1, if_neg (fun y => z y.1)], ⟨by rw [g1268.2.1, if_neg (by omega), g1265.2.1, if_neg (by omega), g1262.2.1, if_neg (by omega), g1259.2.1, if_neg (by omega), g1256.2.1, if_neg (by omega), g1253.2.1, if_neg (by omega), g1250.2.1, if_pos ⟨rfl, rfl⟩], by rw [g1268.2.1, if_neg (by omega), g1265.2.1, if_neg (by omega), g1262.2.1, if_neg (by omega), g1259.2.1, if_neg (by omega), g1256.2.1, if_neg (by omega), g1253.2.1, if_pos ⟨rfl, rfl⟩], by rw [g1268.2.1, if_neg (by omega), g1265.2.1, if_neg (by omega), g1262.2.1, if_neg (by omega), g1259.2.1, if_neg (by omega), g1256.2.1, if_pos ⟨rfl, rfl⟩], by rw [g1268.2.1, if_neg (by omega), g1265.2.1, if_neg (by omega), g1262.2.1, if_neg (by omega), g1259.2.1, if_pos ⟨rfl, rfl⟩], by rw [g1268.2.1, if_neg (by omega), g1265.2.1, if_neg (by omega), g1262.2.1, if_pos ⟨rfl, rfl⟩], by rw [g1268.2.1, if_neg (by omega), g1265.2.1, if_pos ⟨rfl, rfl⟩], by rw [g1268.2.1, if_pos ⟨rfl, rfl⟩], by rw [g1268.2.1, if_neg (by omega), g1265.2.1, if_neg (by omega), g1262.2.1, if_neg (by omega), g1259.2.1, if_neg (by omega), g1256.2.1, if_neg (by omega), g1253.2.1, if_neg (by omega), g1250.2.1, if_neg (by omega), g1247.2.1, if_neg (by omega), g1244.2.1, if_pos ⟨rfl, rfl⟩], by rw [g1268.2.1, if_neg (by omega), g1265.2.1, if_neg (by omega), g1262.2.1, if_neg (by omega), g1259.2.1, if_neg (by omega), g1256.2.1, if_neg (by omega), g1253.2.1, if_neg (by omega), g1250.2.1, if_neg (by omega), g1247.2.1, if_pos ⟨rfl, rfl⟩]⟩, by rw [g1268.1, g1265.1, g1262.1, g1259.1, g1256.1, g1253.1, g1250.1, g1247.1, g1244.1], fun x => ⟨by rw [g1268.2.2.1, g1265.2.2.1, g1262.2.2.1, g1259.2.2.1, g1256.2.2.1, g1253.2.2.1, g1250.2.2.1, g1247.2.2.1, g1244.2.2.1], by rw [g1268.2.2.2, g1265.2.2.2, g1262.2.2.2, g1259.2.2.2, g1256.2.2.2, g1253.2.2.2, g1250.2.2.2, g1247.2.2.2, g1244.2.2.2]⟩⟩
abbrev Q_mdispute (lc : Nat) (cnt day p q r m f a g : Int32) (h : List zC) : zK := fun o h2 _ => ∃ (x : Int32) (h0 : List zC), o = .inl (some (.int x)) ∧ hPut h h0 213 0 (.int 0) ∧ ((okD p q r m f a g day cnt ∧ MC h h2 lc cnt p q r m (rfF (fun k => iv h (216 + p.toNatClampNeg) k) f 6) a (day - g)) ∨ (¬ okD p q r m f a g day cnt ∧ ∃ k : Int32, ¬ k = 0 ∧ hPut h0 h2 213 0 (.int k)))
set_option maxRecDepth 20000 in
theorem C_mdB {p q r m f a g cnt day : Int32} {lc l : Nat} {h hk : List zC} (hS : Stc h) (hs : gF h 224 2 = some (.int cnt)) (hL : gF h 224 1 = some (.ref lc)) (hn : gN h lc = some l) (hl2 : l < 2147483648) (tE : ∃ t, gT h lc = some t ∧ 93 ≤ t) (h24 : cnt.toInt ≤ 24) (h213 : ¬ lc = 213) (hd : gF h 213 1 = some (.int day)) (t0 : hPut h hk 213 0 (.int 0)) (ok : okD p q r m f a g day cnt) (n u : Nat) : zL zrx zi n 156 159 [(9, .int (Int32.ofNat 6)), (8, .int (rfF (fun k => iv h (216 + p.toNatClampNeg) k) f 6)), (0, .ref 213), (1, .int p), (2, .int q), (3, .int r), (4, .int m), (5, .int f), (6, .int a), (7, .int g)] [] hk u (Q_mdispute lc cnt day p q r m f a g h) := by
  have hS0 := hS.thr t0
  have f0 : ∀ q k, ¬ (q = 213 ∧ k = 0) → gF hk q k = gF h q k := fun q k z => by rw [t0.2.1, if_neg z]
  refine zSaload (m := 1) (k := 0) vr_156_159 rfl rfl rfl ?_
  refine zLget vr_156_160 rfl (fun p1271 w1271 e1271 t1271 g1271 => ?_)
  cases e1271
  first | (rw [(st_213_8 hS0)] at g1271; cases g1271) | skip
  refine zLnew2 vr_156_163 rfl (fun k1272 u1272 g1272 => ?_)
  have hd1 : gF k1272 213 1 = some (.int day) := by
    rw [g1272.ext.fld (by have := hS0.1; omega), f0 213 1 (by omega)]
    exact hd
  refine zSdup vr_156_166 rfl ?_
  refine zSiload (m := 1) (k := 1) vr_156_167 rfl rfl rfl (fun x1274 e1274 => ?_)
  cases e1274
  refine zSiload (m := 1) (k := 2) vr_156_168 rfl rfl rfl (fun x1275 e1275 => ?_)
  cases e1275
  refine zSiload (m := 1) (k := 3) vr_156_169 rfl rfl rfl (fun x1276 e1276 => ?_)
  cases e1276
  refine zSiload (m := 2) (k := 4) vr_156_170 rfl rfl rfl (fun x1277 e1277 => ?_)
  cases e1277
  refine zSiload (m := 2) (k := 8) vr_156_172 rfl rfl rfl (fun x1278 e1278 => ?_)
  cases e1278
  refine zSiload (m := 2) (k := 6) vr_156_174 rfl rfl rfl (fun x1279 e1279 => ?_)
  cases e1279
  refine zSaload (m := 1) (k := 0) vr_156_176 rfl rfl rfl ?_
  refine zLget vr_156_177 rfl (fun p1281 w1281 e1281 t1281 g1281 => ?_)
  cases e1281
  first | (rw [hd1] at g1281; cases g1281) | skip
  refine zSiload (m := 2) (k := 7) vr_156_180 rfl rfl rfl (fun x1282 e1282 => ?_)
  cases e1282
  refine zS2 (f := fun x y => .int (x - y)) vr_156_182 rfl rfl (fun x1283 y1283 e1283 f1283 => ?_)
  cases e1283
  cases f1283
  refine zScall vr_156_183 rfl rfl rfl (fun m1284 _ => C_icase _ _ _ _ _ _ _ _ _ _ _) (fun v1284 h1284 u1284 q1284 => ?_) (fun E1284 h1284 u1284 q1284 => ?_)
  · have z1284 := q1284.1
    cases z1284
    show zL zrx zi _ 156 186 [(9, _), (8, _), (0, _), (1, _), (2, _), (3, _), (4, _), (5, _), (6, _), (7, _)] [_, _] _ _ _
    have im := q1284.2
    have hel := gN_lt hn
    have lk : hk.length = h.length := t0.1
    have hh := hS.1
    have n1 : ∀ q, q < h.length → gT h1284 q = gT h q ∧ gN h1284 q = gN h q := fun q hq => by
      rw [(im.2.2.2 q).1, (im.2.2.2 q).2, (g1272.ext.T (by omega)).1, (g1272.ext.T (by omega)).2, t0.2.2.1, t0.2.2.2]
      exact ⟨rfl, rfl⟩
    have f1 : ∀ q k, q < h.length → ¬ (q = 213 ∧ k = 0) → gF h1284 q k = gF h q k := fun q k hq z => by
      rw [im.1 q k (by omega), g1272.ext.fld (by omega), f0 q k z]
    refine zScall vr_156_186 rfl rfl rfl (fun m1285 _ => C_add _ _ _ _ _ ((f1 224 1 (by omega) (by omega)).trans hL) ((f1 224 2 (by omega) (by omega)).trans hs) ((n1 lc hel).2.trans hn) hl2 (by rw [(n1 lc hel).1]; exact tE)) (fun v1285 h1285 u1285 q1285 => ?_) (fun E1285 h1285 u1285 q1285 => ?_)
    · obtain ⟨z1285, kA⟩ := q1285
      cases z1285
      show zL zrx zi _ 156 191 [(9, _), (8, _), (0, _), (1, _), (2, _), (3, _), (4, _), (5, _), (6, _), (7, _)] [_] _ _ _
      refine zSpop vr_156_191 rfl ?_
      have a7 := kA.2.2
      obtain ⟨ane, el2, b1, b2, b3, b4, b5, b6, b7⟩ := a7
      have f2 := (b6 213 (by rw [im.2.2.1, g1272.len]; omega) (by omega) (fun z => h213 z.symm) 8).trans ((f1 213 8 (by omega) (by omega)).trans (st_213_8 hS))
      refine zSaload (m := 1) (k := 0) vr_156_192 rfl rfl rfl ?_
      refine zLget vr_156_193 rfl (fun p1288 w1288 e1288 t1288 g1288 => ?_)
      cases e1288
      first | (rw [f2] at g1288; cases g1288) | skip
      refine zScall vr_156_196 rfl rfl rfl (fun m1289 _ => C_lsize _ _ _ _ b2) (fun v1289 h1289 u1289 q1289 => ?_) (fun E1289 h1289 u1289 q1289 => ?_)
      · obtain ⟨eh1289, z1289⟩ := q1289
        replace eh1289 := eh1289.symm
        subst eh1289
        cases z1289
        show zL zrx zi _ 156 201 [(9, _), (8, _), (0, _), (1, _), (2, _), (3, _), (4, _), (5, _), (6, _), (7, _)] [_] _ _ _
        refine zSp0 (pc' := 202) (st' := .int (1) :: _) vr_156_201 rfl rfl ?_
        refine zS2 (f := fun x y => .int (x - y)) vr_156_202 rfl rfl (fun x1291 y1291 e1291 f1291 => ?_)
        cases e1291
        cases f1291
        refine zLiret vr_156_203 rfl (fun x1292 e1292 => ?_)
        cases e1292
        exact ⟨_, _, rfl, t0, Or.inl ⟨ok, mc_end hh hel h213 t0 g1272 im kA⟩⟩
      · obtain ⟨-, z⟩ := q1289
        cases z
    · obtain ⟨z, -⟩ := q1285
      cases z
  · cases q1284.1
set_option maxRecDepth 20000 in
theorem C_mdL {p q r m f a g : Int32} {hk : List zC} {K : zK} (hS0 : Stc hk) (ip : iN 6 p) (W : Nat → Int32) (hW : ∀ k, W k = iv hk (216 + p.toNatClampNeg) k) (HB : ∀ n u, zL zrx zi n 156 159 [(9, .int (Int32.ofNat 6)), (8, .int (rfF W f 6)), (0, .ref 213), (1, .int p), (2, .int q), (3, .int r), (4, .int m), (5, .int f), (6, .int a), (7, .int g)] [] hk u K) : ∀ (n k : Nat) (R : Int32) (u : Nat), k ≤ 6 → rfF W f k = R → zL zrx zi n 156 116 [(9, .int (Int32.ofNat k)), (8, .int R), (0, .ref 213), (1, .int p), (2, .int q), (3, .int r), (4, .int m), (5, .int f), (6, .int a), (7, .int g)] [] hk u K
  | 0, _, _, _, _, _ => trivial
  | n + 1, k, R, u, hk6, hD => by
    have kk := (toNat_ofNat (m := k) (by omega))
    have z6 : (6 : Int32).toInt = 6 := rfl
    have hp := iN_lt (m := 6) ip
    refine zLp vr_156_116 rfl rfl ?_
    refine zSp0 (pc' := 120) (st' := .int (6) :: _) vr_156_118 rfl rfl ?_
    refine zSb2 (f := fun x y => decide (y ≤ x)) (off := 39) (t := 159) vr_156_120 rfl rfl rfl (fun x1294 y1294 e1294 f1294 q1294 => ?_) (fun x1294 y1294 e1294 f1294 q1294 => ?_)
    · cases e1294
      cases f1294
      have c1294 := of_decide_eq_true q1294
      have y := c1294
      rw [i32_le, kk.2, z6] at y
      have e : k = 6 := by omega
      subst e
      rw [← hD]
      exact HB _ _
    · cases e1294
      cases f1294
      have c1294 := ndc q1294
      refine zSiload (m := 2) (k := 8) vr_156_123 rfl rfl rfl (fun x1295 e1295 => ?_)
      cases e1295
      refine zSiload (m := 2) (k := 5) vr_156_125 rfl rfl rfl (fun x1296 e1296 => ?_)
      cases e1296
      refine zSiload (m := 2) (k := 9) vr_156_127 rfl rfl rfl (fun x1297 e1297 => ?_)
      cases e1297
      refine zScall vr_156_129 rfl rfl rfl (fun m1298 _ => C_has _ _ _ _ _) (fun v1298 h1298 u1298 q1298 => ?_) (fun E1298 h1298 u1298 q1298 => ?_)
      · obtain ⟨eh1298, z1298⟩ := q1298
        replace eh1298 := eh1298.symm
        subst eh1298
        cases z1298
        show zL zrx zi _ 156 132 [(9, _), (8, _), (0, _), (1, _), (2, _), (3, _), (4, _), (5, _), (6, _), (7, _)] [_, _] _ _ _
        refine zSb1 (f := fun x => decide (x = 0)) (off := 17) (t := 149) vr_156_132 rfl rfl rfl (fun x1299 e1299 q1299 => ?_) (fun x1299 e1299 q1299 => ?_)
        · cases e1299
          have c1299 := of_decide_eq_true q1299
          refine zSp0 (pc' := 150) (st' := .int (0) :: _) vr_156_149 rfl rfl ?_
          refine zS2 (f := fun x y => .int (x ||| y)) vr_156_150 rfl rfl (fun x1301 y1301 e1301 f1301 => ?_)
          cases e1301
          cases f1301
          refine zSistore (m := 2) (k := 8) vr_156_151 rfl rfl (fun x1302 e1302 => ?_)
          cases e1302
          show zL zrx zi _ 156 153 [(8, _), (9, _), (0, _), (1, _), (2, _), (3, _), (4, _), (5, _), (6, _), (7, _)] [] _ _ _
          refine zSiinc vr_156_153 rfl rfl (fun x1303 e1303 => ?_)
          cases e1303
          show zL zrx zi _ 156 156 [(9, _), (8, _), (0, _), (1, _), (2, _), (3, _), (4, _), (5, _), (6, _), (7, _)] [] _ _ _
          refine zSgo (t := 116) vr_156_156 rfl rfl ?_
          rw [ofNat_succ]
          refine zL_pm _ _ _ [(9, _), (8, _), (0, _), (1, _), (2, _), (3, _), (4, _), (5, _), (6, _), (7, _)] _ _ _ _ _ ⟨(List.forall_mem_cons.mpr ⟨List.mem_cons_self, (List.forall_mem_cons.mpr ⟨(List.mem_cons_of_mem _ List.mem_cons_self), (List.forall_mem_cons.mpr ⟨(List.mem_cons_of_mem _ (List.mem_cons_of_mem _ List.mem_cons_self)), (List.forall_mem_cons.mpr ⟨(List.mem_cons_of_mem _ (List.mem_cons_of_mem _ (List.mem_cons_of_mem _ List.mem_cons_self))), (List.forall_mem_cons.mpr ⟨(List.mem_cons_of_mem _ (List.mem_cons_of_mem _ (List.mem_cons_of_mem _ (List.mem_cons_of_mem _ List.mem_cons_self)))), (List.forall_mem_cons.mpr ⟨(List.mem_cons_of_mem _ (List.mem_cons_of_mem _ (List.mem_cons_of_mem _ (List.mem_cons_of_mem _ (List.mem_cons_of_mem _ List.mem_cons_self))))), (List.forall_mem_cons.mpr ⟨(List.mem_cons_of_mem _ (List.mem_cons_of_mem _ (List.mem_cons_of_mem _ (List.mem_cons_of_mem _ (List.mem_cons_of_mem _ (List.mem_cons_of_mem _ List.mem_cons_self)))))), (List.forall_mem_cons.mpr ⟨(List.mem_cons_of_mem _ (List.mem_cons_of_mem _ (List.mem_cons_of_mem _ (List.mem_cons_of_mem _ (List.mem_cons_of_mem _ (List.mem_cons_of_mem _ (List.mem_cons_of_mem _ List.mem_cons_self))))))), (List.forall_mem_cons.mpr ⟨(List.mem_cons_of_mem _ (List.mem_cons_of_mem _ (List.mem_cons_of_mem _ (List.mem_cons_of_mem _ (List.mem_cons_of_mem _ (List.mem_cons_of_mem _ (List.mem_cons_of_mem _ (List.mem_cons_of_mem _ List.mem_cons_self)))))))), (List.forall_mem_cons.mpr ⟨(List.mem_cons_of_mem _ (List.mem_cons_of_mem _ (List.mem_cons_of_mem _ (List.mem_cons_of_mem _ (List.mem_cons_of_mem _ (List.mem_cons_of_mem _ (List.mem_cons_of_mem _ (List.mem_cons_of_mem _ (List.mem_cons_of_mem _ List.mem_cons_self))))))))), (fun _ h => absurd h List.not_mem_nil)⟩)⟩)⟩)⟩)⟩)⟩)⟩)⟩)⟩)⟩), show ([9, 8, 0, 1, 2, 3, 4, 5, 6, 7] : List Nat).Nodup by decide⟩ (C_mdL hS0 ip W hW HB n (k + 1) _ _ (by have y := c1294; rw [i32_le, kk.2, z6] at y; omega) ?_)
          first
            | exact ((rfF_n (hs_n c1299)).trans hD).trans (by simp)
            | exact (rfF_y (hs_y c1299)).trans (by rw [hD, hW, ← kk.1, iv_of g1214])
        · cases e1299
          have c1299 := ndc q1299
          refine zSp0 (pc' := 136) (st' := .int (1) :: _) vr_156_135 rfl rfl ?_
          refine zSaload (m := 1) (k := 0) vr_156_136 rfl rfl rfl ?_
          refine zLget vr_156_137 rfl (fun p1307 w1307 e1307 t1307 g1307 => ?_)
          cases e1307
          first | (rw [(st_213_5 hS0)] at g1307; cases g1307) | (rw [(st_mrow hS0 hp)] at g1307; cases g1307) | skip
          refine zSiload (m := 1) (k := 1) vr_156_140 rfl rfl rfl (fun x1308 e1308 => ?_)
          cases e1308
          refine zLaald vr_156_141 rfl (fun p1309 x1309 w1309 e1309 f1309 c1309 t1309 g1309 => ?_)
          cases e1309
          cases f1309
          first | (rw [(st_213_5 hS0)] at g1309; cases g1309) | (rw [(st_mrow hS0 hp)] at g1309; cases g1309) | skip
          refine zSiload (m := 2) (k := 9) vr_156_142 rfl rfl rfl (fun x1310 e1310 => ?_)
          cases e1310
          refine zLiald vr_156_144 rfl (fun p1311 x1311 w1311 e1311 f1311 c1311 t1311 g1311 => ?_)
          cases e1311
          cases f1311
          first | (rw [(st_213_5 hS0)] at g1311; cases g1311) | (rw [(st_mrow hS0 hp)] at g1311; cases g1311) | skip
          refine zS2 (f := fun x y => .int (x <<< (y &&& 31))) vr_156_145 rfl rfl (fun x1312 y1312 e1312 f1312 => ?_)
          cases e1312
          cases f1312
          refine zSgo (t := 150) vr_156_146 rfl rfl ?_
          refine zS2 (f := fun x y => .int (x ||| y)) vr_156_150 rfl rfl (fun x1314 y1314 e1314 f1314 => ?_)
          cases e1314
          cases f1314
          refine zSistore (m := 2) (k := 8) vr_156_151 rfl rfl (fun x1315 e1315 => ?_)
          cases e1315
          show zL zrx zi _ 156 153 [(8, _), (9, _), (0, _), (1, _), (2, _), (3, _), (4, _), (5, _), (6, _), (7, _)] [] _ _ _
          refine zSiinc vr_156_153 rfl rfl (fun x1316 e1316 => ?_)
          cases e1316
          show zL zrx zi _ 156 156 [(9, _), (8, _), (0, _), (1, _), (2, _), (3, _), (4, _), (5, _), (6, _), (7, _)] [] _ _ _
          refine zSgo (t := 116) vr_156_156 rfl rfl ?_
          rw [ofNat_succ]
          refine zL_pm _ _ _ [(9, _), (8, _), (0, _), (1, _), (2, _), (3, _), (4, _), (5, _), (6, _), (7, _)] _ _ _ _ _ ⟨(List.forall_mem_cons.mpr ⟨List.mem_cons_self, (List.forall_mem_cons.mpr ⟨(List.mem_cons_of_mem _ List.mem_cons_self), (List.forall_mem_cons.mpr ⟨(List.mem_cons_of_mem _ (List.mem_cons_of_mem _ List.mem_cons_self)), (List.forall_mem_cons.mpr ⟨(List.mem_cons_of_mem _ (List.mem_cons_of_mem _ (List.mem_cons_of_mem _ List.mem_cons_self))), (List.forall_mem_cons.mpr ⟨(List.mem_cons_of_mem _ (List.mem_cons_of_mem _ (List.mem_cons_of_mem _ (List.mem_cons_of_mem _ List.mem_cons_self)))), (List.forall_mem_cons.mpr ⟨(List.mem_cons_of_mem _ (List.mem_cons_of_mem _ (List.mem_cons_of_mem _ (List.mem_cons_of_mem _ (List.mem_cons_of_mem _ List.mem_cons_self))))), (List.forall_mem_cons.mpr ⟨(List.mem_cons_of_mem _ (List.mem_cons_of_mem _ (List.mem_cons_of_mem _ (List.mem_cons_of_mem _ (List.mem_cons_of_mem _ (List.mem_cons_of_mem _ List.mem_cons_self)))))), (List.forall_mem_cons.mpr ⟨(List.mem_cons_of_mem _ (List.mem_cons_of_mem _ (List.mem_cons_of_mem _ (List.mem_cons_of_mem _ (List.mem_cons_of_mem _ (List.mem_cons_of_mem _ (List.mem_cons_of_mem _ List.mem_cons_self))))))), (List.forall_mem_cons.mpr ⟨(List.mem_cons_of_mem _ (List.mem_cons_of_mem _ (List.mem_cons_of_mem _ (List.mem_cons_of_mem _ (List.mem_cons_of_mem _ (List.mem_cons_of_mem _ (List.mem_cons_of_mem _ (List.mem_cons_of_mem _ List.mem_cons_self)))))))), (List.forall_mem_cons.mpr ⟨(List.mem_cons_of_mem _ (List.mem_cons_of_mem _ (List.mem_cons_of_mem _ (List.mem_cons_of_mem _ (List.mem_cons_of_mem _ (List.mem_cons_of_mem _ (List.mem_cons_of_mem _ (List.mem_cons_of_mem _ (List.mem_cons_of_mem _ List.mem_cons_self))))))))), (fun _ h => absurd h List.not_mem_nil)⟩)⟩)⟩)⟩)⟩)⟩)⟩)⟩)⟩)⟩), show ([9, 8, 0, 1, 2, 3, 4, 5, 6, 7] : List Nat).Nodup by decide⟩ (C_mdL hS0 ip W hW HB n (k + 1) _ _ (by have y := c1294; rw [i32_le, kk.2, z6] at y; omega) ?_)
          first
            | exact ((rfF_n (hs_n c1299)).trans hD).trans (by simp)
            | exact (rfF_y (hs_y c1299)).trans (by rw [hD, hW, ← kk.1, iv_of g1311])
      · obtain ⟨-, z⟩ := q1298
        cases z
set_option maxRecDepth 20000 in
theorem C_mdispute (n : Nat) (p q r m f a g : Int32) (h : List zC) (u : Nat) {cnt day : Int32} {lc l : Nat} (hS : Stc h) (hs : gF h 224 2 = some (.int cnt)) (hL : gF h 224 1 = some (.ref lc)) (hn : gN h lc = some l) (hl2 : l < 2147483648) (tE : ∃ t, gT h lc = some t ∧ 93 ≤ t) (h24 : cnt.toInt ≤ 24) (h213 : ¬ lc = 213) (hd : gF h 213 1 = some (.int day)) : zL zrx zi n 156 0 [(0, .ref 213), (1, .int p), (2, .int q), (3, .int r), (4, .int m), (5, .int f), (6, .int a), (7, .int g)] [] h u (Q_mdispute lc cnt day p q r m f a g h) := by
  refine zSaload (m := 1) (k := 0) vr_156_0 rfl rfl rfl ?_
  refine zSp0 (pc' := 2) (st' := .int (0) :: _) vr_156_1 rfl rfl ?_
  refine zLput vr_156_2 rfl (fun p1320 k1320 e1320 t1320 g1320 => ?_)
  cases e1320
  have t0 := g1320
  have hS0 := hS.thr t0
  have f0 : ∀ q k, ¬ (q = 213 ∧ k = 0) → gF k1320 q k = gF h q k := fun q k z => by rw [t0.2.1, if_neg z]
  have hs0 := (f0 224 2 (by omega)).trans hs
  have hd0 := (f0 213 1 (by omega)).trans hd
  refine zSiload (m := 1) (k := 1) vr_156_5 rfl rfl rfl (fun x1321 e1321 => ?_)
  cases e1321
  refine zSp0 (pc' := 7) (st' := .int (0) :: _) vr_156_6 rfl rfl ?_
  refine zSp0 (pc' := 8) (st' := .int (5) :: _) vr_156_7 rfl rfl ?_
  refine zScall vr_156_8 rfl rfl rfl (fun m1324 _ => C_in _ _ _ _ _ _) (fun v1324 h1324 u1324 q1324 => ?_) (fun E1324 h1324 u1324 q1324 => ?_)
  · obtain ⟨eh1324, z1324⟩ := q1324
    replace eh1324 := eh1324.symm
    subst eh1324
    cases z1324
    show zL zrx zi _ 156 11 [(0, _), (1, _), (2, _), (3, _), (4, _), (5, _), (6, _), (7, _)] [_] _ _ _
    refine zSb1 (f := fun x => decide (x = 0)) (off := 31) (t := 42) vr_156_11 rfl rfl rfl (fun x1325 e1325 q1325 => ?_) (fun x1325 e1325 q1325 => ?_)
    · cases e1325
      have c1325 := of_decide_eq_true q1325
      refine zSaload (m := 1) (k := 0) vr_156_42 rfl rfl rfl ?_
      refine zSp0 (pc' := 44) (st' := .int (1) :: _) vr_156_43 rfl rfl ?_
      refine zScall vr_156_44 rfl rfl rfl (fun m1328 _ => C_no _ _ _ _ _) (fun v1328 h1328 u1328 q1328 => ?_) (fun E1328 h1328 u1328 q1328 => ?_)
      · obtain ⟨gn1328, z1328⟩ := q1328
        cases z1328
        show zL zrx zi _ 156 47 [(0, _), (1, _), (2, _), (3, _), (4, _), (5, _), (6, _), (7, _)] [_] _ _ _
        refine zLiret vr_156_47 rfl (fun x1329 e1329 => ?_)
        cases e1329
        first
          | exact ⟨_, _, rfl, t0, Or.inr ⟨fun z => in_n (x := p) (hi := 5) (m := 6) (by decide) c1325 z.1.1, _, by decide, gn1328⟩⟩
          | exact ⟨_, _, rfl, t0, Or.inr ⟨fun z => in_n (x := q) (hi := 5) (m := 6) (by decide) c1252 z.1.2.1, _, by decide, gn1328⟩⟩
          | exact ⟨_, _, rfl, t0, Or.inr ⟨fun z => in_n (x := r) (hi := 3) (m := 4) (by decide) c1257 z.1.2.2.1, _, by decide, gn1328⟩⟩
          | exact ⟨_, _, rfl, t0, Or.inr ⟨fun z => in_n (x := m) (hi := 3) (m := 4) (by decide) (Decidable.not_not.mp c1138) z.1.2.2.2, _, by decide, gn1328⟩⟩
      · obtain ⟨-, z⟩ := q1328
        cases z
    · cases e1325
      have c1325 := ndc q1325
      refine zSiload (m := 1) (k := 2) vr_156_14 rfl rfl rfl (fun x1330 e1330 => ?_)
      cases e1330
      refine zSp0 (pc' := 16) (st' := .int (0) :: _) vr_156_15 rfl rfl ?_
      refine zSp0 (pc' := 17) (st' := .int (5) :: _) vr_156_16 rfl rfl ?_
      refine zScall vr_156_17 rfl rfl rfl (fun m1333 _ => C_in _ _ _ _ _ _) (fun v1333 h1333 u1333 q1333 => ?_) (fun E1333 h1333 u1333 q1333 => ?_)
      · obtain ⟨eh1333, z1333⟩ := q1333
        replace eh1333 := eh1333.symm
        subst eh1333
        cases z1333
        show zL zrx zi _ 156 20 [(0, _), (1, _), (2, _), (3, _), (4, _), (5, _), (6, _), (7, _)] [_] _ _ _
        refine zSb1 (f := fun x => decide (x = 0)) (off := 22) (t := 42) vr_156_20 rfl rfl rfl (fun x1334 e1334 q1334 => ?_) (fun x1334 e1334 q1334 => ?_)
        · cases e1334
          have c1334 := of_decide_eq_true q1334
          refine zSaload (m := 1) (k := 0) vr_156_42 rfl rfl rfl ?_
          refine zSp0 (pc' := 44) (st' := .int (1) :: _) vr_156_43 rfl rfl ?_
          refine zScall vr_156_44 rfl rfl rfl (fun m1337 _ => C_no _ _ _ _ _) (fun v1337 h1337 u1337 q1337 => ?_) (fun E1337 h1337 u1337 q1337 => ?_)
          · obtain ⟨gn1337, z1337⟩ := q1337
            cases z1337
            show zL zrx zi _ 156 47 [(0, _), (1, _), (2, _), (3, _), (4, _), (5, _), (6, _), (7, _)] [_] _ _ _
            refine zLiret vr_156_47 rfl (fun x1338 e1338 => ?_)
            cases e1338
            first
              | exact ⟨_, _, rfl, t0, Or.inr ⟨fun z => in_n (x := p) (hi := 5) (m := 6) (by decide) c1325 z.1.1, _, by decide, gn1337⟩⟩
              | exact ⟨_, _, rfl, t0, Or.inr ⟨fun z => in_n (x := q) (hi := 5) (m := 6) (by decide) c1334 z.1.2.1, _, by decide, gn1337⟩⟩
              | exact ⟨_, _, rfl, t0, Or.inr ⟨fun z => in_n (x := r) (hi := 3) (m := 4) (by decide) c1257 z.1.2.2.1, _, by decide, gn1337⟩⟩
              | exact ⟨_, _, rfl, t0, Or.inr ⟨fun z => in_n (x := m) (hi := 3) (m := 4) (by decide) (Decidable.not_not.mp c1138) z.1.2.2.2, _, by decide, gn1337⟩⟩
          · obtain ⟨-, z⟩ := q1337
            cases z
        · cases e1334
          have c1334 := ndc q1334
          refine zSiload (m := 1) (k := 3) vr_156_23 rfl rfl rfl (fun x1339 e1339 => ?_)
          cases e1339
          refine zSp0 (pc' := 25) (st' := .int (0) :: _) vr_156_24 rfl rfl ?_
          refine zSp0 (pc' := 26) (st' := .int (3) :: _) vr_156_25 rfl rfl ?_
          refine zScall vr_156_26 rfl rfl rfl (fun m1342 _ => C_in _ _ _ _ _ _) (fun v1342 h1342 u1342 q1342 => ?_) (fun E1342 h1342 u1342 q1342 => ?_)
          · obtain ⟨eh1342, z1342⟩ := q1342
            replace eh1342 := eh1342.symm
            subst eh1342
            cases z1342
            show zL zrx zi _ 156 29 [(0, _), (1, _), (2, _), (3, _), (4, _), (5, _), (6, _), (7, _)] [_] _ _ _
            refine zSb1 (f := fun x => decide (x = 0)) (off := 13) (t := 42) vr_156_29 rfl rfl rfl (fun x1343 e1343 q1343 => ?_) (fun x1343 e1343 q1343 => ?_)
            · cases e1343
              have c1343 := of_decide_eq_true q1343
              refine zSaload (m := 1) (k := 0) vr_156_42 rfl rfl rfl ?_
              refine zSp0 (pc' := 44) (st' := .int (1) :: _) vr_156_43 rfl rfl ?_
              refine zScall vr_156_44 rfl rfl rfl (fun m1346 _ => C_no _ _ _ _ _) (fun v1346 h1346 u1346 q1346 => ?_) (fun E1346 h1346 u1346 q1346 => ?_)
              · obtain ⟨gn1346, z1346⟩ := q1346
                cases z1346
                show zL zrx zi _ 156 47 [(0, _), (1, _), (2, _), (3, _), (4, _), (5, _), (6, _), (7, _)] [_] _ _ _
                refine zLiret vr_156_47 rfl (fun x1347 e1347 => ?_)
                cases e1347
                first
                  | exact ⟨_, _, rfl, t0, Or.inr ⟨fun z => in_n (x := p) (hi := 5) (m := 6) (by decide) c1325 z.1.1, _, by decide, gn1346⟩⟩
                  | exact ⟨_, _, rfl, t0, Or.inr ⟨fun z => in_n (x := q) (hi := 5) (m := 6) (by decide) c1334 z.1.2.1, _, by decide, gn1346⟩⟩
                  | exact ⟨_, _, rfl, t0, Or.inr ⟨fun z => in_n (x := r) (hi := 3) (m := 4) (by decide) c1343 z.1.2.2.1, _, by decide, gn1346⟩⟩
                  | exact ⟨_, _, rfl, t0, Or.inr ⟨fun z => in_n (x := m) (hi := 3) (m := 4) (by decide) (Decidable.not_not.mp c1138) z.1.2.2.2, _, by decide, gn1346⟩⟩
              · obtain ⟨-, z⟩ := q1346
                cases z
            · cases e1343
              have c1343 := ndc q1343
              refine zSiload (m := 2) (k := 4) vr_156_32 rfl rfl rfl (fun x1348 e1348 => ?_)
              cases e1348
              refine zSp0 (pc' := 35) (st' := .int (0) :: _) vr_156_34 rfl rfl ?_
              refine zSp0 (pc' := 36) (st' := .int (3) :: _) vr_156_35 rfl rfl ?_
              refine zScall vr_156_36 rfl rfl rfl (fun m1351 _ => C_in _ _ _ _ _ _) (fun v1351 h1351 u1351 q1351 => ?_) (fun E1351 h1351 u1351 q1351 => ?_)
              · obtain ⟨eh1351, z1351⟩ := q1351
                replace eh1351 := eh1351.symm
                subst eh1351
                cases z1351
                show zL zrx zi _ 156 39 [(0, _), (1, _), (2, _), (3, _), (4, _), (5, _), (6, _), (7, _)] [_] _ _ _
                refine zSb1 (f := fun x => decide (¬ x = 0)) (off := 9) (t := 48) vr_156_39 rfl rfl rfl (fun x1352 e1352 q1352 => ?_) (fun x1352 e1352 q1352 => ?_)
                · cases e1352
                  have c1352 := of_decide_eq_true q1352
                  refine zSiload (m := 2) (k := 5) vr_156_48 rfl rfl rfl (fun x1353 e1353 => ?_)
                  cases e1353
                  refine zSp0 (pc' := 51) (st' := .int (0) :: _) vr_156_50 rfl rfl ?_
                  refine zSp0 (pc' := 53) (st' := .int (63) :: _) vr_156_51 rfl rfl ?_
                  refine zScall vr_156_53 rfl rfl rfl (fun m1356 _ => C_in _ _ _ _ _ _) (fun v1356 h1356 u1356 q1356 => ?_) (fun E1356 h1356 u1356 q1356 => ?_)
                  · obtain ⟨eh1356, z1356⟩ := q1356
                    replace eh1356 := eh1356.symm
                    subst eh1356
                    cases z1356
                    show zL zrx zi _ 156 56 [(0, _), (1, _), (2, _), (3, _), (4, _), (5, _), (6, _), (7, _)] [_] _ _ _
                    refine zSb1 (f := fun x => decide (x = 0)) (off := 28) (t := 84) vr_156_56 rfl rfl rfl (fun x1357 e1357 q1357 => ?_) (fun x1357 e1357 q1357 => ?_)
                    · cases e1357
                      have c1357 := of_decide_eq_true q1357
                      refine zSaload (m := 1) (k := 0) vr_156_84 rfl rfl rfl ?_
                      refine zSp0 (pc' := 86) (st' := .int (2) :: _) vr_156_85 rfl rfl ?_
                      refine zScall vr_156_86 rfl rfl rfl (fun m1360 _ => C_no _ _ _ _ _) (fun v1360 h1360 u1360 q1360 => ?_) (fun E1360 h1360 u1360 q1360 => ?_)
                      · obtain ⟨gn1360, z1360⟩ := q1360
                        cases z1360
                        show zL zrx zi _ 156 89 [(0, _), (1, _), (2, _), (3, _), (4, _), (5, _), (6, _), (7, _)] [_] _ _ _
                        refine zLiret vr_156_89 rfl (fun x1361 e1361 => ?_)
                        cases e1361
                        first
                          | exact ⟨_, _, rfl, t0, Or.inr ⟨fun z => inB_n c1357 z.2.1.1, _, by decide, gn1360⟩⟩
                          | exact ⟨_, _, rfl, t0, Or.inr ⟨fun z => inB_n c1176 z.2.1.2.1, _, by decide, gn1360⟩⟩
                          | exact ⟨_, _, rfl, t0, Or.inr ⟨fun z => inB_n (Decidable.not_not.mp c1183) z.2.1.2.2, _, by decide, gn1360⟩⟩
                      · obtain ⟨-, z⟩ := q1360
                        cases z
                    · cases e1357
                      have c1357 := ndc q1357
                      refine zSiload (m := 2) (k := 6) vr_156_59 rfl rfl rfl (fun x1362 e1362 => ?_)
                      cases e1362
                      refine zSp0 (pc' := 62) (st' := .int (0) :: _) vr_156_61 rfl rfl ?_
                      refine zSp0 (pc' := 65) (st' := .int (999) :: _) vr_156_62 rfl rfl ?_
                      refine zScall vr_156_65 rfl rfl rfl (fun m1365 _ => C_in _ _ _ _ _ _) (fun v1365 h1365 u1365 q1365 => ?_) (fun E1365 h1365 u1365 q1365 => ?_)
                      · obtain ⟨eh1365, z1365⟩ := q1365
                        replace eh1365 := eh1365.symm
                        subst eh1365
                        cases z1365
                        show zL zrx zi _ 156 68 [(0, _), (1, _), (2, _), (3, _), (4, _), (5, _), (6, _), (7, _)] [_] _ _ _
                        refine zSb1 (f := fun x => decide (x = 0)) (off := 16) (t := 84) vr_156_68 rfl rfl rfl (fun x1366 e1366 q1366 => ?_) (fun x1366 e1366 q1366 => ?_)
                        · cases e1366
                          have c1366 := of_decide_eq_true q1366
                          refine zSaload (m := 1) (k := 0) vr_156_84 rfl rfl rfl ?_
                          refine zSp0 (pc' := 86) (st' := .int (2) :: _) vr_156_85 rfl rfl ?_
                          refine zScall vr_156_86 rfl rfl rfl (fun m1369 _ => C_no _ _ _ _ _) (fun v1369 h1369 u1369 q1369 => ?_) (fun E1369 h1369 u1369 q1369 => ?_)
                          · obtain ⟨gn1369, z1369⟩ := q1369
                            cases z1369
                            show zL zrx zi _ 156 89 [(0, _), (1, _), (2, _), (3, _), (4, _), (5, _), (6, _), (7, _)] [_] _ _ _
                            refine zLiret vr_156_89 rfl (fun x1370 e1370 => ?_)
                            cases e1370
                            first
                              | exact ⟨_, _, rfl, t0, Or.inr ⟨fun z => inB_n c1357 z.2.1.1, _, by decide, gn1369⟩⟩
                              | exact ⟨_, _, rfl, t0, Or.inr ⟨fun z => inB_n c1366 z.2.1.2.1, _, by decide, gn1369⟩⟩
                              | exact ⟨_, _, rfl, t0, Or.inr ⟨fun z => inB_n (Decidable.not_not.mp c1183) z.2.1.2.2, _, by decide, gn1369⟩⟩
                          · obtain ⟨-, z⟩ := q1369
                            cases z
                        · cases e1366
                          have c1366 := ndc q1366
                          refine zSiload (m := 2) (k := 7) vr_156_71 rfl rfl rfl (fun x1371 e1371 => ?_)
                          cases e1371
                          refine zSp0 (pc' := 74) (st' := .int (0) :: _) vr_156_73 rfl rfl ?_
                          refine zSaload (m := 1) (k := 0) vr_156_74 rfl rfl rfl ?_
                          refine zLget vr_156_75 rfl (fun p1374 w1374 e1374 t1374 g1374 => ?_)
                          cases e1374
                          first | (rw [hd0] at g1374; cases g1374) | (rw [(st_213_8 hS0)] at g1374; cases g1374) | skip
                          refine zScall vr_156_78 rfl rfl rfl (fun m1375 _ => C_in _ _ _ _ _ _) (fun v1375 h1375 u1375 q1375 => ?_) (fun E1375 h1375 u1375 q1375 => ?_)
                          · obtain ⟨eh1375, z1375⟩ := q1375
                            replace eh1375 := eh1375.symm
                            subst eh1375
                            cases z1375
                            show zL zrx zi _ 156 81 [(0, _), (1, _), (2, _), (3, _), (4, _), (5, _), (6, _), (7, _)] [_] _ _ _
                            refine zSb1 (f := fun x => decide (¬ x = 0)) (off := 9) (t := 90) vr_156_81 rfl rfl rfl (fun x1376 e1376 q1376 => ?_) (fun x1376 e1376 q1376 => ?_)
                            · cases e1376
                              have c1376 := of_decide_eq_true q1376
                              refine zSaload (m := 1) (k := 0) vr_156_90 rfl rfl rfl ?_
                              refine zLget vr_156_91 rfl (fun p1378 w1378 e1378 t1378 g1378 => ?_)
                              cases e1378
                              first | (rw [hd0] at g1378; cases g1378) | (rw [(st_213_8 hS0)] at g1378; cases g1378) | skip
                              refine zScall vr_156_94 rfl rfl rfl (fun m1379 _ => C_lsize _ _ _ _ hs0) (fun v1379 h1379 u1379 q1379 => ?_) (fun E1379 h1379 u1379 q1379 => ?_)
                              · obtain ⟨eh1379, z1379⟩ := q1379
                                replace eh1379 := eh1379.symm
                                subst eh1379
                                cases z1379
                                show zL zrx zi _ 156 99 [(0, _), (1, _), (2, _), (3, _), (4, _), (5, _), (6, _), (7, _)] [_] _ _ _
                                refine zSp0 (pc' := 101) (st' := .int (24) :: _) vr_156_99 rfl rfl ?_
                                refine zSb2 (f := fun x y => decide (¬ x = y)) (off := 9) (t := 110) vr_156_101 rfl rfl rfl (fun x1381 y1381 e1381 f1381 q1381 => ?_) (fun x1381 y1381 e1381 f1381 q1381 => ?_)
                                · cases e1381
                                  cases f1381
                                  have c1381 := of_decide_eq_true q1381
                                  refine zSp0 (pc' := 111) (st' := .int (0) :: _) vr_156_110 rfl rfl ?_
                                  refine zSistore (m := 2) (k := 8) vr_156_111 rfl rfl (fun x1383 e1383 => ?_)
                                  cases e1383
                                  show zL zrx zi _ 156 113 [(8, _), (0, _), (1, _), (2, _), (3, _), (4, _), (5, _), (6, _), (7, _)] [] _ _ _
                                  refine zSp0 (pc' := 114) (st' := .int (0) :: _) vr_156_113 rfl rfl ?_
                                  refine zSistore (m := 2) (k := 9) vr_156_114 rfl rfl (fun x1385 e1385 => ?_)
                                  cases e1385
                                  show zL zrx zi _ 156 116 [(9, _), (8, _), (0, _), (1, _), (2, _), (3, _), (4, _), (5, _), (6, _), (7, _)] [] _ _ _
                                  have c24 : cnt.toInt < 24 := by
                                    have y := c1381
                                    have z24 : (24 : Int32).toInt = 24 := rfl
                                    have : ¬ cnt.toInt = 24 := fun z => y (Int32.toInt_inj.mp (by omega))
                                    omega
                                  have ip := in_y (x := p) (hi := 5) (m := 6) (by decide) c1325
                                  have ok : okD p q r m f a g day cnt := ⟨⟨ip, in_y (x := q) (hi := 5) (m := 6) (by decide) c1334, in_y (x := r) (hi := 3) (m := 4) (by decide) c1343, in_y (x := m) (hi := 3) (m := 4) (by decide) c1352⟩, ⟨(inB_y c1357), (inB_y c1366), (inB_y c1376)⟩, c24⟩
                                  exact zL_pm _ _ _ [(9, _), (8, _), (0, _), (1, _), (2, _), (3, _), (4, _), (5, _), (6, _), (7, _)] _ _ _ _ _ ⟨(List.forall_mem_cons.mpr ⟨List.mem_cons_self, (List.forall_mem_cons.mpr ⟨(List.mem_cons_of_mem _ List.mem_cons_self), (List.forall_mem_cons.mpr ⟨(List.mem_cons_of_mem _ (List.mem_cons_of_mem _ List.mem_cons_self)), (List.forall_mem_cons.mpr ⟨(List.mem_cons_of_mem _ (List.mem_cons_of_mem _ (List.mem_cons_of_mem _ List.mem_cons_self))), (List.forall_mem_cons.mpr ⟨(List.mem_cons_of_mem _ (List.mem_cons_of_mem _ (List.mem_cons_of_mem _ (List.mem_cons_of_mem _ List.mem_cons_self)))), (List.forall_mem_cons.mpr ⟨(List.mem_cons_of_mem _ (List.mem_cons_of_mem _ (List.mem_cons_of_mem _ (List.mem_cons_of_mem _ (List.mem_cons_of_mem _ List.mem_cons_self))))), (List.forall_mem_cons.mpr ⟨(List.mem_cons_of_mem _ (List.mem_cons_of_mem _ (List.mem_cons_of_mem _ (List.mem_cons_of_mem _ (List.mem_cons_of_mem _ (List.mem_cons_of_mem _ List.mem_cons_self)))))), (List.forall_mem_cons.mpr ⟨(List.mem_cons_of_mem _ (List.mem_cons_of_mem _ (List.mem_cons_of_mem _ (List.mem_cons_of_mem _ (List.mem_cons_of_mem _ (List.mem_cons_of_mem _ (List.mem_cons_of_mem _ List.mem_cons_self))))))), (List.forall_mem_cons.mpr ⟨(List.mem_cons_of_mem _ (List.mem_cons_of_mem _ (List.mem_cons_of_mem _ (List.mem_cons_of_mem _ (List.mem_cons_of_mem _ (List.mem_cons_of_mem _ (List.mem_cons_of_mem _ (List.mem_cons_of_mem _ List.mem_cons_self)))))))), (List.forall_mem_cons.mpr ⟨(List.mem_cons_of_mem _ (List.mem_cons_of_mem _ (List.mem_cons_of_mem _ (List.mem_cons_of_mem _ (List.mem_cons_of_mem _ (List.mem_cons_of_mem _ (List.mem_cons_of_mem _ (List.mem_cons_of_mem _ (List.mem_cons_of_mem _ List.mem_cons_self))))))))), (fun _ h => absurd h List.not_mem_nil)⟩)⟩)⟩)⟩)⟩)⟩)⟩)⟩)⟩)⟩), show ([9, 8, 0, 1, 2, 3, 4, 5, 6, 7] : List Nat).Nodup by decide⟩ (C_mdL hS0 ip (fun k => iv h (216 + p.toNatClampNeg) k) (fun k => iv_eq (f0 _ _ (by omega)).symm) (fun n u => C_mdB hS hs hL hn hl2 tE h24 h213 hd t0 ok n u) _ 0 0 _ (by omega) rfl)
                                · cases e1381
                                  cases f1381
                                  have c1381 := ndc q1381
                                  refine zSaload (m := 1) (k := 0) vr_156_104 rfl rfl rfl ?_
                                  refine zSp0 (pc' := 106) (st' := .int (3) :: _) vr_156_105 rfl rfl ?_
                                  refine zScall vr_156_106 rfl rfl rfl (fun m1388 _ => C_no _ _ _ _ _) (fun v1388 h1388 u1388 q1388 => ?_) (fun E1388 h1388 u1388 q1388 => ?_)
                                  · obtain ⟨gn1388, z1388⟩ := q1388
                                    cases z1388
                                    show zL zrx zi _ 156 109 [(0, _), (1, _), (2, _), (3, _), (4, _), (5, _), (6, _), (7, _)] [_] _ _ _
                                    refine zLiret vr_156_109 rfl (fun x1389 e1389 => ?_)
                                    cases e1389
                                    exact ⟨_, _, rfl, t0, Or.inr ⟨fun z => absurd z.2.2 (by rw [show cnt = 24 from Decidable.not_not.mp c1381]; decide), _, by decide, gn1388⟩⟩
                                  · obtain ⟨-, z⟩ := q1388
                                    cases z
                              · obtain ⟨-, z⟩ := q1379
                                cases z
                            · cases e1376
                              have c1376 := ndc q1376
                              refine zSaload (m := 1) (k := 0) vr_156_84 rfl rfl rfl ?_
                              refine zSp0 (pc' := 86) (st' := .int (2) :: _) vr_156_85 rfl rfl ?_
                              refine zScall vr_156_86 rfl rfl rfl (fun m1392 _ => C_no _ _ _ _ _) (fun v1392 h1392 u1392 q1392 => ?_) (fun E1392 h1392 u1392 q1392 => ?_)
                              · obtain ⟨gn1392, z1392⟩ := q1392
                                cases z1392
                                show zL zrx zi _ 156 89 [(0, _), (1, _), (2, _), (3, _), (4, _), (5, _), (6, _), (7, _)] [_] _ _ _
                                refine zLiret vr_156_89 rfl (fun x1393 e1393 => ?_)
                                cases e1393
                                first
                                  | exact ⟨_, _, rfl, t0, Or.inr ⟨fun z => inB_n c1357 z.2.1.1, _, by decide, gn1392⟩⟩
                                  | exact ⟨_, _, rfl, t0, Or.inr ⟨fun z => inB_n c1366 z.2.1.2.1, _, by decide, gn1392⟩⟩
                                  | exact ⟨_, _, rfl, t0, Or.inr ⟨fun z => inB_n (Decidable.not_not.mp c1376) z.2.1.2.2, _, by decide, gn1392⟩⟩
                              · obtain ⟨-, z⟩ := q1392
                                cases z
                          · obtain ⟨-, z⟩ := q1375
                            cases z
                      · obtain ⟨-, z⟩ := q1365
                        cases z
                  · obtain ⟨-, z⟩ := q1356
                    cases z
                · cases e1352
                  have c1352 := ndc q1352
                  refine zSaload (m := 1) (k := 0) vr_156_42 rfl rfl rfl ?_
                  refine zSp0 (pc' := 44) (st' := .int (1) :: _) vr_156_43 rfl rfl ?_
                  refine zScall vr_156_44 rfl rfl rfl (fun m1396 _ => C_no _ _ _ _ _) (fun v1396 h1396 u1396 q1396 => ?_) (fun E1396 h1396 u1396 q1396 => ?_)
                  · obtain ⟨gn1396, z1396⟩ := q1396
                    cases z1396
                    show zL zrx zi _ 156 47 [(0, _), (1, _), (2, _), (3, _), (4, _), (5, _), (6, _), (7, _)] [_] _ _ _
                    refine zLiret vr_156_47 rfl (fun x1397 e1397 => ?_)
                    cases e1397
                    first
                      | exact ⟨_, _, rfl, t0, Or.inr ⟨fun z => in_n (x := p) (hi := 5) (m := 6) (by decide) c1325 z.1.1, _, by decide, gn1396⟩⟩
                      | exact ⟨_, _, rfl, t0, Or.inr ⟨fun z => in_n (x := q) (hi := 5) (m := 6) (by decide) c1334 z.1.2.1, _, by decide, gn1396⟩⟩
                      | exact ⟨_, _, rfl, t0, Or.inr ⟨fun z => in_n (x := r) (hi := 3) (m := 4) (by decide) c1343 z.1.2.2.1, _, by decide, gn1396⟩⟩
                      | exact ⟨_, _, rfl, t0, Or.inr ⟨fun z => in_n (x := m) (hi := 3) (m := 4) (by decide) (Decidable.not_not.mp c1352) z.1.2.2.2, _, by decide, gn1396⟩⟩
                  · obtain ⟨-, z⟩ := q1396
                    cases z
              · obtain ⟨-, z⟩ := q1351
                cases z
          · obtain ⟨-, z⟩ := q1342
            cases z
      · obtain ⟨-, z⟩ := q1333
        cases z
  · obtain ⟨-, z⟩ := q1324
    cases z
theorem C_pass (n : Nat) (x : Int32) (h : List zC) (u : Nat) {day : Int32} (hd : gF h 16 0 = some (.int day)) : zL zrx zi n 75 0 [(0, .ref 16), (1, .int x)] [] h u (fun o h2 _ => match o with
  | .inl v => (rI 1 400 x ∧ day + x ≤ 3000) ∧ v = some (.int (day + x)) ∧ hPut h h2 16 0 (.int (day + x))
  | .inr E => hExt h h2 ∧ ((E = 1 ∧ ¬ rI 1 400 x) ∨ (E = 2 ∧ rI 1 400 x ∧ ¬ day + x ≤ 3000))) := by
  refine zSiload (m := 1) (k := 1) vr_75_0 rfl rfl rfl (fun x1398 e1398 => ?_)
  cases e1398
  refine zSp0 (pc' := 2) (st' := .int (1) :: _) vr_75_1 rfl rfl ?_
  refine zSp0 (pc' := 5) (st' := .int (400) :: _) vr_75_2 rfl rfl ?_
  refine zScall vr_75_5 rfl rfl rfl (fun m1401 _ => C_val _ _ _ _ _ _) (fun v1401 h1401 u1401 q1401 => ?_) (fun E1401 h1401 u1401 q1401 => ?_)
  · obtain ⟨eh1401, rfl, r1⟩ := q1401
    replace eh1401 := eh1401.symm
    subst eh1401
    show zL zrx zi _ 75 8 [(0, _), (1, _)] [] _ _ _
    refine zSaload (m := 1) (k := 0) vr_75_8 rfl rfl rfl ?_
    refine zLget vr_75_9 rfl (fun p1403 w1403 e1403 t1403 g1403 => ?_)
    cases e1403
    first | (rw [hd] at g1403; cases g1403) | skip
    refine zSiload (m := 1) (k := 1) vr_75_12 rfl rfl rfl (fun x1404 e1404 => ?_)
    cases e1404
    refine zS2 (f := fun x y => .int (x + y)) vr_75_13 rfl rfl (fun x1405 y1405 e1405 f1405 => ?_)
    cases e1405
    cases f1405
    refine zSp0 (pc' := 17) (st' := .int (3000) :: _) vr_75_14 rfl rfl ?_
    refine zSb2 (f := fun x y => decide (y < x)) (off := 7) (t := 24) vr_75_17 rfl rfl rfl (fun x1407 y1407 e1407 f1407 q1407 => ?_) (fun x1407 y1407 e1407 f1407 q1407 => ?_)
    · cases e1407
      cases f1407
      have c1407 := of_decide_eq_true q1407
      refine zSp0 (pc' := 25) (st' := .int (0) :: _) vr_75_24 rfl rfl ?_
      refine zScall vr_75_25 rfl rfl rfl (fun m _ => C_needState _ _ _ _) (fun v h u q => absurd rfl q.2.2) (fun E h3 u q => ?_)
      obtain ⟨rfl, -, q2⟩ := q
      rw [zCat_no vh_75_25_2]
      exact ⟨q2, Or.inr ⟨rfl, r1, fun z => absurd c1407 (Int32.not_lt.mpr z)⟩⟩
    · cases e1407
      cases f1407
      have c1407 := ndc q1407
      refine zSp0 (pc' := 21) (st' := .int (1) :: _) vr_75_20 rfl rfl ?_
      refine zSgo (t := 25) vr_75_21 rfl rfl ?_
      refine zScall vr_75_25 rfl rfl rfl (fun m1410 _ => C_needState _ _ _ _) (fun v1410 h1410 u1410 q1410 => ?_) (fun E1410 h1410 u1410 q1410 => ?_)
      · obtain ⟨eh1410, rfl, -⟩ := q1410
        replace eh1410 := eh1410.symm
        subst eh1410
        show zL zrx zi _ 75 28 [(0, _), (1, _)] [] _ _ _
        have c17 := Int32.not_lt.mp c1407
        refine zSaload (m := 1) (k := 0) vr_75_28 rfl rfl rfl ?_
        refine zSdup vr_75_29 rfl ?_
        refine zLget vr_75_30 rfl (fun p1413 w1413 e1413 t1413 g1413 => ?_)
        cases e1413
        first | (rw [hd] at g1413; cases g1413) | skip
        refine zSiload (m := 1) (k := 1) vr_75_33 rfl rfl rfl (fun x1414 e1414 => ?_)
        cases e1414
        refine zS2 (f := fun x y => .int (x + y)) vr_75_34 rfl rfl (fun x1415 y1415 e1415 f1415 => ?_)
        cases e1415
        cases f1415
        refine zLput vr_75_35 rfl (fun p1416 k1416 e1416 t1416 g1416 => ?_)
        cases e1416
        have hd2 : gF k1416 16 0 = some (.int (day + x)) := by
          rw [g1416.2.1, if_pos ⟨rfl, rfl⟩]
        refine zSaload (m := 1) (k := 0) vr_75_38 rfl rfl rfl ?_
        refine zLget vr_75_39 rfl (fun p1418 w1418 e1418 t1418 g1418 => ?_)
        cases e1418
        first | (rw [hd2] at g1418; cases g1418) | skip
        refine zLiret vr_75_42 rfl (fun x1419 e1419 => ?_)
        cases e1419
        exact ⟨⟨r1, c17⟩, rfl, g1416⟩
      · obtain ⟨-, z, -⟩ := q1410
        exact absurd z (by decide)
  · obtain ⟨rfl, q1, q2⟩ := q1401
    rw [zCat_no vh_75_5_1]
    exact ⟨q2, Or.inl ⟨rfl, q1⟩⟩
abbrev Q_Lpass (day : Int32) (x : Int32) (h : List zC) : zK := fun o h2 _ => ∃ k : Int32, o = .inl (some (.int k)) ∧
  ((k = 0 ∧ (rI 1 400 x ∧ day + x ≤ 3000) ∧ ∃ h1, hPut h h1 16 0 (.int (day + x)) ∧ hPut h1 h2 238 0 (.long (day + x).toInt64)) ∨ (k = 1 ∧ ¬ rI 1 400 x ∧ hExt h h2) ∨ (k = 2 ∧ rI 1 400 x ∧ ¬ day + x ≤ 3000 ∧ hExt h h2))
theorem C_Lpass (n : Nat) (x : Int32) (h : List zC) (u : Nat) {day : Int32} (hd : gF h 16 0 = some (.int day)) : zL zrx zi n 226 0 [(0, .ref 16), (1, .int x), (2, .ref 238)] [] h u (Q_Lpass day x h) := by
  refine zSaload (m := 1) (k := 2) vr_226_0 rfl rfl rfl ?_
  refine zSaload (m := 1) (k := 0) vr_226_1 rfl rfl rfl ?_
  refine zSiload (m := 1) (k := 1) vr_226_2 rfl rfl rfl (fun x1422 e1422 => ?_)
  cases e1422
  refine zScall vr_226_3 rfl rfl rfl (fun m1423 _ => C_pass _ _ _ _ hd) (fun v1423 h1423 u1423 q1423 => ?_) (fun E1423 h1423 u1423 q1423 => ?_)
  · obtain ⟨k1, rfl, k2⟩ := q1423
    show zL zrx zi _ 226 6 [(0, _), (1, _), (2, _)] [_, _] _ _ _
    refine zS1 (f := fun x => .long x.toInt64) vr_226_6 rfl rfl (fun x1424 e1424 => ?_)
    cases e1424
    refine zLput vr_226_7 rfl (fun p1425 k1425 e1425 t1425 g1425 => ?_)
    cases e1425
    have gP := g1425
    refine zSgo (t := 19) vr_226_10 rfl rfl ?_
    refine zSp0 (pc' := 20) (st' := .int (0) :: _) vr_226_19 rfl rfl ?_
    refine zLiret vr_226_20 rfl (fun x1428 e1428 => ?_)
    cases e1428
    exact ⟨_, rfl, Or.inl ⟨rfl, k1, _, k2, gP⟩⟩
  · obtain ⟨q1, ⟨rfl, z⟩ | ⟨rfl, z⟩⟩ := q1423
    · rw [zCat_hit (k := 3) (m := 1) vh_226_3_1 vr_226_13 rfl (by decide)]
      show zL zrx zi _ 226 14 [(0, _), (1, _), (2, _)] [] _ _ _
      refine zSp0 (pc' := 15) (st' := .int (1) :: _) vr_226_14 rfl rfl ?_
      refine zLiret vr_226_15 rfl (fun x1430 e1430 => ?_)
      cases e1430
      exact ⟨_, rfl, Or.inr (Or.inl ⟨rfl, z, q1⟩)⟩
    · rw [zCat_hit (k := 3) (m := 1) vh_226_3_2 vr_226_16 rfl (by decide)]
      show zL zrx zi _ 226 17 [(0, _), (1, _), (2, _)] [] _ _ _
      refine zSp0 (pc' := 18) (st' := .int (2) :: _) vr_226_17 rfl rfl ?_
      refine zLiret vr_226_18 rfl (fun x1432 e1432 => ?_)
      cases e1432
      exact ⟨_, rfl, Or.inr (Or.inr ⟨rfl, z.1, z.2, q1⟩)⟩
abbrev Q_mpass (day : Int32) (x : Int32) (h : List zC) : zK := fun o h2 _ => ∃ (r : Int32) (h0 : List zC), o = .inl (some (.int r)) ∧ hPut h h0 213 0 (.int 0) ∧ (((rI 1 400 x ∧ day + x ≤ 3000) ∧ r = day + x ∧ hPut h0 h2 213 1 (.int (day + x))) ∨ (¬ rI 1 400 x ∧ hPut h0 h2 213 0 (.int 1)) ∨ (rI 1 400 x ∧ ¬ day + x ≤ 3000 ∧ hPut h0 h2 213 0 (.int 2)))
theorem C_mpass (n : Nat) (x : Int32) (h : List zC) (u : Nat) {day : Int32} (hd : gF h 213 1 = some (.int day)) : zL zrx zi n 176 0 [(0, .ref 213), (1, .int x)] [] h u (Q_mpass day x h) := by
  refine zSaload (m := 1) (k := 0) vr_176_0 rfl rfl rfl ?_
  refine zSp0 (pc' := 2) (st' := .int (0) :: _) vr_176_1 rfl rfl ?_
  refine zLput vr_176_2 rfl (fun p1435 k1435 e1435 t1435 g1435 => ?_)
  cases e1435
  have t0 := g1435
  have hd0 : gF k1435 213 1 = some (.int day) := by rw [t0.2.1, if_neg (by omega)]; exact hd
  refine zSiload (m := 1) (k := 1) vr_176_5 rfl rfl rfl (fun x1436 e1436 => ?_)
  cases e1436
  refine zSp0 (pc' := 7) (st' := .int (1) :: _) vr_176_6 rfl rfl ?_
  refine zSp0 (pc' := 10) (st' := .int (400) :: _) vr_176_7 rfl rfl ?_
  refine zScall vr_176_10 rfl rfl rfl (fun m1439 _ => C_in _ _ _ _ _ _) (fun v1439 h1439 u1439 q1439 => ?_) (fun E1439 h1439 u1439 q1439 => ?_)
  · obtain ⟨eh1439, z1439⟩ := q1439
    replace eh1439 := eh1439.symm
    subst eh1439
    cases z1439
    show zL zrx zi _ 176 13 [(0, _), (1, _)] [_] _ _ _
    refine zSb1 (f := fun x => decide (¬ x = 0)) (off := 9) (t := 22) vr_176_13 rfl rfl rfl (fun x1440 e1440 q1440 => ?_) (fun x1440 e1440 q1440 => ?_)
    · cases e1440
      have c1440 := of_decide_eq_true q1440
      refine zSaload (m := 1) (k := 0) vr_176_22 rfl rfl rfl ?_
      refine zLget vr_176_23 rfl (fun p1442 w1442 e1442 t1442 g1442 => ?_)
      cases e1442
      first | (rw [hd0] at g1442; cases g1442) | skip
      refine zSiload (m := 1) (k := 1) vr_176_26 rfl rfl rfl (fun x1443 e1443 => ?_)
      cases e1443
      refine zS2 (f := fun x y => .int (x + y)) vr_176_27 rfl rfl (fun x1444 y1444 e1444 f1444 => ?_)
      cases e1444
      cases f1444
      refine zSp0 (pc' := 31) (st' := .int (3000) :: _) vr_176_28 rfl rfl ?_
      refine zSb2 (f := fun x y => decide (x ≤ y)) (off := 9) (t := 40) vr_176_31 rfl rfl rfl (fun x1446 y1446 e1446 f1446 q1446 => ?_) (fun x1446 y1446 e1446 f1446 q1446 => ?_)
      · cases e1446
        cases f1446
        have c1446 := of_decide_eq_true q1446
        refine zSaload (m := 1) (k := 0) vr_176_40 rfl rfl rfl ?_
        refine zSdup vr_176_41 rfl ?_
        refine zLget vr_176_42 rfl (fun p1449 w1449 e1449 t1449 g1449 => ?_)
        cases e1449
        first | (rw [hd0] at g1449; cases g1449) | skip
        refine zSiload (m := 1) (k := 1) vr_176_45 rfl rfl rfl (fun x1450 e1450 => ?_)
        cases e1450
        refine zS2 (f := fun x y => .int (x + y)) vr_176_46 rfl rfl (fun x1451 y1451 e1451 f1451 => ?_)
        cases e1451
        cases f1451
        refine zLput vr_176_47 rfl (fun p1452 k1452 e1452 t1452 g1452 => ?_)
        cases e1452
        have hd2 : gF k1452 213 1 = some (.int (day + x)) := by
          rw [g1452.2.1, if_pos ⟨rfl, rfl⟩]
        refine zSaload (m := 1) (k := 0) vr_176_50 rfl rfl rfl ?_
        refine zLget vr_176_51 rfl (fun p1454 w1454 e1454 t1454 g1454 => ?_)
        cases e1454
        first | (rw [hd2] at g1454; cases g1454) | skip
        refine zLiret vr_176_54 rfl (fun x1455 e1455 => ?_)
        cases e1455
        exact ⟨_, _, rfl, t0, Or.inl ⟨⟨inB_y c1440, c1446⟩, rfl, g1452⟩⟩
      · cases e1446
        cases f1446
        have c1446 := ndc q1446
        refine zSaload (m := 1) (k := 0) vr_176_34 rfl rfl rfl ?_
        refine zSp0 (pc' := 36) (st' := .int (2) :: _) vr_176_35 rfl rfl ?_
        refine zScall vr_176_36 rfl rfl rfl (fun m1458 _ => C_no _ _ _ _ _) (fun v1458 h1458 u1458 q1458 => ?_) (fun E1458 h1458 u1458 q1458 => ?_)
        · obtain ⟨gn1458, z1458⟩ := q1458
          cases z1458
          show zL zrx zi _ 176 39 [(0, _), (1, _)] [_] _ _ _
          refine zLiret vr_176_39 rfl (fun x1459 e1459 => ?_)
          cases e1459
          exact ⟨_, _, rfl, t0, Or.inr (Or.inr ⟨inB_y c1440, c1446, gn1458⟩)⟩
        · obtain ⟨-, z⟩ := q1458
          cases z
    · cases e1440
      have c1440 := ndc q1440
      refine zSaload (m := 1) (k := 0) vr_176_16 rfl rfl rfl ?_
      refine zSp0 (pc' := 18) (st' := .int (1) :: _) vr_176_17 rfl rfl ?_
      refine zScall vr_176_18 rfl rfl rfl (fun m1462 _ => C_no _ _ _ _ _) (fun v1462 h1462 u1462 q1462 => ?_) (fun E1462 h1462 u1462 q1462 => ?_)
      · obtain ⟨gn1462, z1462⟩ := q1462
        cases z1462
        show zL zrx zi _ 176 21 [(0, _), (1, _)] [_] _ _ _
        refine zLiret vr_176_21 rfl (fun x1463 e1463 => ?_)
        cases e1463
        exact ⟨_, _, rfl, t0, Or.inr (Or.inl ⟨inB_n (Decidable.not_not.mp c1440), gn1462⟩)⟩
      · obtain ⟨-, z⟩ := q1462
        cases z
  · obtain ⟨-, z⟩ := q1439
    cases z
theorem C_people (n : Nat) (p x : Int32) (h : List zC) (u : Nat) (hS : Stc h) : zL zrx zi n 57 0 [(0, .ref 16), (1, .int p), (2, .int x)] [] h u (fun o h2 _ => match o with
  | .inl v => (iN 6 p ∧ rI 1 99 x) ∧ (∃ y : Int32, v = some (.int y)) ∧ hPut h h2 17 p.toNatClampNeg (.int x)
  | .inr E => hExt h h2 ∧ ((E = 0 ∧ ¬ iN 6 p) ∨ (E = 1 ∧ iN 6 p ∧ ¬ rI 1 99 x))) := by
  refine zSiload (m := 1) (k := 1) vr_57_0 rfl rfl rfl (fun x1464 e1464 => ?_)
  cases e1464
  refine zSp0 (pc' := 3) (st' := .int (6) :: _) vr_57_1 rfl rfl ?_
  refine zScall vr_57_3 rfl rfl rfl (fun m1466 _ => C_num6 _ _ _ _ (m := 6) (by rfl)) (fun v1466 h1466 u1466 q1466 => ?_) (fun E1466 h1466 u1466 q1466 => ?_)
  · obtain ⟨eh1466, rfl, r1⟩ := q1466
    replace eh1466 := eh1466.symm
    subst eh1466
    show zL zrx zi _ 57 6 [(0, _), (1, _), (2, _)] [] _ _ _
    refine zSiload (m := 1) (k := 2) vr_57_6 rfl rfl rfl (fun x1467 e1467 => ?_)
    cases e1467
    refine zSp0 (pc' := 8) (st' := .int (1) :: _) vr_57_7 rfl rfl ?_
    refine zSp0 (pc' := 10) (st' := .int (99) :: _) vr_57_8 rfl rfl ?_
    refine zScall vr_57_10 rfl rfl rfl (fun m1470 _ => C_val _ _ _ _ _ _) (fun v1470 h1470 u1470 q1470 => ?_) (fun E1470 h1470 u1470 q1470 => ?_)
    · obtain ⟨eh1470, rfl, r2⟩ := q1470
      replace eh1470 := eh1470.symm
      subst eh1470
      show zL zrx zi _ 57 13 [(0, _), (1, _), (2, _)] [] _ _ _
      refine zSaload (m := 1) (k := 0) vr_57_13 rfl rfl rfl ?_
      refine zLget vr_57_14 rfl (fun p1472 w1472 e1472 t1472 g1472 => ?_)
      cases e1472
      first | (rw [(st_16_4 hS)] at g1472; cases g1472) | skip
      refine zSiload (m := 1) (k := 1) vr_57_17 rfl rfl rfl (fun x1473 e1473 => ?_)
      cases e1473
      refine zLiald vr_57_18 rfl (fun p1474 x1474 w1474 e1474 f1474 c1474 t1474 g1474 => ?_)
      cases e1474
      cases f1474
      first | (rw [(st_16_4 hS)] at g1474; cases g1474) | skip
      have w1 := g1474
      refine zSistore (m := 1) (k := 3) vr_57_19 rfl rfl (fun x1475 e1475 => ?_)
      cases e1475
      show zL zrx zi _ 57 20 [(3, _), (0, _), (1, _), (2, _)] [] _ _ _
      refine zSaload (m := 1) (k := 0) vr_57_20 rfl rfl rfl ?_
      refine zLget vr_57_21 rfl (fun p1477 w1477 e1477 t1477 g1477 => ?_)
      cases e1477
      first | (rw [(st_16_4 hS)] at g1477; cases g1477) | skip
      refine zSiload (m := 1) (k := 1) vr_57_24 rfl rfl rfl (fun x1478 e1478 => ?_)
      cases e1478
      refine zSiload (m := 1) (k := 2) vr_57_25 rfl rfl rfl (fun x1479 e1479 => ?_)
      cases e1479
      refine zLiast vr_57_26 rfl (fun p1480 x1480 z1480 k1480 e1480 f1480 d1480 c1480 t1480 g1480 => ?_)
      cases e1480
      cases f1480
      cases d1480
      refine zSiload (m := 1) (k := 3) vr_57_27 rfl rfl rfl (fun x1481 e1481 => ?_)
      cases e1481
      refine zLiret vr_57_28 rfl (fun x1482 e1482 => ?_)
      cases e1482
      exact ⟨⟨r1, r2⟩, ⟨_, rfl⟩, g1480⟩
    · obtain ⟨rfl, q1, q2⟩ := q1470
      rw [zCat_no vh_57_10_1]
      exact ⟨q2, Or.inr ⟨rfl, r1, q1⟩⟩
  · obtain ⟨rfl, q1, q2⟩ := q1466
    rw [zCat_no vh_57_3_0]
    exact ⟨q2, Or.inl ⟨rfl, q1⟩⟩
abbrev Q_Lpeople (p x : Int32) (h : List zC) : zK := fun o h2 _ => ∃ k : Int32, o = .inl (some (.int k)) ∧ ((k = 0 ∧ (iN 6 p ∧ rI 1 99 x) ∧ ∃ (h1 : List zC) (w : Value), hPut h h1 17 p.toNatClampNeg (.int x) ∧ hPut h1 h2 238 0 w) ∨ (¬ k = 0 ∧ ¬ (iN 6 p ∧ rI 1 99 x) ∧ hExt h h2))
theorem C_Lpeople (n : Nat) (p x : Int32) (h : List zC) (u : Nat) (hS : Stc h) : zL zrx zi n 208 0 [(0, .ref 16), (1, .int p), (2, .int x), (3, .ref 238)] [] h u (Q_Lpeople p x h) := by
  refine zSaload (m := 1) (k := 3) vr_208_0 rfl rfl rfl ?_
  refine zSaload (m := 1) (k := 0) vr_208_1 rfl rfl rfl ?_
  refine zSiload (m := 1) (k := 1) vr_208_2 rfl rfl rfl (fun x1485 e1485 => ?_)
  cases e1485
  refine zSiload (m := 1) (k := 2) vr_208_3 rfl rfl rfl (fun x1486 e1486 => ?_)
  cases e1486
  refine zScall vr_208_4 rfl rfl rfl (fun m1487 _ => C_people _ _ _ _ _ hS) (fun v1487 h1487 u1487 q1487 => ?_) (fun E1487 h1487 u1487 q1487 => ?_)
  · obtain ⟨k1, ⟨x1487, rfl⟩, k2⟩ := q1487
    show zL zrx zi _ 208 7 [(0, _), (1, _), (2, _), (3, _)] [_, _] _ _ _
    refine zS1 (f := fun x => .long x.toInt64) vr_208_7 rfl rfl (fun x1488 e1488 => ?_)
    cases e1488
    refine zLput vr_208_8 rfl (fun p1489 k1489 e1489 t1489 g1489 => ?_)
    cases e1489
    have gP := g1489
    refine zSgo (t := 22) vr_208_11 rfl rfl ?_
    refine zSp0 (pc' := 23) (st' := .int (0) :: _) vr_208_22 rfl rfl ?_
    refine zLiret vr_208_23 rfl (fun x1492 e1492 => ?_)
    cases e1492
    exact ⟨_, rfl, Or.inl ⟨rfl, k1, _, _, k2, gP⟩⟩
  · obtain ⟨q1, ⟨rfl, z⟩ | ⟨rfl, z⟩⟩ := q1487
    · rw [zCat_hit (k := 4) (m := 2) vh_208_4_0 vr_208_14 rfl (by decide)]
      show zL zrx zi _ 208 16 [(0, _), (1, _), (2, _), (3, _)] [] _ _ _
      refine zSp0 (pc' := 17) (st' := .int (1) :: _) vr_208_16 rfl rfl ?_
      refine zLiret vr_208_17 rfl (fun x1494 e1494 => ?_)
      cases e1494
      exact ⟨_, rfl, Or.inr ⟨by decide, fun y => z y.1, q1⟩⟩
    · rw [zCat_hit (k := 4) (m := 2) vh_208_4_1 vr_208_18 rfl (by decide)]
      show zL zrx zi _ 208 20 [(0, _), (1, _), (2, _), (3, _)] [] _ _ _
      refine zSp0 (pc' := 21) (st' := .int (2) :: _) vr_208_20 rfl rfl ?_
      refine zLiret vr_208_21 rfl (fun x1496 e1496 => ?_)
      cases e1496
      exact ⟨_, rfl, Or.inr ⟨by decide, fun y => z.2 y.2, q1⟩⟩
abbrev Q_mpeople (p x : Int32) (h : List zC) : zK := fun o h2 _ => ∃ (r : Int32) (h0 : List zC), o = .inl (some (.int r)) ∧ hPut h h0 213 0 (.int 0) ∧ (((iN 6 p ∧ rI 1 99 x) ∧ hPut h0 h2 214 p.toNatClampNeg (.int x)) ∨ (¬ (iN 6 p ∧ rI 1 99 x) ∧ ∃ k : Int32, hPut h0 h2 213 0 (.int k)))
theorem C_mpeople (n : Nat) (p x : Int32) (h : List zC) (u : Nat) (hS : Stc h) : zL zrx zi n 150 0 [(0, .ref 213), (1, .int p), (2, .int x)] [] h u (Q_mpeople p x h) := by
  refine zSaload (m := 1) (k := 0) vr_150_0 rfl rfl rfl ?_
  refine zSp0 (pc' := 2) (st' := .int (0) :: _) vr_150_1 rfl rfl ?_
  refine zLput vr_150_2 rfl (fun p1499 k1499 e1499 t1499 g1499 => ?_)
  cases e1499
  have t0 := g1499
  have hS0 := hS.thr t0
  refine zSiload (m := 1) (k := 1) vr_150_5 rfl rfl rfl (fun x1500 e1500 => ?_)
  cases e1500
  refine zSp0 (pc' := 7) (st' := .int (0) :: _) vr_150_6 rfl rfl ?_
  refine zSp0 (pc' := 8) (st' := .int (5) :: _) vr_150_7 rfl rfl ?_
  refine zScall vr_150_8 rfl rfl rfl (fun m1503 _ => C_in _ _ _ _ _ _) (fun v1503 h1503 u1503 q1503 => ?_) (fun E1503 h1503 u1503 q1503 => ?_)
  · obtain ⟨eh1503, z1503⟩ := q1503
    replace eh1503 := eh1503.symm
    subst eh1503
    cases z1503
    show zL zrx zi _ 150 11 [(0, _), (1, _), (2, _)] [_] _ _ _
    refine zSb1 (f := fun x => decide (¬ x = 0)) (off := 9) (t := 20) vr_150_11 rfl rfl rfl (fun x1504 e1504 q1504 => ?_) (fun x1504 e1504 q1504 => ?_)
    · cases e1504
      have c1504 := of_decide_eq_true q1504
      refine zSiload (m := 1) (k := 2) vr_150_20 rfl rfl rfl (fun x1505 e1505 => ?_)
      cases e1505
      refine zSp0 (pc' := 22) (st' := .int (1) :: _) vr_150_21 rfl rfl ?_
      refine zSp0 (pc' := 24) (st' := .int (99) :: _) vr_150_22 rfl rfl ?_
      refine zScall vr_150_24 rfl rfl rfl (fun m1508 _ => C_in _ _ _ _ _ _) (fun v1508 h1508 u1508 q1508 => ?_) (fun E1508 h1508 u1508 q1508 => ?_)
      · obtain ⟨eh1508, z1508⟩ := q1508
        replace eh1508 := eh1508.symm
        subst eh1508
        cases z1508
        show zL zrx zi _ 150 27 [(0, _), (1, _), (2, _)] [_] _ _ _
        refine zSb1 (f := fun x => decide (¬ x = 0)) (off := 9) (t := 36) vr_150_27 rfl rfl rfl (fun x1509 e1509 q1509 => ?_) (fun x1509 e1509 q1509 => ?_)
        · cases e1509
          have c1509 := of_decide_eq_true q1509
          refine zSaload (m := 1) (k := 0) vr_150_36 rfl rfl rfl ?_
          refine zLget vr_150_37 rfl (fun p1511 w1511 e1511 t1511 g1511 => ?_)
          cases e1511
          first | (rw [(st_213_4 hS0)] at g1511; cases g1511) | skip
          refine zSiload (m := 1) (k := 1) vr_150_40 rfl rfl rfl (fun x1512 e1512 => ?_)
          cases e1512
          refine zLiald vr_150_41 rfl (fun p1513 x1513 w1513 e1513 f1513 c1513 t1513 g1513 => ?_)
          cases e1513
          cases f1513
          first | (rw [(st_213_4 hS0)] at g1513; cases g1513) | skip
          refine zSistore (m := 1) (k := 3) vr_150_42 rfl rfl (fun x1514 e1514 => ?_)
          cases e1514
          show zL zrx zi _ 150 43 [(3, _), (0, _), (1, _), (2, _)] [] _ _ _
          refine zSaload (m := 1) (k := 0) vr_150_43 rfl rfl rfl ?_
          refine zLget vr_150_44 rfl (fun p1516 w1516 e1516 t1516 g1516 => ?_)
          cases e1516
          first | (rw [(st_213_4 hS0)] at g1516; cases g1516) | skip
          refine zSiload (m := 1) (k := 1) vr_150_47 rfl rfl rfl (fun x1517 e1517 => ?_)
          cases e1517
          refine zSiload (m := 1) (k := 2) vr_150_48 rfl rfl rfl (fun x1518 e1518 => ?_)
          cases e1518
          refine zLiast vr_150_49 rfl (fun p1519 x1519 z1519 k1519 e1519 f1519 d1519 c1519 t1519 g1519 => ?_)
          cases e1519
          cases f1519
          cases d1519
          refine zSiload (m := 1) (k := 3) vr_150_50 rfl rfl rfl (fun x1520 e1520 => ?_)
          cases e1520
          refine zLiret vr_150_51 rfl (fun x1521 e1521 => ?_)
          cases e1521
          exact ⟨_, _, rfl, t0, Or.inl ⟨⟨in_y (x := p) (hi := 5) (m := 6) (by decide) c1504, inB_y c1509⟩, g1519⟩⟩
        · cases e1509
          have c1509 := ndc q1509
          refine zSaload (m := 1) (k := 0) vr_150_30 rfl rfl rfl ?_
          refine zSp0 (pc' := 32) (st' := .int (2) :: _) vr_150_31 rfl rfl ?_
          refine zScall vr_150_32 rfl rfl rfl (fun m1524 _ => C_no _ _ _ _ _) (fun v1524 h1524 u1524 q1524 => ?_) (fun E1524 h1524 u1524 q1524 => ?_)
          · obtain ⟨gn1524, z1524⟩ := q1524
            cases z1524
            show zL zrx zi _ 150 35 [(0, _), (1, _), (2, _)] [_] _ _ _
            refine zLiret vr_150_35 rfl (fun x1525 e1525 => ?_)
            cases e1525
            exact ⟨_, _, rfl, t0, Or.inr ⟨fun z => inB_n (Decidable.not_not.mp c1509) z.2, _, gn1524⟩⟩
          · obtain ⟨-, z⟩ := q1524
            cases z
      · obtain ⟨-, z⟩ := q1508
        cases z
    · cases e1504
      have c1504 := ndc q1504
      refine zSaload (m := 1) (k := 0) vr_150_14 rfl rfl rfl ?_
      refine zSp0 (pc' := 16) (st' := .int (1) :: _) vr_150_15 rfl rfl ?_
      refine zScall vr_150_16 rfl rfl rfl (fun m1528 _ => C_no _ _ _ _ _) (fun v1528 h1528 u1528 q1528 => ?_) (fun E1528 h1528 u1528 q1528 => ?_)
      · obtain ⟨gn1528, z1528⟩ := q1528
        cases z1528
        show zL zrx zi _ 150 19 [(0, _), (1, _), (2, _)] [_] _ _ _
        refine zLiret vr_150_19 rfl (fun x1529 e1529 => ?_)
        cases e1529
        exact ⟨_, _, rfl, t0, Or.inr ⟨fun z => in_n (x := p) (hi := 5) (m := 6) (by decide) (Decidable.not_not.mp c1504) z.1, _, gn1528⟩⟩
      · obtain ⟨-, z⟩ := q1528
        cases z
  · obtain ⟨-, z⟩ := q1503
    cases z
set_option maxRecDepth 20000 in
theorem C_pw_loop {x : Int32} {h : List zC} (hS : Stc h) : ∀ (n k : Nat) (r : Int32) (u : Nat), k ≤ 6 → pwF (iv h 26) (iv h 17) x k = r → zL zrx zi n 109 4 [(3, .int (Int32.ofNat k)), (2, .int r), (0, .ref 16), (1, .int x)] [] h u (fun o h2 _ => h2 = h ∧ o = .inl (some (.int (pwF (iv h 26) (iv h 17) x 6))))
  | 0, _, _, _, _, _ => trivial
  | n + 1, k, r, u, hk, hD => by
    have kk := (toNat_ofNat (m := k) (by omega))
    have z6 : (6 : Int32).toInt = 6 := rfl
    refine zLp vr_109_4 rfl rfl ?_
    refine zSp0 (pc' := 7) (st' := .int (6) :: _) vr_109_5 rfl rfl ?_
    refine zSb2 (f := fun x y => decide (y ≤ x)) (off := 28) (t := 35) vr_109_7 rfl rfl rfl (fun x1531 y1531 e1531 f1531 q1531 => ?_) (fun x1531 y1531 e1531 f1531 q1531 => ?_)
    · cases e1531
      cases f1531
      have c1531 := of_decide_eq_true q1531
      refine zSiload (m := 1) (k := 2) vr_109_35 rfl rfl rfl (fun x1532 e1532 => ?_)
      cases e1532
      refine zLiret vr_109_36 rfl (fun x1533 e1533 => ?_)
      cases e1533
      have y := c1531
      rw [i32_le, kk.2, z6] at y
      have e : k = 6 := by omega
      rw [← hD, e]
      exact ⟨rfl, rfl⟩
    · cases e1531
      cases f1531
      have c1531 := ndc q1531
      refine zSaload (m := 1) (k := 0) vr_109_10 rfl rfl rfl ?_
      refine zLget vr_109_11 rfl (fun p1535 w1535 e1535 t1535 g1535 => ?_)
      cases e1535
      first | (rw [(st_16_7 hS)] at g1535; cases g1535) | (rw [(st_16_4 hS)] at g1535; cases g1535) | skip
      refine zSiload (m := 1) (k := 3) vr_109_14 rfl rfl rfl (fun x1536 e1536 => ?_)
      cases e1536
      refine zLiald vr_109_15 rfl (fun p1537 x1537 w1537 e1537 f1537 c1537 t1537 g1537 => ?_)
      cases e1537
      cases f1537
      first | (rw [(st_16_7 hS)] at g1537; cases g1537) | (rw [(st_16_4 hS)] at g1537; cases g1537) | skip
      refine zSiload (m := 1) (k := 1) vr_109_16 rfl rfl rfl (fun x1538 e1538 => ?_)
      cases e1538
      refine zSb2 (f := fun x y => decide (¬ x = y)) (off := 12) (t := 29) vr_109_17 rfl rfl rfl (fun x1539 y1539 e1539 f1539 q1539 => ?_) (fun x1539 y1539 e1539 f1539 q1539 => ?_)
      · cases e1539
        cases f1539
        have c1539 := of_decide_eq_true q1539
        refine zSiinc vr_109_29 rfl rfl (fun x1540 e1540 => ?_)
        cases e1540
        show zL zrx zi _ 109 32 [(3, _), (2, _), (0, _), (1, _)] [] _ _ _
        refine zSgo (t := 4) vr_109_32 rfl rfl ?_
        rw [ofNat_succ]
        refine zL_pm _ _ _ [(3, _), (2, _), (0, _), (1, _)] _ _ _ _ _ ⟨(List.forall_mem_cons.mpr ⟨List.mem_cons_self, (List.forall_mem_cons.mpr ⟨(List.mem_cons_of_mem _ List.mem_cons_self), (List.forall_mem_cons.mpr ⟨(List.mem_cons_of_mem _ (List.mem_cons_of_mem _ List.mem_cons_self)), (List.forall_mem_cons.mpr ⟨(List.mem_cons_of_mem _ (List.mem_cons_of_mem _ (List.mem_cons_of_mem _ List.mem_cons_self))), (fun _ h => absurd h List.not_mem_nil)⟩)⟩)⟩)⟩), show ([3, 2, 0, 1] : List Nat).Nodup by decide⟩ (C_pw_loop hS n (k + 1) _ _ (by have y := c1531; rw [i32_le, kk.2, z6] at y; omega) ?_)
        first
          | exact (pwF_n (by rw [← kk.1, iv_of g1537]; exact c1539)).trans hD
          | exact (pwF_y (by rw [← kk.1, iv_of g1537]; exact Decidable.not_not.mp c1539)).trans (by rw [hD, ← iv_of g1480, kk.1])
      · cases e1539
        cases f1539
        have c1539 := ndc q1539
        refine zSiload (m := 1) (k := 2) vr_109_20 rfl rfl rfl (fun x1542 e1542 => ?_)
        cases e1542
        refine zSaload (m := 1) (k := 0) vr_109_21 rfl rfl rfl ?_
        refine zLget vr_109_22 rfl (fun p1544 w1544 e1544 t1544 g1544 => ?_)
        cases e1544
        first | (rw [(st_16_7 hS)] at g1544; cases g1544) | (rw [(st_16_4 hS)] at g1544; cases g1544) | skip
        refine zSiload (m := 1) (k := 3) vr_109_25 rfl rfl rfl (fun x1545 e1545 => ?_)
        cases e1545
        refine zLiald vr_109_26 rfl (fun p1546 x1546 w1546 e1546 f1546 c1546 t1546 g1546 => ?_)
        cases e1546
        cases f1546
        first | (rw [(st_16_7 hS)] at g1546; cases g1546) | (rw [(st_16_4 hS)] at g1546; cases g1546) | skip
        refine zS2 (f := fun x y => .int (x + y)) vr_109_27 rfl rfl (fun x1547 y1547 e1547 f1547 => ?_)
        cases e1547
        cases f1547
        refine zSistore (m := 1) (k := 2) vr_109_28 rfl rfl (fun x1548 e1548 => ?_)
        cases e1548
        show zL zrx zi _ 109 29 [(2, _), (3, _), (0, _), (1, _)] [] _ _ _
        refine zSiinc vr_109_29 rfl rfl (fun x1549 e1549 => ?_)
        cases e1549
        show zL zrx zi _ 109 32 [(3, _), (2, _), (0, _), (1, _)] [] _ _ _
        refine zSgo (t := 4) vr_109_32 rfl rfl ?_
        rw [ofNat_succ]
        refine zL_pm _ _ _ [(3, _), (2, _), (0, _), (1, _)] _ _ _ _ _ ⟨(List.forall_mem_cons.mpr ⟨List.mem_cons_self, (List.forall_mem_cons.mpr ⟨(List.mem_cons_of_mem _ List.mem_cons_self), (List.forall_mem_cons.mpr ⟨(List.mem_cons_of_mem _ (List.mem_cons_of_mem _ List.mem_cons_self)), (List.forall_mem_cons.mpr ⟨(List.mem_cons_of_mem _ (List.mem_cons_of_mem _ (List.mem_cons_of_mem _ List.mem_cons_self))), (fun _ h => absurd h List.not_mem_nil)⟩)⟩)⟩)⟩), show ([3, 2, 0, 1] : List Nat).Nodup by decide⟩ (C_pw_loop hS n (k + 1) _ _ (by have y := c1531; rw [i32_le, kk.2, z6] at y; omega) ?_)
        first
          | exact (pwF_n (by rw [← kk.1, iv_of g1537]; exact c1539)).trans hD
          | exact (pwF_y (by rw [← kk.1, iv_of g1537]; exact Decidable.not_not.mp c1539)).trans (by rw [hD, ← iv_of g1546, kk.1])
theorem C_pw (n : Nat) (x : Int32) (h : List zC) (u : Nat) (hS : Stc h) : zL zrx zi n 109 0 [(0, .ref 16), (1, .int x)] [] h u (fun o h2 _ => h2 = h ∧ o = .inl (some (.int (pwF (iv h 26) (iv h 17) x 6)))) := by
  refine zSp0 (pc' := 1) (st' := .int (0) :: _) vr_109_0 rfl rfl ?_
  refine zSistore (m := 1) (k := 2) vr_109_1 rfl rfl (fun x1552 e1552 => ?_)
  cases e1552
  show zL zrx zi _ 109 2 [(2, _), (0, _), (1, _)] [] _ _ _
  refine zSp0 (pc' := 3) (st' := .int (0) :: _) vr_109_2 rfl rfl ?_
  refine zSistore (m := 1) (k := 3) vr_109_3 rfl rfl (fun x1554 e1554 => ?_)
  cases e1554
  show zL zrx zi _ 109 4 [(3, _), (2, _), (0, _), (1, _)] [] _ _ _
  refine zL_pm _ _ _ [(3, _), (2, _), (0, _), (1, _)] _ _ _ _ _ ⟨(List.forall_mem_cons.mpr ⟨List.mem_cons_self, (List.forall_mem_cons.mpr ⟨(List.mem_cons_of_mem _ List.mem_cons_self), (List.forall_mem_cons.mpr ⟨(List.mem_cons_of_mem _ (List.mem_cons_of_mem _ List.mem_cons_self)), (List.forall_mem_cons.mpr ⟨(List.mem_cons_of_mem _ (List.mem_cons_of_mem _ (List.mem_cons_of_mem _ List.mem_cons_self))), (fun _ h => absurd h List.not_mem_nil)⟩)⟩)⟩)⟩), show ([3, 2, 0, 1] : List Nat).Nodup by decide⟩ (C_pw_loop hS _ 0 0 _ (by omega) rfl)
set_option maxRecDepth 20000 in
theorem C_mh_loop {h : List zC} (hS : Stc h) : ∀ (n k : Nat) (m s : Int32) (w4 w5 : Value) (u : Nat), k ≤ 6 → mhF (iv h 26) (iv h 17) k = (m, s) → zL zrx zi n 108 6 [(3, .int (Int32.ofNat k)), (2, .int s), (1, .int m), (0, .ref 16), (4, w4), (5, w5)] [] h u (fun o h2 _ => h2 = h ∧ o = .inl (some (.int (mhF (iv h 26) (iv h 17) 6).2)))
  | 0, _, _, _, _, _, _, _, _ => trivial
  | n + 1, k, m, s, w4, w5, u, hk, hD => by
    have kk := (toNat_ofNat (m := k) (by omega))
    have z6 : (6 : Int32).toInt = 6 := rfl
    refine zLp vr_108_6 rfl rfl ?_
    refine zSp0 (pc' := 9) (st' := .int (6) :: _) vr_108_7 rfl rfl ?_
    refine zSb2 (f := fun x y => decide (y ≤ x)) (off := 54) (t := 63) vr_108_9 rfl rfl rfl (fun x1556 y1556 e1556 f1556 q1556 => ?_) (fun x1556 y1556 e1556 f1556 q1556 => ?_)
    · cases e1556
      cases f1556
      have c1556 := of_decide_eq_true q1556
      refine zSiload (m := 1) (k := 2) vr_108_63 rfl rfl rfl (fun x1557 e1557 => ?_)
      cases e1557
      refine zLiret vr_108_64 rfl (fun x1558 e1558 => ?_)
      cases e1558
      have y := c1556
      rw [i32_le, kk.2, z6] at y
      have e : k = 6 := by omega
      rw [e] at hD
      rw [hD]
      exact ⟨rfl, rfl⟩
    · cases e1556
      cases f1556
      have c1556 := ndc q1556
      refine zSaload (m := 1) (k := 0) vr_108_12 rfl rfl rfl ?_
      refine zLget vr_108_13 rfl (fun p1560 w1560 e1560 t1560 g1560 => ?_)
      cases e1560
      first | (rw [(st_16_7 hS)] at g1560; cases g1560) | skip
      refine zSiload (m := 1) (k := 3) vr_108_16 rfl rfl rfl (fun x1561 e1561 => ?_)
      cases e1561
      refine zLiald vr_108_17 rfl (fun p1562 x1562 w1562 e1562 f1562 c1562 t1562 g1562 => ?_)
      cases e1562
      cases f1562
      first | (rw [(st_16_7 hS)] at g1562; cases g1562) | skip
      refine zSistore (m := 2) (k := 4) vr_108_18 rfl rfl (fun x1563 e1563 => ?_)
      cases e1563
      show zL zrx zi _ 108 20 [(4, _), (3, _), (2, _), (1, _), (0, _), (5, _)] [] _ _ _
      have tk := iv_of g1562
      rw [kk.1] at tk
      refine zSaload (m := 1) (k := 0) vr_108_20 rfl rfl rfl ?_
      refine zSiload (m := 2) (k := 4) vr_108_21 rfl rfl rfl (fun x1565 e1565 => ?_)
      cases e1565
      refine zScall vr_108_23 rfl rfl rfl (fun m1566 _ => C_pw _ _ _ _ hS) (fun v1566 h1566 u1566 q1566 => ?_) (fun E1566 h1566 u1566 q1566 => ?_)
      · obtain ⟨eh1566, z1566⟩ := q1566
        replace eh1566 := eh1566.symm
        subst eh1566
        cases z1566
        show zL zrx zi _ 108 26 [(4, _), (3, _), (2, _), (1, _), (0, _), (5, _)] [_] _ _ _
        refine zSistore (m := 2) (k := 5) vr_108_26 rfl rfl (fun x1567 e1567 => ?_)
        cases e1567
        show zL zrx zi _ 108 28 [(5, _), (4, _), (3, _), (2, _), (1, _), (0, _)] [] _ _ _
        refine zSiload (m := 2) (k := 4) vr_108_28 rfl rfl rfl (fun x1568 e1568 => ?_)
        cases e1568
        refine zSb1 (f := fun x => decide (x < 0)) (off := 27) (t := 57) vr_108_30 rfl rfl rfl (fun x1569 e1569 q1569 => ?_) (fun x1569 e1569 q1569 => ?_)
        · cases e1569
          have c1569 := of_decide_eq_true q1569
          refine zSiinc vr_108_57 rfl rfl (fun x1570 e1570 => ?_)
          cases e1570
          show zL zrx zi _ 108 60 [(3, _), (5, _), (4, _), (2, _), (1, _), (0, _)] [] _ _ _
          refine zSgo (t := 6) vr_108_60 rfl rfl ?_
          rw [ofNat_succ]
          refine zL_pm _ _ _ [(3, _), (2, _), (1, _), (0, _), (4, _), (5, _)] _ _ _ _ _ ⟨(List.forall_mem_cons.mpr ⟨List.mem_cons_self, (List.forall_mem_cons.mpr ⟨(List.mem_cons_of_mem _ (List.mem_cons_of_mem _ (List.mem_cons_of_mem _ (List.mem_cons_of_mem _ (List.mem_cons_of_mem _ List.mem_cons_self))))), (List.forall_mem_cons.mpr ⟨(List.mem_cons_of_mem _ (List.mem_cons_of_mem _ (List.mem_cons_of_mem _ (List.mem_cons_of_mem _ List.mem_cons_self)))), (List.forall_mem_cons.mpr ⟨(List.mem_cons_of_mem _ List.mem_cons_self), (List.forall_mem_cons.mpr ⟨(List.mem_cons_of_mem _ (List.mem_cons_of_mem _ List.mem_cons_self)), (List.forall_mem_cons.mpr ⟨(List.mem_cons_of_mem _ (List.mem_cons_of_mem _ (List.mem_cons_of_mem _ List.mem_cons_self))), (fun _ h => absurd h List.not_mem_nil)⟩)⟩)⟩)⟩)⟩)⟩), show ([3, 2, 1, 0, 4, 5] : List Nat).Nodup by decide⟩ (C_mh_loop hS n (k + 1) _ _ _ _ _ (by have y := c1556; rw [i32_le, kk.2, z6] at y; omega) ?_)
          first
            | exact (mhF_n (fun z => z.1 (by rw [tk]; exact c1569))).trans hD
            | exact (mhF_n (fun z => by rw [hD, tk] at z; rcases z.2 with y | y; exact c1533 y; exact c1514 y.1)).trans hD
            | exact (mhF_n (fun z => by rw [hD, tk] at z; rcases z.2 with y | y; exact c1533 y; exact absurd y.2 (Int32.not_lt.mpr c1518))).trans hD
            | exact (mhF_y ⟨by rw [tk]; exact c1569, by rw [hD, tk]; exact Or.inl c1533⟩).trans (by rw [tk])
            | exact (mhF_y ⟨by rw [tk]; exact c1569, by rw [hD, tk]; exact Or.inr ⟨Decidable.not_not.mp c1514, Int32.not_le.mp c1518⟩⟩).trans (by rw [tk])
        · cases e1569
          have c1569 := ndc q1569
          refine zSiload (m := 2) (k := 5) vr_108_33 rfl rfl rfl (fun x1572 e1572 => ?_)
          cases e1572
          refine zSiload (m := 1) (k := 1) vr_108_35 rfl rfl rfl (fun x1573 e1573 => ?_)
          cases e1573
          refine zSb2 (f := fun x y => decide (y < x)) (off := 15) (t := 51) vr_108_36 rfl rfl rfl (fun x1574 y1574 e1574 f1574 q1574 => ?_) (fun x1574 y1574 e1574 f1574 q1574 => ?_)
          · cases e1574
            cases f1574
            have c1574 := of_decide_eq_true q1574
            refine zSiload (m := 2) (k := 5) vr_108_51 rfl rfl rfl (fun x1575 e1575 => ?_)
            cases e1575
            refine zSistore (m := 1) (k := 1) vr_108_53 rfl rfl (fun x1576 e1576 => ?_)
            cases e1576
            show zL zrx zi _ 108 54 [(1, _), (5, _), (4, _), (3, _), (2, _), (0, _)] [] _ _ _
            refine zSiload (m := 2) (k := 4) vr_108_54 rfl rfl rfl (fun x1577 e1577 => ?_)
            cases e1577
            refine zSistore (m := 1) (k := 2) vr_108_56 rfl rfl (fun x1578 e1578 => ?_)
            cases e1578
            show zL zrx zi _ 108 57 [(2, _), (1, _), (5, _), (4, _), (3, _), (0, _)] [] _ _ _
            refine zSiinc vr_108_57 rfl rfl (fun x1579 e1579 => ?_)
            cases e1579
            show zL zrx zi _ 108 60 [(3, _), (2, _), (1, _), (5, _), (4, _), (0, _)] [] _ _ _
            refine zSgo (t := 6) vr_108_60 rfl rfl ?_
            rw [ofNat_succ]
            refine zL_pm _ _ _ [(3, _), (2, _), (1, _), (0, _), (4, _), (5, _)] _ _ _ _ _ ⟨(List.forall_mem_cons.mpr ⟨List.mem_cons_self, (List.forall_mem_cons.mpr ⟨(List.mem_cons_of_mem _ List.mem_cons_self), (List.forall_mem_cons.mpr ⟨(List.mem_cons_of_mem _ (List.mem_cons_of_mem _ List.mem_cons_self)), (List.forall_mem_cons.mpr ⟨(List.mem_cons_of_mem _ (List.mem_cons_of_mem _ (List.mem_cons_of_mem _ (List.mem_cons_of_mem _ (List.mem_cons_of_mem _ List.mem_cons_self))))), (List.forall_mem_cons.mpr ⟨(List.mem_cons_of_mem _ (List.mem_cons_of_mem _ (List.mem_cons_of_mem _ (List.mem_cons_of_mem _ List.mem_cons_self)))), (List.forall_mem_cons.mpr ⟨(List.mem_cons_of_mem _ (List.mem_cons_of_mem _ (List.mem_cons_of_mem _ List.mem_cons_self))), (fun _ h => absurd h List.not_mem_nil)⟩)⟩)⟩)⟩)⟩)⟩), show ([3, 2, 1, 0, 4, 5] : List Nat).Nodup by decide⟩ (C_mh_loop hS n (k + 1) _ _ _ _ _ (by have y := c1556; rw [i32_le, kk.2, z6] at y; omega) ?_)
            first
              | exact (mhF_n (fun z => z.1 (by rw [tk]; exact c1569))).trans hD
              | exact (mhF_n (fun z => by rw [hD, tk] at z; rcases z.2 with y | y; exact c1574 y; exact c1514 y.1)).trans hD
              | exact (mhF_n (fun z => by rw [hD, tk] at z; rcases z.2 with y | y; exact c1574 y; exact absurd y.2 (Int32.not_lt.mpr c1518))).trans hD
              | exact (mhF_y ⟨by rw [tk]; exact c1569, by rw [hD, tk]; exact Or.inl c1574⟩).trans (by rw [tk])
              | exact (mhF_y ⟨by rw [tk]; exact c1569, by rw [hD, tk]; exact Or.inr ⟨Decidable.not_not.mp c1514, Int32.not_le.mp c1518⟩⟩).trans (by rw [tk])
          · cases e1574
            cases f1574
            have c1574 := ndc q1574
            refine zSiload (m := 2) (k := 5) vr_108_39 rfl rfl rfl (fun x1581 e1581 => ?_)
            cases e1581
            refine zSiload (m := 1) (k := 1) vr_108_41 rfl rfl rfl (fun x1582 e1582 => ?_)
            cases e1582
            refine zSb2 (f := fun x y => decide (¬ x = y)) (off := 15) (t := 57) vr_108_42 rfl rfl rfl (fun x1583 y1583 e1583 f1583 q1583 => ?_) (fun x1583 y1583 e1583 f1583 q1583 => ?_)
            · cases e1583
              cases f1583
              have c1583 := of_decide_eq_true q1583
              refine zSiinc vr_108_57 rfl rfl (fun x1584 e1584 => ?_)
              cases e1584
              show zL zrx zi _ 108 60 [(3, _), (5, _), (4, _), (2, _), (1, _), (0, _)] [] _ _ _
              refine zSgo (t := 6) vr_108_60 rfl rfl ?_
              rw [ofNat_succ]
              refine zL_pm _ _ _ [(3, _), (2, _), (1, _), (0, _), (4, _), (5, _)] _ _ _ _ _ ⟨(List.forall_mem_cons.mpr ⟨List.mem_cons_self, (List.forall_mem_cons.mpr ⟨(List.mem_cons_of_mem _ (List.mem_cons_of_mem _ (List.mem_cons_of_mem _ (List.mem_cons_of_mem _ (List.mem_cons_of_mem _ List.mem_cons_self))))), (List.forall_mem_cons.mpr ⟨(List.mem_cons_of_mem _ (List.mem_cons_of_mem _ (List.mem_cons_of_mem _ (List.mem_cons_of_mem _ List.mem_cons_self)))), (List.forall_mem_cons.mpr ⟨(List.mem_cons_of_mem _ List.mem_cons_self), (List.forall_mem_cons.mpr ⟨(List.mem_cons_of_mem _ (List.mem_cons_of_mem _ List.mem_cons_self)), (List.forall_mem_cons.mpr ⟨(List.mem_cons_of_mem _ (List.mem_cons_of_mem _ (List.mem_cons_of_mem _ List.mem_cons_self))), (fun _ h => absurd h List.not_mem_nil)⟩)⟩)⟩)⟩)⟩)⟩), show ([3, 2, 1, 0, 4, 5] : List Nat).Nodup by decide⟩ (C_mh_loop hS n (k + 1) _ _ _ _ _ (by have y := c1556; rw [i32_le, kk.2, z6] at y; omega) ?_)
              first
                | exact (mhF_n (fun z => z.1 (by rw [tk]; exact c1569))).trans hD
                | exact (mhF_n (fun z => by rw [hD, tk] at z; rcases z.2 with y | y; exact c1574 y; exact c1583 y.1)).trans hD
                | exact (mhF_n (fun z => by rw [hD, tk] at z; rcases z.2 with y | y; exact c1574 y; exact absurd y.2 (Int32.not_lt.mpr c1518))).trans hD
                | exact (mhF_y ⟨by rw [tk]; exact c1569, by rw [hD, tk]; exact Or.inl c1574⟩).trans (by rw [tk])
                | exact (mhF_y ⟨by rw [tk]; exact c1569, by rw [hD, tk]; exact Or.inr ⟨Decidable.not_not.mp c1583, Int32.not_le.mp c1518⟩⟩).trans (by rw [tk])
            · cases e1583
              cases f1583
              have c1583 := ndc q1583
              refine zSiload (m := 2) (k := 4) vr_108_45 rfl rfl rfl (fun x1586 e1586 => ?_)
              cases e1586
              refine zSiload (m := 1) (k := 2) vr_108_47 rfl rfl rfl (fun x1587 e1587 => ?_)
              cases e1587
              refine zSb2 (f := fun x y => decide (y ≤ x)) (off := 9) (t := 57) vr_108_48 rfl rfl rfl (fun x1588 y1588 e1588 f1588 q1588 => ?_) (fun x1588 y1588 e1588 f1588 q1588 => ?_)
              · cases e1588
                cases f1588
                have c1588 := of_decide_eq_true q1588
                refine zSiinc vr_108_57 rfl rfl (fun x1589 e1589 => ?_)
                cases e1589
                show zL zrx zi _ 108 60 [(3, _), (5, _), (4, _), (2, _), (1, _), (0, _)] [] _ _ _
                refine zSgo (t := 6) vr_108_60 rfl rfl ?_
                rw [ofNat_succ]
                refine zL_pm _ _ _ [(3, _), (2, _), (1, _), (0, _), (4, _), (5, _)] _ _ _ _ _ ⟨(List.forall_mem_cons.mpr ⟨List.mem_cons_self, (List.forall_mem_cons.mpr ⟨(List.mem_cons_of_mem _ (List.mem_cons_of_mem _ (List.mem_cons_of_mem _ (List.mem_cons_of_mem _ (List.mem_cons_of_mem _ List.mem_cons_self))))), (List.forall_mem_cons.mpr ⟨(List.mem_cons_of_mem _ (List.mem_cons_of_mem _ (List.mem_cons_of_mem _ (List.mem_cons_of_mem _ List.mem_cons_self)))), (List.forall_mem_cons.mpr ⟨(List.mem_cons_of_mem _ List.mem_cons_self), (List.forall_mem_cons.mpr ⟨(List.mem_cons_of_mem _ (List.mem_cons_of_mem _ List.mem_cons_self)), (List.forall_mem_cons.mpr ⟨(List.mem_cons_of_mem _ (List.mem_cons_of_mem _ (List.mem_cons_of_mem _ List.mem_cons_self))), (fun _ h => absurd h List.not_mem_nil)⟩)⟩)⟩)⟩)⟩)⟩), show ([3, 2, 1, 0, 4, 5] : List Nat).Nodup by decide⟩ (C_mh_loop hS n (k + 1) _ _ _ _ _ (by have y := c1556; rw [i32_le, kk.2, z6] at y; omega) ?_)
                first
                  | exact (mhF_n (fun z => z.1 (by rw [tk]; exact c1569))).trans hD
                  | exact (mhF_n (fun z => by rw [hD, tk] at z; rcases z.2 with y | y; exact c1574 y; exact c1583 y.1)).trans hD
                  | exact (mhF_n (fun z => by rw [hD, tk] at z; rcases z.2 with y | y; exact c1574 y; exact absurd y.2 (Int32.not_lt.mpr c1588))).trans hD
                  | exact (mhF_y ⟨by rw [tk]; exact c1569, by rw [hD, tk]; exact Or.inl c1574⟩).trans (by rw [tk])
                  | exact (mhF_y ⟨by rw [tk]; exact c1569, by rw [hD, tk]; exact Or.inr ⟨Decidable.not_not.mp c1583, Int32.not_le.mp c1588⟩⟩).trans (by rw [tk])
              · cases e1588
                cases f1588
                have c1588 := ndc q1588
                refine zSiload (m := 2) (k := 5) vr_108_51 rfl rfl rfl (fun x1591 e1591 => ?_)
                cases e1591
                refine zSistore (m := 1) (k := 1) vr_108_53 rfl rfl (fun x1592 e1592 => ?_)
                cases e1592
                show zL zrx zi _ 108 54 [(1, _), (5, _), (4, _), (3, _), (2, _), (0, _)] [] _ _ _
                refine zSiload (m := 2) (k := 4) vr_108_54 rfl rfl rfl (fun x1593 e1593 => ?_)
                cases e1593
                refine zSistore (m := 1) (k := 2) vr_108_56 rfl rfl (fun x1594 e1594 => ?_)
                cases e1594
                show zL zrx zi _ 108 57 [(2, _), (1, _), (5, _), (4, _), (3, _), (0, _)] [] _ _ _
                refine zSiinc vr_108_57 rfl rfl (fun x1595 e1595 => ?_)
                cases e1595
                show zL zrx zi _ 108 60 [(3, _), (2, _), (1, _), (5, _), (4, _), (0, _)] [] _ _ _
                refine zSgo (t := 6) vr_108_60 rfl rfl ?_
                rw [ofNat_succ]
                refine zL_pm _ _ _ [(3, _), (2, _), (1, _), (0, _), (4, _), (5, _)] _ _ _ _ _ ⟨(List.forall_mem_cons.mpr ⟨List.mem_cons_self, (List.forall_mem_cons.mpr ⟨(List.mem_cons_of_mem _ List.mem_cons_self), (List.forall_mem_cons.mpr ⟨(List.mem_cons_of_mem _ (List.mem_cons_of_mem _ List.mem_cons_self)), (List.forall_mem_cons.mpr ⟨(List.mem_cons_of_mem _ (List.mem_cons_of_mem _ (List.mem_cons_of_mem _ (List.mem_cons_of_mem _ (List.mem_cons_of_mem _ List.mem_cons_self))))), (List.forall_mem_cons.mpr ⟨(List.mem_cons_of_mem _ (List.mem_cons_of_mem _ (List.mem_cons_of_mem _ (List.mem_cons_of_mem _ List.mem_cons_self)))), (List.forall_mem_cons.mpr ⟨(List.mem_cons_of_mem _ (List.mem_cons_of_mem _ (List.mem_cons_of_mem _ List.mem_cons_self))), (fun _ h => absurd h List.not_mem_nil)⟩)⟩)⟩)⟩)⟩)⟩), show ([3, 2, 1, 0, 4, 5] : List Nat).Nodup by decide⟩ (C_mh_loop hS n (k + 1) _ _ _ _ _ (by have y := c1556; rw [i32_le, kk.2, z6] at y; omega) ?_)
                first
                  | exact (mhF_n (fun z => z.1 (by rw [tk]; exact c1569))).trans hD
                  | exact (mhF_n (fun z => by rw [hD, tk] at z; rcases z.2 with y | y; exact c1574 y; exact c1583 y.1)).trans hD
                  | exact (mhF_n (fun z => by rw [hD, tk] at z; rcases z.2 with y | y; exact c1574 y; exact absurd y.2 (Int32.not_lt.mpr c1588))).trans hD
                  | exact (mhF_y ⟨by rw [tk]; exact c1569, by rw [hD, tk]; exact Or.inl c1574⟩).trans (by rw [tk])
                  | exact (mhF_y ⟨by rw [tk]; exact c1569, by rw [hD, tk]; exact Or.inr ⟨Decidable.not_not.mp c1583, Int32.not_le.mp c1588⟩⟩).trans (by rw [tk])
      · obtain ⟨-, z⟩ := q1566
        cases z
theorem C_mh (n : Nat)  (h : List zC) (u : Nat) (hS : Stc h) : zL zrx zi n 108 0 [(0, .ref 16)] [] h u (fun o h2 _ => h2 = h ∧ o = .inl (some (.int (mhF (iv h 26) (iv h 17) 6).2))) := by
  refine zSp0 (pc' := 1) (st' := .int (0) :: _) vr_108_0 rfl rfl ?_
  refine zSistore (m := 1) (k := 1) vr_108_1 rfl rfl (fun x1598 e1598 => ?_)
  cases e1598
  show zL zrx zi _ 108 2 [(1, _), (0, _)] [] _ _ _
  refine zSp0 (pc' := 3) (st' := .int (-1) :: _) vr_108_2 rfl rfl ?_
  refine zSistore (m := 1) (k := 2) vr_108_3 rfl rfl (fun x1600 e1600 => ?_)
  cases e1600
  show zL zrx zi _ 108 4 [(2, _), (1, _), (0, _)] [] _ _ _
  refine zSp0 (pc' := 5) (st' := .int (0) :: _) vr_108_4 rfl rfl ?_
  refine zSistore (m := 1) (k := 3) vr_108_5 rfl rfl (fun x1602 e1602 => ?_)
  cases e1602
  show zL zrx zi _ 108 6 [(3, _), (2, _), (1, _), (0, _)] [] _ _ _
  refine zL_pm _ _ _ [(3, _), (2, _), (1, _), (0, _), (4, _), (5, _)] _ _ _ _ _ ⟨(List.forall_mem_cons.mpr ⟨List.mem_cons_self, (List.forall_mem_cons.mpr ⟨(List.mem_cons_of_mem _ List.mem_cons_self), (List.forall_mem_cons.mpr ⟨(List.mem_cons_of_mem _ (List.mem_cons_of_mem _ List.mem_cons_self)), (List.forall_mem_cons.mpr ⟨(List.mem_cons_of_mem _ (List.mem_cons_of_mem _ (List.mem_cons_of_mem _ List.mem_cons_self))), (fun _ h => absurd h List.not_mem_nil)⟩)⟩)⟩)⟩), show ([3, 2, 1, 0, 4, 5] : List Nat).Nodup by decide⟩ (C_mh_loop hS _ 0 0 (-1) .null .null _ (by omega) rfl)
set_option maxRecDepth 20000 in
theorem C_ask_loop {cnt m r f a d : Int32} {h : List zC} (hS : Stc h) (hc : gF h 28 2 = some (.int cnt)) (h0 : 0 ≤ cnt.toInt) (h40 : cnt.toInt ≤ 40) (hd : gF h 16 0 = some (.int d)) : ∀ (n k : Nat) (g : List zC) (u : Nat), k ≤ 6 → g.length = h.length → (∀ x k, ¬ x = 186 → ¬ x = 26 → gF g x k = gF h x k) → gF g 186 3 = some (.int m) → gF g 186 2 = some (.int r) → gF g 186 4 = some (.int f) → gF g 186 5 = some (.int a) → (∀ i, i < k → gF g 26 i = some (.int (tCu h cnt m r f a d i))) → zL zrx zi n 107 37 [(6, .int (Int32.ofNat k)), (5, .ref 186), (0, .ref 16), (1, .int m), (2, .int r), (3, .int f), (4, .int a)] [] g u (fun o h2 _ => o = .inl none ∧ h2.length = h.length ∧ (∀ x k, ¬ x = 186 → ¬ x = 26 → gF h2 x k = gF h x k) ∧ ∀ i, i < 6 → gF h2 26 i = some (.int (tCu h cnt m r f a d i)))
  | 0, _, _, _, _, _, _, _, _, _, _, _ => trivial
  | n + 1, k, g, u, hk, hl, fr, p3, p2, p4, p5, hi => by
    have kk := (toNat_ofNat (m := k) (by omega))
    have z6 : (6 : Int32).toInt = 6 := rfl
    have hh := hS.1
    have hSg : Stc g := by
      refine ⟨by rw [hl]; exact hh, fun e he => ?_⟩
      have q1 := List.all_eq_true.mp stL_186 e he
      have q2 := List.all_eq_true.mp stL_26 e he
      rw [fr _ _ (by simpa using q1) (by simpa using q2)]
      exact hS.2 e he
    have hcg := (fr 28 2 (by omega) (by omega)).trans hc
    have hdg := (fr 16 0 (by omega) (by omega)).trans hd
    refine zLp vr_107_37 rfl rfl ?_
    refine zSp0 (pc' := 41) (st' := .int (6) :: _) vr_107_39 rfl rfl ?_
    refine zSb2 (f := fun x y => decide (y ≤ x)) (off := 31) (t := 72) vr_107_41 rfl rfl rfl (fun x1604 y1604 e1604 f1604 q1604 => ?_) (fun x1604 y1604 e1604 f1604 q1604 => ?_)
    · cases e1604
      cases f1604
      have c1604 := of_decide_eq_true q1604
      refine zSvoid vr_107_72 rfl ?_
      have y := c1604
      rw [i32_le, kk.2, z6] at y
      have e : k = 6 := by omega
      subst e
      exact ⟨rfl, hl, fr, hi⟩
    · cases e1604
      cases f1604
      have c1604 := ndc q1604
      refine zSaload (m := 1) (k := 0) vr_107_44 rfl rfl rfl ?_
      refine zLget vr_107_45 rfl (fun p1607 w1607 e1607 t1607 g1607 => ?_)
      cases e1607
      first | (rw [(st_16_7 hSg)] at g1607; cases g1607) | (rw [(st_16_9 hSg)] at g1607; cases g1607) | (rw [hdg] at g1607; cases g1607) | skip
      refine zSiload (m := 2) (k := 6) vr_107_48 rfl rfl rfl (fun x1608 e1608 => ?_)
      cases e1608
      refine zSaload (m := 1) (k := 0) vr_107_50 rfl rfl rfl ?_
      refine zLget vr_107_51 rfl (fun p1610 w1610 e1610 t1610 g1610 => ?_)
      cases e1610
      first | (rw [(st_16_7 hSg)] at g1610; cases g1610) | (rw [(st_16_9 hSg)] at g1610; cases g1610) | (rw [hdg] at g1610; cases g1610) | skip
      refine zSiload (m := 2) (k := 6) vr_107_54 rfl rfl rfl (fun x1611 e1611 => ?_)
      cases e1611
      refine zSaload (m := 2) (k := 5) vr_107_56 rfl rfl rfl ?_
      refine zSaload (m := 1) (k := 0) vr_107_58 rfl rfl rfl ?_
      refine zLget vr_107_59 rfl (fun p1614 w1614 e1614 t1614 g1614 => ?_)
      cases e1614
      first | (rw [(st_16_7 hSg)] at g1614; cases g1614) | (rw [(st_16_9 hSg)] at g1614; cases g1614) | (rw [hdg] at g1614; cases g1614) | skip
      refine zScall vr_107_62 rfl rfl rfl (fun m1615 _ => C_ofParish _ _ _ _ _ _ hSg hcg h0 h40) (fun v1615 h1615 u1615 q1615 => ?_) (fun E1615 h1615 u1615 q1615 => ?_)
      · obtain ⟨eh1615, z1615⟩ := q1615
        subst eh1615
        cases z1615
        show zL zrx zi _ 107 65 [(6, _), (5, _), (0, _), (1, _), (2, _), (3, _), (4, _)] [_, _, _] _ _ _
        refine zLiast vr_107_65 rfl (fun p1616 x1616 z1616 k1616 e1616 f1616 d1616 c1616 t1616 g1616 => ?_)
        cases e1616
        cases f1616
        cases d1616
        refine zSiinc vr_107_66 rfl rfl (fun x1617 e1617 => ?_)
        cases e1617
        show zL zrx zi _ 107 69 [(6, _), (5, _), (0, _), (1, _), (2, _), (3, _), (4, _)] [] _ _ _
        refine zSgo (t := 37) vr_107_69 rfl rfl ?_
        rw [ofNat_succ]
        have g0 := g1616
        rw [kk.1] at g0
        refine zL_pm _ _ _ [(6, _), (5, _), (0, _), (1, _), (2, _), (3, _), (4, _)] _ _ _ _ _ ⟨(List.forall_mem_cons.mpr ⟨List.mem_cons_self, (List.forall_mem_cons.mpr ⟨(List.mem_cons_of_mem _ List.mem_cons_self), (List.forall_mem_cons.mpr ⟨(List.mem_cons_of_mem _ (List.mem_cons_of_mem _ List.mem_cons_self)), (List.forall_mem_cons.mpr ⟨(List.mem_cons_of_mem _ (List.mem_cons_of_mem _ (List.mem_cons_of_mem _ List.mem_cons_self))), (List.forall_mem_cons.mpr ⟨(List.mem_cons_of_mem _ (List.mem_cons_of_mem _ (List.mem_cons_of_mem _ (List.mem_cons_of_mem _ List.mem_cons_self)))), (List.forall_mem_cons.mpr ⟨(List.mem_cons_of_mem _ (List.mem_cons_of_mem _ (List.mem_cons_of_mem _ (List.mem_cons_of_mem _ (List.mem_cons_of_mem _ List.mem_cons_self))))), (List.forall_mem_cons.mpr ⟨(List.mem_cons_of_mem _ (List.mem_cons_of_mem _ (List.mem_cons_of_mem _ (List.mem_cons_of_mem _ (List.mem_cons_of_mem _ (List.mem_cons_of_mem _ List.mem_cons_self)))))), (fun _ h => absurd h List.not_mem_nil)⟩)⟩)⟩)⟩)⟩)⟩)⟩), show ([6, 5, 0, 1, 2, 3, 4] : List Nat).Nodup by decide⟩ (C_ask_loop hS hc h0 h40 hd n (k + 1) _ _ (by have y := c1604; rw [i32_le, kk.2, z6] at y; omega) (by rw [g0.1]; exact hl) (fun x z x1 x2 => by rw [g0.2.1, if_neg (fun y => x2 y.1)]; exact fr x z x1 x2) (by rw [g0.2.1, if_neg (by omega)]; exact p3) (by rw [g0.2.1, if_neg (by omega)]; exact p2) (by rw [g0.2.1, if_neg (by omega)]; exact p4) (by rw [g0.2.1, if_neg (by omega)]; exact p5) (fun i hik => ?_))
        rw [g0.2.1]
        by_cases z : i = k
        · subst z
          rw [if_pos ⟨rfl, rfl⟩, iv_of p3, iv_of p2, iv_of p4, iv_of p5]
          unfold tCu
          rw [cuC_same (n := cnt.toNatClampNeg) (fun x hx => dC_same (fun y v hy => fr _ v (by omega) (by omega)) x (v_r_lt hx h40)) _ (Nat.le_refl _)]
        · rw [if_neg (fun w => z w.2)]
          exact hi i (by omega)
      · obtain ⟨-, z⟩ := q1615
        cases z
theorem C_ask (n : Nat) (m r f a : Int32) (h : List zC) (u : Nat) {cnt d : Int32} (hS : Stc h) (hc : gF h 28 2 = some (.int cnt)) (h0 : 0 ≤ cnt.toInt) (h40 : cnt.toInt ≤ 40) (hd : gF h 16 0 = some (.int d)) : zL zrx zi n 107 0 [(0, .ref 16), (1, .int m), (2, .int r), (3, .int f), (4, .int a)] [] h u (fun o h2 _ => o = .inl none ∧ h2.length = h.length ∧ (∀ x k, ¬ x = 186 → ¬ x = 26 → gF h2 x k = gF h x k) ∧ ∀ i, i < 6 → gF h2 26 i = some (.int (tCu h cnt m r f a d i))) := by
  refine zSaload (m := 1) (k := 0) vr_107_0 rfl rfl rfl ?_
  refine zLget vr_107_1 rfl (fun p1620 w1620 e1620 t1620 g1620 => ?_)
  cases e1620
  first | (rw [(st_16_13 hS)] at g1620; cases g1620) | (rw [(st_185_0 hS)] at g1620; cases g1620) | skip
  refine zLget vr_107_4 rfl (fun p1621 w1621 e1621 t1621 g1621 => ?_)
  cases e1621
  first | (rw [(st_16_13 hS)] at g1621; cases g1621) | (rw [(st_185_0 hS)] at g1621; cases g1621) | skip
  refine zSastore (m := 2) (k := 5) vr_107_7 rfl rfl ?_
  show zL zrx zi _ 107 9 [(5, _), (0, _), (1, _), (2, _), (3, _), (4, _)] [] _ _ _
  refine zSaload (m := 2) (k := 5) vr_107_9 rfl rfl rfl ?_
  refine zSiload (m := 1) (k := 1) vr_107_11 rfl rfl rfl (fun x1624 e1624 => ?_)
  cases e1624
  refine zLput vr_107_12 rfl (fun p1625 k1625 e1625 t1625 g1625 => ?_)
  cases e1625
  refine zSaload (m := 2) (k := 5) vr_107_15 rfl rfl rfl ?_
  refine zSiload (m := 1) (k := 2) vr_107_17 rfl rfl rfl (fun x1627 e1627 => ?_)
  cases e1627
  refine zLput vr_107_18 rfl (fun p1628 k1628 e1628 t1628 g1628 => ?_)
  cases e1628
  refine zSaload (m := 2) (k := 5) vr_107_21 rfl rfl rfl ?_
  refine zSiload (m := 1) (k := 3) vr_107_23 rfl rfl rfl (fun x1630 e1630 => ?_)
  cases e1630
  refine zLput vr_107_24 rfl (fun p1631 k1631 e1631 t1631 g1631 => ?_)
  cases e1631
  refine zSaload (m := 2) (k := 5) vr_107_27 rfl rfl rfl ?_
  refine zSiload (m := 2) (k := 4) vr_107_29 rfl rfl rfl (fun x1633 e1633 => ?_)
  cases e1633
  refine zLput vr_107_31 rfl (fun p1634 k1634 e1634 t1634 g1634 => ?_)
  cases e1634
  refine zSp0 (pc' := 35) (st' := .int (0) :: _) vr_107_34 rfl rfl ?_
  refine zSistore (m := 2) (k := 6) vr_107_35 rfl rfl (fun x1636 e1636 => ?_)
  cases e1636
  show zL zrx zi _ 107 37 [(6, _), (5, _), (0, _), (1, _), (2, _), (3, _), (4, _)] [] _ _ _
  exact zL_pm _ _ _ [(6, _), (5, _), (0, _), (1, _), (2, _), (3, _), (4, _)] _ _ _ _ _ ⟨(List.forall_mem_cons.mpr ⟨List.mem_cons_self, (List.forall_mem_cons.mpr ⟨(List.mem_cons_of_mem _ List.mem_cons_self), (List.forall_mem_cons.mpr ⟨(List.mem_cons_of_mem _ (List.mem_cons_of_mem _ List.mem_cons_self)), (List.forall_mem_cons.mpr ⟨(List.mem_cons_of_mem _ (List.mem_cons_of_mem _ (List.mem_cons_of_mem _ List.mem_cons_self))), (List.forall_mem_cons.mpr ⟨(List.mem_cons_of_mem _ (List.mem_cons_of_mem _ (List.mem_cons_of_mem _ (List.mem_cons_of_mem _ List.mem_cons_self)))), (List.forall_mem_cons.mpr ⟨(List.mem_cons_of_mem _ (List.mem_cons_of_mem _ (List.mem_cons_of_mem _ (List.mem_cons_of_mem _ (List.mem_cons_of_mem _ List.mem_cons_self))))), (List.forall_mem_cons.mpr ⟨(List.mem_cons_of_mem _ (List.mem_cons_of_mem _ (List.mem_cons_of_mem _ (List.mem_cons_of_mem _ (List.mem_cons_of_mem _ (List.mem_cons_of_mem _ List.mem_cons_self)))))), (fun _ h => absurd h List.not_mem_nil)⟩)⟩)⟩)⟩)⟩)⟩)⟩), show ([6, 5, 0, 1, 2, 3, 4] : List Nat).Nodup by decide⟩ (C_ask_loop hS hc h0 h40 hd _ 0 _ _ (by omega) (by rw [g1634.1, g1631.1, g1628.1, g1625.1]) (fun x z x1 x2 => by rw [g1634.2.1, if_neg (fun y => x1 y.1), g1631.2.1, if_neg (fun y => x1 y.1), g1628.2.1, if_neg (fun y => x1 y.1), g1625.2.1, if_neg (fun y => x1 y.1)]) (by rw [g1634.2.1, if_neg (by omega), g1631.2.1, if_neg (by omega), g1628.2.1, if_neg (by omega), g1625.2.1, if_pos ⟨rfl, rfl⟩]) (by rw [g1634.2.1, if_neg (by omega), g1631.2.1, if_neg (by omega), g1628.2.1, if_pos ⟨rfl, rfl⟩]) (by rw [g1634.2.1, if_neg (by omega), g1631.2.1, if_pos ⟨rfl, rfl⟩]) (by rw [g1634.2.1, if_pos ⟨rfl, rfl⟩]) (fun i hi => absurd hi (Nat.not_lt_zero _)))
theorem C_held (n : Nat) (m r f a y : Int32) (h : List zC) (u : Nat) {cnt d : Int32} (hS : Stc h) (hc : gF h 28 2 = some (.int cnt)) (h0 : 0 ≤ cnt.toInt) (h40 : cnt.toInt ≤ 40) (hd : gF h 16 0 = some (.int d)) : zL zrx zi n 87 0 [(0, .ref 16), (1, .int m), (2, .int r), (3, .int f), (4, .int a), (5, .int y)] [] h u (fun o h2 _ => match o with
  | .inl v => okH m r f a y ∧ h2.length = h.length ∧ (∀ x k, ¬ x = 186 → ¬ x = 26 → gF h2 x k = gF h x k) ∧ (∀ i, i < 6 → gF h2 26 i = some (.int (tCu h cnt m r f a d i))) ∧ ∃ z : Int32, v = some (.int z) ∧ z = hdF (iv h2 26) (iv h2 17) y
  | .inr E => hExt h h2 ∧ ((E = 0 ∧ ¬ (iN 4 m ∧ iN 4 r)) ∨ (E = 1 ∧ (iN 4 m ∧ iN 4 r) ∧ ¬ (rI 0 63 f ∧ rI 0 999 a ∧ rI 0 3 y)))) := by
  refine zSiload (m := 1) (k := 1) vr_87_0 rfl rfl rfl (fun x1637 e1637 => ?_)
  cases e1637
  refine zSp0 (pc' := 2) (st' := .int (4) :: _) vr_87_1 rfl rfl ?_
  refine zScall vr_87_2 rfl rfl rfl (fun m1639 _ => C_num6 _ _ _ _ (m := 4) (by rfl)) (fun v1639 h1639 u1639 q1639 => ?_) (fun E1639 h1639 u1639 q1639 => ?_)
  · obtain ⟨eh1639, rfl, r1⟩ := q1639
    replace eh1639 := eh1639.symm
    subst eh1639
    show zL zrx zi _ 87 5 [(0, _), (1, _), (2, _), (3, _), (4, _), (5, _)] [] _ _ _
    refine zSiload (m := 1) (k := 2) vr_87_5 rfl rfl rfl (fun x1640 e1640 => ?_)
    cases e1640
    refine zSp0 (pc' := 7) (st' := .int (4) :: _) vr_87_6 rfl rfl ?_
    refine zScall vr_87_7 rfl rfl rfl (fun m1642 _ => C_num6 _ _ _ _ (m := 4) (by rfl)) (fun v1642 h1642 u1642 q1642 => ?_) (fun E1642 h1642 u1642 q1642 => ?_)
    · obtain ⟨eh1642, rfl, r2⟩ := q1642
      replace eh1642 := eh1642.symm
      subst eh1642
      show zL zrx zi _ 87 10 [(0, _), (1, _), (2, _), (3, _), (4, _), (5, _)] [] _ _ _
      refine zSiload (m := 1) (k := 3) vr_87_10 rfl rfl rfl (fun x1643 e1643 => ?_)
      cases e1643
      refine zSp0 (pc' := 12) (st' := .int (0) :: _) vr_87_11 rfl rfl ?_
      refine zSp0 (pc' := 14) (st' := .int (63) :: _) vr_87_12 rfl rfl ?_
      refine zScall vr_87_14 rfl rfl rfl (fun m1646 _ => C_val _ _ _ _ _ _) (fun v1646 h1646 u1646 q1646 => ?_) (fun E1646 h1646 u1646 q1646 => ?_)
      · obtain ⟨eh1646, rfl, r3⟩ := q1646
        replace eh1646 := eh1646.symm
        subst eh1646
        show zL zrx zi _ 87 17 [(0, _), (1, _), (2, _), (3, _), (4, _), (5, _)] [] _ _ _
        refine zSiload (m := 2) (k := 4) vr_87_17 rfl rfl rfl (fun x1647 e1647 => ?_)
        cases e1647
        refine zSp0 (pc' := 20) (st' := .int (0) :: _) vr_87_19 rfl rfl ?_
        refine zSp0 (pc' := 23) (st' := .int (999) :: _) vr_87_20 rfl rfl ?_
        refine zScall vr_87_23 rfl rfl rfl (fun m1650 _ => C_val _ _ _ _ _ _) (fun v1650 h1650 u1650 q1650 => ?_) (fun E1650 h1650 u1650 q1650 => ?_)
        · obtain ⟨eh1650, rfl, r4⟩ := q1650
          replace eh1650 := eh1650.symm
          subst eh1650
          show zL zrx zi _ 87 26 [(0, _), (1, _), (2, _), (3, _), (4, _), (5, _)] [] _ _ _
          refine zSiload (m := 2) (k := 5) vr_87_26 rfl rfl rfl (fun x1651 e1651 => ?_)
          cases e1651
          refine zSp0 (pc' := 29) (st' := .int (0) :: _) vr_87_28 rfl rfl ?_
          refine zSp0 (pc' := 30) (st' := .int (3) :: _) vr_87_29 rfl rfl ?_
          refine zScall vr_87_30 rfl rfl rfl (fun m1654 _ => C_val _ _ _ _ _ _) (fun v1654 h1654 u1654 q1654 => ?_) (fun E1654 h1654 u1654 q1654 => ?_)
          · obtain ⟨eh1654, rfl, r5⟩ := q1654
            replace eh1654 := eh1654.symm
            subst eh1654
            show zL zrx zi _ 87 33 [(0, _), (1, _), (2, _), (3, _), (4, _), (5, _)] [] _ _ _
            refine zSaload (m := 1) (k := 0) vr_87_33 rfl rfl rfl ?_
            refine zSiload (m := 1) (k := 1) vr_87_34 rfl rfl rfl (fun x1656 e1656 => ?_)
            cases e1656
            refine zSiload (m := 1) (k := 2) vr_87_35 rfl rfl rfl (fun x1657 e1657 => ?_)
            cases e1657
            refine zSiload (m := 1) (k := 3) vr_87_36 rfl rfl rfl (fun x1658 e1658 => ?_)
            cases e1658
            refine zSiload (m := 2) (k := 4) vr_87_37 rfl rfl rfl (fun x1659 e1659 => ?_)
            cases e1659
            refine zScall vr_87_39 rfl rfl rfl (fun m1660 _ => C_ask _ _ _ _ _ _ _ hS hc h0 h40 hd) (fun v1660 h1660 u1660 q1660 => ?_) (fun E1660 h1660 u1660 q1660 => ?_)
            · obtain ⟨z1660, al, af, at_⟩ := q1660
              cases z1660
              have hS2 : Stc h1660 := ⟨by rw [al]; exact hS.1, fun e he => (af e.1 e.2.1 (by simpa using List.all_eq_true.mp stL_186 e he) (by simpa using List.all_eq_true.mp stL_26 e he)).trans (hS.2 e he)⟩
              show zL zrx zi _ 87 42 [(0, _), (1, _), (2, _), (3, _), (4, _), (5, _)] [] _ _ _
              refine zSiload (m := 2) (k := 5) vr_87_42 rfl rfl rfl (fun x1661 e1661 => ?_)
              cases e1661
              refine zLsw vr_87_44 rfl (fun x1662 e1662 q1662 => ?_) (fun x1662 o1662 e1662 l1662 m1662 q1662 => ?_)
              · cases e1662
                show zL zrx zi _ 87 105 _ _ _ _ _
                have h3 : y.toInt = 3 := by
                  obtain ⟨y1, y2⟩ := r5
                  have z3 : (3 : Int32).toInt = 3 := rfl
                  have z0 : (0 : Int32).toInt = 0 := rfl
                  rcases q1662 with z | z <;> omega
                refine zSaload (m := 1) (k := 0) vr_87_105 rfl rfl rfl ?_
                refine zSp0 (pc' := 107) (st' := .int (-1) :: _) vr_87_106 rfl rfl ?_
                refine zScall vr_87_107 rfl rfl rfl (fun m1665 _ => C_pw _ _ _ _ hS2) (fun v1665 h1665 u1665 q1665 => ?_) (fun E1665 h1665 u1665 q1665 => ?_)
                · obtain ⟨eh1665, z1665⟩ := q1665
                  replace eh1665 := eh1665.symm
                  subst eh1665
                  cases z1665
                  show zL zrx zi _ 87 110 [(0, _), (1, _), (2, _), (3, _), (4, _), (5, _)] [_] _ _ _
                  refine zLiret vr_87_110 rfl (fun x1666 e1666 => ?_)
                  cases e1666
                  exact ⟨⟨⟨r1, r2⟩, r3, r4, r5⟩, al, af, at_, _, rfl, by unfold hdF; rw [h3]; rfl⟩
                · obtain ⟨-, z⟩ := q1665
                  cases z
              · cases e1662
                have hx1662 : y.toInt = 0 ∨ y.toInt = 1 ∨ y.toInt = 2 := by omega
                rcases hx1662 with w1662 | w1662 | w1662
                · rw [w1662] at q1662
                  cases (show (some (28) : Option Int) = some o1662 from q1662)
                  show zL zrx zi _ 87 72 _ _ _ _ _
                  refine zSaload (m := 1) (k := 0) vr_87_72 rfl rfl rfl ?_
                  refine zScall vr_87_73 rfl rfl rfl (fun m1668 _ => C_mh _ _ _ hS2) (fun v1668 h1668 u1668 q1668 => ?_) (fun E1668 h1668 u1668 q1668 => ?_)
                  · obtain ⟨eh1668, z1668⟩ := q1668
                    replace eh1668 := eh1668.symm
                    subst eh1668
                    cases z1668
                    show zL zrx zi _ 87 76 [(0, _), (1, _), (2, _), (3, _), (4, _), (5, _)] [_] _ _ _
                    refine zLiret vr_87_76 rfl (fun x1669 e1669 => ?_)
                    cases e1669
                    exact ⟨⟨⟨r1, r2⟩, r3, r4, r5⟩, al, af, at_, _, rfl, by unfold hdF; rw [w1662]; rfl⟩
                  · obtain ⟨-, z⟩ := q1668
                    cases z
                · rw [w1662] at q1662
                  cases (show (some (33) : Option Int) = some o1662 from q1662)
                  show zL zrx zi _ 87 77 _ _ _ _ _
                  refine zSaload (m := 1) (k := 0) vr_87_77 rfl rfl rfl ?_
                  refine zScall vr_87_78 rfl rfl rfl (fun m1671 _ => C_mh _ _ _ hS2) (fun v1671 h1671 u1671 q1671 => ?_) (fun E1671 h1671 u1671 q1671 => ?_)
                  · obtain ⟨eh1671, z1671⟩ := q1671
                    replace eh1671 := eh1671.symm
                    subst eh1671
                    cases z1671
                    show zL zrx zi _ 87 81 [(0, _), (1, _), (2, _), (3, _), (4, _), (5, _)] [_] _ _ _
                    refine zSp0 (pc' := 82) (st' := .int (-1) :: _) vr_87_81 rfl rfl ?_
                    refine zSb2 (f := fun x y => decide (¬ x = y)) (off := 7) (t := 89) vr_87_82 rfl rfl rfl (fun x1673 y1673 e1673 f1673 q1673 => ?_) (fun x1673 y1673 e1673 f1673 q1673 => ?_)
                    · cases e1673
                      cases f1673
                      have c1673 := of_decide_eq_true q1673
                      refine zSaload (m := 1) (k := 0) vr_87_89 rfl rfl rfl ?_
                      refine zSaload (m := 1) (k := 0) vr_87_90 rfl rfl rfl ?_
                      refine zScall vr_87_91 rfl rfl rfl (fun m1676 _ => C_mh _ _ _ hS2) (fun v1676 h1676 u1676 q1676 => ?_) (fun E1676 h1676 u1676 q1676 => ?_)
                      · obtain ⟨eh1676, z1676⟩ := q1676
                        replace eh1676 := eh1676.symm
                        subst eh1676
                        cases z1676
                        show zL zrx zi _ 87 94 [(0, _), (1, _), (2, _), (3, _), (4, _), (5, _)] [_, _] _ _ _
                        refine zScall vr_87_94 rfl rfl rfl (fun m1677 _ => C_pw _ _ _ _ hS2) (fun v1677 h1677 u1677 q1677 => ?_) (fun E1677 h1677 u1677 q1677 => ?_)
                        · obtain ⟨eh1677, z1677⟩ := q1677
                          replace eh1677 := eh1677.symm
                          subst eh1677
                          cases z1677
                          show zL zrx zi _ 87 97 [(0, _), (1, _), (2, _), (3, _), (4, _), (5, _)] [_] _ _ _
                          refine zLiret vr_87_97 rfl (fun x1678 e1678 => ?_)
                          cases e1678
                          first
                            | exact ⟨⟨⟨r1, r2⟩, r3, r4, r5⟩, al, af, at_, _, rfl, by unfold hdF; rw [w1662, if_neg (by decide), if_pos rfl, if_pos (Decidable.not_not.mp c1673)]⟩
                            | exact ⟨⟨⟨r1, r2⟩, r3, r4, r5⟩, al, af, at_, _, rfl, by unfold hdF; rw [w1662, if_neg (by decide), if_pos rfl, if_neg c1673]⟩
                        · obtain ⟨-, z⟩ := q1677
                          cases z
                      · obtain ⟨-, z⟩ := q1676
                        cases z
                    · cases e1673
                      cases f1673
                      have c1673 := ndc q1673
                      refine zSp0 (pc' := 86) (st' := .int (0) :: _) vr_87_85 rfl rfl ?_
                      refine zSgo (t := 97) vr_87_86 rfl rfl ?_
                      refine zLiret vr_87_97 rfl (fun x1681 e1681 => ?_)
                      cases e1681
                      first
                        | exact ⟨⟨⟨r1, r2⟩, r3, r4, r5⟩, al, af, at_, _, rfl, by unfold hdF; rw [w1662, if_neg (by decide), if_pos rfl, if_pos (Decidable.not_not.mp c1673)]⟩
                        | exact ⟨⟨⟨r1, r2⟩, r3, r4, r5⟩, al, af, at_, _, rfl, by unfold hdF; rw [w1662, if_neg (by decide), if_pos rfl, if_neg c1673]⟩
                  · obtain ⟨-, z⟩ := q1671
                    cases z
                · rw [w1662] at q1662
                  cases (show (some (54) : Option Int) = some o1662 from q1662)
                  show zL zrx zi _ 87 98 _ _ _ _ _
                  refine zSaload (m := 1) (k := 0) vr_87_98 rfl rfl rfl ?_
                  refine zSp0 (pc' := 101) (st' := .int (-2) :: _) vr_87_99 rfl rfl ?_
                  refine zScall vr_87_101 rfl rfl rfl (fun m1684 _ => C_pw _ _ _ _ hS2) (fun v1684 h1684 u1684 q1684 => ?_) (fun E1684 h1684 u1684 q1684 => ?_)
                  · obtain ⟨eh1684, z1684⟩ := q1684
                    replace eh1684 := eh1684.symm
                    subst eh1684
                    cases z1684
                    show zL zrx zi _ 87 104 [(0, _), (1, _), (2, _), (3, _), (4, _), (5, _)] [_] _ _ _
                    refine zLiret vr_87_104 rfl (fun x1685 e1685 => ?_)
                    cases e1685
                    exact ⟨⟨⟨r1, r2⟩, r3, r4, r5⟩, al, af, at_, _, rfl, by unfold hdF; rw [w1662]; rfl⟩
                  · obtain ⟨-, z⟩ := q1684
                    cases z
            · obtain ⟨z, -⟩ := q1660
              cases z
          · obtain ⟨rfl, q1, q2⟩ := q1654
            rw [zCat_no vh_87_30_1]
            exact ⟨q2, Or.inr ⟨rfl, ⟨r1, r2⟩, fun z => q1 z.2.2⟩⟩
        · obtain ⟨rfl, q1, q2⟩ := q1650
          rw [zCat_no vh_87_23_1]
          exact ⟨q2, Or.inr ⟨rfl, ⟨r1, r2⟩, fun z => q1 z.2.1⟩⟩
      · obtain ⟨rfl, q1, q2⟩ := q1646
        rw [zCat_no vh_87_14_1]
        exact ⟨q2, Or.inr ⟨rfl, ⟨r1, r2⟩, fun z => q1 z.1⟩⟩
    · obtain ⟨rfl, q1, q2⟩ := q1642
      rw [zCat_no vh_87_7_0]
      exact ⟨q2, Or.inl ⟨rfl, fun z => q1 z.2⟩⟩
  · obtain ⟨rfl, q1, q2⟩ := q1639
    rw [zCat_no vh_87_2_0]
    exact ⟨q2, Or.inl ⟨rfl, fun z => q1 z.1⟩⟩
abbrev Q_Lheld (cnt d : Int32) (m r f a y : Int32) (h : List zC) : zK := fun o h2 _ => ∃ k : Int32, o = .inl (some (.int k)) ∧
  ((k = 0 ∧ okH m r f a y ∧ ∃ h1, h1.length = h.length ∧ (∀ x k, ¬ x = 186 → ¬ x = 26 → gF h1 x k = gF h x k) ∧ (∀ i, i < 6 → gF h1 26 i = some (.int (tCu h cnt m r f a d i))) ∧ hPut h1 h2 238 0 (.long (hdF (iv h1 26) (iv h1 17) y).toInt64)) ∨ (k = 1 ∧ ¬ (iN 4 m ∧ iN 4 r) ∧ hExt h h2) ∨ (k = 2 ∧ (iN 4 m ∧ iN 4 r) ∧ ¬ (rI 0 63 f ∧ rI 0 999 a ∧ rI 0 3 y) ∧ hExt h h2))
theorem C_Lheld (n : Nat) (m r f a y : Int32) (h : List zC) (u : Nat) {cnt d : Int32} (hS : Stc h) (hc : gF h 28 2 = some (.int cnt)) (h0 : 0 ≤ cnt.toInt) (h40 : cnt.toInt ≤ 40) (hd : gF h 16 0 = some (.int d)) : zL zrx zi n 237 0 [(0, .ref 16), (1, .int m), (2, .int r), (3, .int f), (4, .int a), (5, .int y), (6, .ref 238)] [] h u (Q_Lheld cnt d m r f a y h) := by
  refine zSaload (m := 2) (k := 6) vr_237_0 rfl rfl rfl ?_
  refine zSaload (m := 1) (k := 0) vr_237_2 rfl rfl rfl ?_
  refine zSiload (m := 1) (k := 1) vr_237_3 rfl rfl rfl (fun x1688 e1688 => ?_)
  cases e1688
  refine zSiload (m := 1) (k := 2) vr_237_4 rfl rfl rfl (fun x1689 e1689 => ?_)
  cases e1689
  refine zSiload (m := 1) (k := 3) vr_237_5 rfl rfl rfl (fun x1690 e1690 => ?_)
  cases e1690
  refine zSiload (m := 2) (k := 4) vr_237_6 rfl rfl rfl (fun x1691 e1691 => ?_)
  cases e1691
  refine zSiload (m := 2) (k := 5) vr_237_8 rfl rfl rfl (fun x1692 e1692 => ?_)
  cases e1692
  refine zScall vr_237_10 rfl rfl rfl (fun m1693 _ => C_held _ _ _ _ _ _ _ _ hS hc h0 h40 hd) (fun v1693 h1693 u1693 q1693 => ?_) (fun E1693 h1693 u1693 q1693 => ?_)
  · obtain ⟨k1, k2, k3, k4, z1693, rfl, rfl⟩ := q1693
    show zL zrx zi _ 237 13 [(0, _), (1, _), (2, _), (3, _), (4, _), (5, _), (6, _)] [_, _] _ _ _
    refine zS1 (f := fun x => .long x.toInt64) vr_237_13 rfl rfl (fun x1694 e1694 => ?_)
    cases e1694
    refine zLput vr_237_14 rfl (fun p1695 k1695 e1695 t1695 g1695 => ?_)
    cases e1695
    have gP := g1695
    refine zSgo (t := 28) vr_237_17 rfl rfl ?_
    refine zSp0 (pc' := 29) (st' := .int (0) :: _) vr_237_28 rfl rfl ?_
    refine zLiret vr_237_29 rfl (fun x1698 e1698 => ?_)
    cases e1698
    exact ⟨_, rfl, Or.inl ⟨rfl, k1, _, k2, k3, k4, gP⟩⟩
  · obtain ⟨q1, ⟨rfl, z⟩ | ⟨rfl, z⟩⟩ := q1693
    · rw [zCat_hit (k := 7) (m := 2) vh_237_10_0 vr_237_20 rfl (by decide)]
      show zL zrx zi _ 237 22 [(0, _), (1, _), (2, _), (3, _), (4, _), (5, _), (6, _)] [] _ _ _
      refine zSp0 (pc' := 23) (st' := .int (1) :: _) vr_237_22 rfl rfl ?_
      refine zLiret vr_237_23 rfl (fun x1700 e1700 => ?_)
      cases e1700
      exact ⟨_, rfl, Or.inr (Or.inl ⟨rfl, z, q1⟩)⟩
    · rw [zCat_hit (k := 7) (m := 2) vh_237_10_1 vr_237_24 rfl (by decide)]
      show zL zrx zi _ 237 26 [(0, _), (1, _), (2, _), (3, _), (4, _), (5, _), (6, _)] [] _ _ _
      refine zSp0 (pc' := 27) (st' := .int (2) :: _) vr_237_26 rfl rfl ?_
      refine zLiret vr_237_27 rfl (fun x1702 e1702 => ?_)
      cases e1702
      exact ⟨_, rfl, Or.inr (Or.inr ⟨rfl, z.1, z.2, q1⟩)⟩
set_option maxRecDepth 20000 in
theorem C_hnL {cnt m r f a d y : Int32} {el A : Nat} {h : List zC} {K : zK} (hS : Stc h) (hs : gF h 223 2 = some (.int cnt)) (hL : gF h 223 1 = some (.ref el)) (h0 : 0 ≤ cnt.toInt) (h40 : cnt.toInt ≤ 40) (hd : gF h 213 1 = some (.int d)) (hel : el < h.length) (hq : ∀ k, k < cnt.toNatClampNeg → ∃ x : Nat, gF h el k = some (.ref x) ∧ RI h x ∧ ∃ a b c : Int32, gF h x 3 = some (.int a) ∧ gF h x 4 = some (.int b) ∧ gF h x 6 = some (.int c) ∧ rI 0 63 a ∧ rI 0 63 b) (HB : ∀ n g u, h.length ≤ A → A < g.length → (∀ x i, x < h.length → gF g x i = gF h x i) → (∀ x, x < h.length → gT g x = gT h x ∧ gN g x = gN h x) → gN g A = some 104 → (∀ i, i < 104 → gF g A i = some (.int ((byc (tMu h el cnt m r f a d) (iv h 214)) 6 i))) → zL zrx zi n 195 63 [(7, .int (Int32.ofNat 6)), (6, .ref A), (0, .ref 213), (1, .int m), (2, .int r), (3, .int f), (4, .int a), (5, .int y)] [] g u K) : ∀ (n k : Nat) (g : List zC) (u : Nat), k ≤ 6 → h.length ≤ A → A < g.length → (∀ x i, x < h.length → gF g x i = gF h x i) → (∀ x, x < h.length → gT g x = gT h x ∧ gN g x = gN h x) → gN g A = some 104 → (∀ i, i < 104 → gF g A i = some (.int ((byc (tMu h el cnt m r f a d) (iv h 214)) k i))) → zL zrx zi n 195 9 [(7, .int (Int32.ofNat k)), (6, .ref A), (0, .ref 213), (1, .int m), (2, .int r), (3, .int f), (4, .int a), (5, .int y)] [] g u K
  | 0, _, _, _, _, _, _, _, _, _, _ => trivial
  | n + 1, k, g, u, hk, hA, hA2, fr, ft, hn, hi => by
    have kk := (toNat_ofNat (m := k) (by omega))
    have z6 : (6 : Int32).toInt = 6 := rfl
    have hh := hS.1
    refine zLp vr_195_9 rfl rfl ?_
    refine zSp0 (pc' := 13) (st' := .int (6) :: _) vr_195_11 rfl rfl ?_
    refine zSb2 (f := fun x y => decide (y ≤ x)) (off := 50) (t := 63) vr_195_13 rfl rfl rfl (fun x1704 y1704 e1704 f1704 q1704 => ?_) (fun x1704 y1704 e1704 f1704 q1704 => ?_)
    · cases e1704
      cases f1704
      have c1704 := of_decide_eq_true q1704
      have y := c1704
      rw [i32_le, kk.2, z6] at y
      have e : k = 6 := by omega
      subst e
      exact HB _ _ _ hA hA2 fr ft hn hi
    · cases e1704
      cases f1704
      have c1704 := ndc q1704
      refine zSaload (m := 2) (k := 6) vr_195_16 rfl rfl rfl ?_
      refine zSp0 (pc' := 19) (st' := .int (3) :: _) vr_195_18 rfl rfl ?_
      refine zSaload (m := 1) (k := 0) vr_195_19 rfl rfl rfl ?_
      refine zSiload (m := 2) (k := 7) vr_195_20 rfl rfl rfl (fun x1708 e1708 => ?_)
      cases e1708
      refine zLnew2 vr_195_22 rfl (fun k1709 u1709 g1709 => ?_)
      have f1 : ∀ x i, x < h.length → gF k1709 x i = gF h x i := fun x i hx => by rw [g1709.ext.fld (by omega)]; exact fr x i hx
      have hd1 := (f1 213 1 (by omega)).trans hd
      refine zSdup vr_195_25 rfl ?_
      refine zSiload (m := 2) (k := 7) vr_195_26 rfl rfl rfl (fun x1711 e1711 => ?_)
      cases e1711
      refine zSiload (m := 2) (k := 7) vr_195_28 rfl rfl rfl (fun x1712 e1712 => ?_)
      cases e1712
      refine zSiload (m := 1) (k := 2) vr_195_30 rfl rfl rfl (fun x1713 e1713 => ?_)
      cases e1713
      refine zSiload (m := 1) (k := 1) vr_195_31 rfl rfl rfl (fun x1714 e1714 => ?_)
      cases e1714
      refine zSiload (m := 1) (k := 3) vr_195_32 rfl rfl rfl (fun x1715 e1715 => ?_)
      cases e1715
      refine zSiload (m := 2) (k := 4) vr_195_33 rfl rfl rfl (fun x1716 e1716 => ?_)
      cases e1716
      refine zSaload (m := 1) (k := 0) vr_195_35 rfl rfl rfl ?_
      refine zLget vr_195_36 rfl (fun p1718 w1718 e1718 t1718 g1718 => ?_)
      cases e1718
      first | (rw [hd1] at g1718; cases g1718) | skip
      refine zScall vr_195_39 rfl rfl rfl (fun m1719 _ => C_icase _ _ _ _ _ _ _ _ _ _ _) (fun v1719 h1719 u1719 q1719 => ?_) (fun E1719 h1719 u1719 q1719 => ?_)
      · have z1719 := q1719.1
        cases z1719
        show zL zrx zi _ 195 42 [(7, _), (6, _), (0, _), (1, _), (2, _), (3, _), (4, _), (5, _)] [_, _, _, _, _] _ _ _
        have im := q1719.2
        have f2 : ∀ x i, x < h.length → gF h1719 x i = gF h x i := fun x i hx => by rw [im.1 x i (by omega)]; exact f1 x i hx
        have hSi : Stc h1719 := by
          refine ⟨by rw [im.2.2.1, g1709.len]; omega, fun e he => ?_⟩
          rw [f2 _ _ (gF_lt (hS.2 e he))]
          exact hS.2 e he
        have hsi := (f2 223 2 (by omega)).trans hs
        have hLi := (f2 223 1 (by omega)).trans hL
        have hqi : ∀ k, k < cnt.toNatClampNeg → ∃ x : Nat, gF h1719 el k = some (.ref x) ∧ RI h1719 x ∧ ∃ a b c : Int32, gF h1719 x 3 = some (.int a) ∧ gF h1719 x 4 = some (.int b) ∧ gF h1719 x 6 = some (.int c) ∧ rI 0 63 a ∧ rI 0 63 b := fun k hk => by
          obtain ⟨x, x1, ri, a, b, c, a1, b1, c1, ra, rb⟩ := hq k hk
          exact ⟨x, (f2 el k hel).trans x1, ri.same (fun j _ => f2 x j ri.lt), a, b, c, (f2 x 3 (gF_lt a1)).trans a1, (f2 x 4 (gF_lt a1)).trans b1, (f2 x 6 (gF_lt a1)).trans c1, ra, rb⟩
        obtain ⟨i0, i1, i2, i3, i4, i5, i6, -, -⟩ := im.2.1
        have ci : CI h1719 g.length := fun j hj => by
          have w : j = 0 ∨ j = 1 ∨ j = 2 ∨ j = 3 ∨ j = 4 ∨ j = 5 ∨ j = 6 := by omega
          rcases w with rfl | rfl | rfl | rfl | rfl | rfl | rfl
          · exact ⟨_, i0⟩
          · exact ⟨_, i1⟩
          · exact ⟨_, i2⟩
          · exact ⟨_, i3⟩
          · exact ⟨_, i4⟩
          · exact ⟨_, i5⟩
          · exact ⟨_, i6⟩
        refine zScall vr_195_42 rfl rfl rfl (fun m1720 _ => C_custom _ _ _ _ _ hSi hsi hLi h0 h40 hqi ci) (fun v1720 h1720 u1720 q1720 => ?_) (fun E1720 h1720 u1720 q1720 => ?_)
        · obtain ⟨eh1720, z1720⟩ := q1720
          replace eh1720 := eh1720.symm
          subst eh1720
          cases z1720
          show zL zrx zi _ 195 45 [(7, _), (6, _), (0, _), (1, _), (2, _), (3, _), (4, _), (5, _)] [_, _, _] _ _ _
          have tk : (cuM (dM h1719 el (Int32.ofNat k) (iv h1719 g.length 3) (iv h1719 g.length 2) (iv h1719 g.length 4) (iv h1719 g.length 5) (iv h1719 g.length 6)) cnt.toNatClampNeg).1 = tMu h el cnt m r f a d k := by
            rw [iv_of i2, iv_of i3, iv_of i4, iv_of i5, iv_of i6]
            unfold tMu
            rw [cu_same (n := cnt.toNatClampNeg) (fun x hx => by
              obtain ⟨v, v1, -, a, b, c, a1, -⟩ := hq x hx
              refine dM_same (f2 el x hel) (fun z => ?_)
              rw [rf_of v1]
              exact f2 v z (gF_lt a1)) _ (Nat.le_refl _)]
          rw [tk]
          refine zS2 (f := fun x y => .int (x + y)) vr_195_45 rfl rfl (fun x1721 y1721 e1721 f1721 => ?_)
          cases e1721
          cases f1721
          refine zSdup2 vr_195_46 rfl ?_
          refine zLiald vr_195_47 rfl (fun p1723 x1723 w1723 e1723 f1723 c1723 t1723 g1723 => ?_)
          cases e1723
          cases f1723
          first | (rw [(st_213_4 hSi)] at g1723; cases g1723) | skip
          refine zSaload (m := 1) (k := 0) vr_195_48 rfl rfl rfl ?_
          refine zLget vr_195_49 rfl (fun p1725 w1725 e1725 t1725 g1725 => ?_)
          cases e1725
          first | (rw [(st_213_4 hSi)] at g1725; cases g1725) | skip
          refine zSiload (m := 2) (k := 7) vr_195_52 rfl rfl rfl (fun x1726 e1726 => ?_)
          cases e1726
          refine zLiald vr_195_54 rfl (fun p1727 x1727 w1727 e1727 f1727 c1727 t1727 g1727 => ?_)
          cases e1727
          cases f1727
          first | (rw [(st_213_4 hSi)] at g1727; cases g1727) | skip
          refine zS2 (f := fun x y => .int (x + y)) vr_195_55 rfl rfl (fun x1728 y1728 e1728 f1728 => ?_)
          cases e1728
          cases f1728
          refine zLiast vr_195_56 rfl (fun p1729 x1729 z1729 k1729 e1729 f1729 d1729 c1729 t1729 g1729 => ?_)
          cases e1729
          cases f1729
          cases d1729
          refine zSiinc vr_195_57 rfl rfl (fun x1730 e1730 => ?_)
          cases e1730
          show zL zrx zi _ 195 60 [(7, _), (6, _), (0, _), (1, _), (2, _), (3, _), (4, _), (5, _)] [] _ _ _
          refine zSgo (t := 9) vr_195_60 rfl rfl ?_
          have g0 := g1729
          have nA : gN h1719 A = some 104 := by rw [(im.2.2.2 A).2, (g1709.ext.T hA2).2]; exact hn
          have ix := gF_len g1723 nA
          have rA : ∀ i, gF h1719 A i = gF g A i := fun i => by rw [im.1 A i (by omega), g1709.ext.fld hA2]
          have e7 := g1723
          rw [rA, hi _ ix] at e7
          cases e7
          have e8 := g1727
          rw [f2 214 _ (by omega), kk.1] at e8
          have e9 := iv_of e8
          rw [ofNat_succ]
          refine zL_pm _ _ _ [(7, _), (6, _), (0, _), (1, _), (2, _), (3, _), (4, _), (5, _)] _ _ _ _ _ ⟨(List.forall_mem_cons.mpr ⟨List.mem_cons_self, (List.forall_mem_cons.mpr ⟨(List.mem_cons_of_mem _ List.mem_cons_self), (List.forall_mem_cons.mpr ⟨(List.mem_cons_of_mem _ (List.mem_cons_of_mem _ List.mem_cons_self)), (List.forall_mem_cons.mpr ⟨(List.mem_cons_of_mem _ (List.mem_cons_of_mem _ (List.mem_cons_of_mem _ List.mem_cons_self))), (List.forall_mem_cons.mpr ⟨(List.mem_cons_of_mem _ (List.mem_cons_of_mem _ (List.mem_cons_of_mem _ (List.mem_cons_of_mem _ List.mem_cons_self)))), (List.forall_mem_cons.mpr ⟨(List.mem_cons_of_mem _ (List.mem_cons_of_mem _ (List.mem_cons_of_mem _ (List.mem_cons_of_mem _ (List.mem_cons_of_mem _ List.mem_cons_self))))), (List.forall_mem_cons.mpr ⟨(List.mem_cons_of_mem _ (List.mem_cons_of_mem _ (List.mem_cons_of_mem _ (List.mem_cons_of_mem _ (List.mem_cons_of_mem _ (List.mem_cons_of_mem _ List.mem_cons_self)))))), (List.forall_mem_cons.mpr ⟨(List.mem_cons_of_mem _ (List.mem_cons_of_mem _ (List.mem_cons_of_mem _ (List.mem_cons_of_mem _ (List.mem_cons_of_mem _ (List.mem_cons_of_mem _ (List.mem_cons_of_mem _ List.mem_cons_self))))))), (fun _ h => absurd h List.not_mem_nil)⟩)⟩)⟩)⟩)⟩)⟩)⟩)⟩), show ([7, 6, 0, 1, 2, 3, 4, 5] : List Nat).Nodup by decide⟩ (C_hnL hS hs hL h0 h40 hd hel hq HB n (k + 1) _ _ (by have y := c1704; rw [i32_le, kk.2, z6] at y; omega) hA (by rw [g0.1, im.2.2.1, g1709.len]; omega) (fun x i hx => by rw [g0.2.1, if_neg (by omega)]; exact f2 x i hx) (fun x hx => by rw [g0.2.2.1, g0.2.2.2, (im.2.2.2 x).1, (im.2.2.2 x).2, (g1709.ext.T (by omega)).1, (g1709.ext.T (by omega)).2]; exact ft x hx) (by rw [g0.2.2.2]; exact nA) (fun i hi2 => ?_))
          rw [g0.2.1]
          by_cases z : (3 + tMu h el cnt m r f a d k).toNatClampNeg = i
          · rw [if_pos ⟨rfl, z.symm⟩, byc_y z, e9]
            subst z
            rfl
          · rw [if_neg (fun w => z w.2.symm), byc_n z, rA]
            exact hi i hi2
        · obtain ⟨-, z⟩ := q1720
          cases z
      · cases q1719.1
set_option maxRecDepth 20000 in
theorem C_hnS {m r f a y : Int32} {A : Nat} {g : List zC} {c : Nat → Int32} (hn : gN g A = some 104) (hi : ∀ i, i < 104 → gF g A i = some (.int (c i))) (hy : rI 0 3 y) (hlo : y.toInt < 2) : ∀ (n k : Nat) (b : Int32) (u : Nat), k ≤ 101 → bsF c k = b → zL zrx zi n 195 90 [(8, .int (Int32.ofNat k)), (7, .int b), (6, .ref A), (0, .ref 213), (1, .int m), (2, .int r), (3, .int f), (4, .int a), (5, .int y)] [] g u (fun o h2 _ => h2 = g ∧ o = .inl (some (.int (hnF c y))))
  | 0, _, _, _, _, _ => trivial
  | n + 1, k, b, u, hk, hD => by
    have kk := (toNat_ofNat (m := k) (by omega))
    have z100 : (100 : Int32).toInt = 100 := rfl
    have z0 : (0 : Int32).toInt = 0 := rfl
    have z3 : (3 : Int32).toInt = 3 := rfl
    refine zLp vr_195_90 rfl rfl ?_
    refine zSp0 (pc' := 94) (st' := .int (100) :: _) vr_195_92 rfl rfl ?_
    refine zSb2 (f := fun x y => decide (y < x)) (off := 40) (t := 134) vr_195_94 rfl rfl rfl (fun x1733 y1733 e1733 f1733 q1733 => ?_) (fun x1733 y1733 e1733 f1733 q1733 => ?_)
    · cases e1733
      cases f1733
      have c1733 := of_decide_eq_true q1733
      refine zSiload (m := 2) (k := 5) vr_195_134 rfl rfl rfl (fun x1734 e1734 => ?_)
      cases e1734
      refine zSb1 (f := fun x => decide (¬ x = 0)) (off := 8) (t := 144) vr_195_136 rfl rfl rfl (fun x1735 e1735 q1735 => ?_) (fun x1735 e1735 q1735 => ?_)
      · cases e1735
        have c1735 := of_decide_eq_true q1735
        refine zSiload (m := 2) (k := 7) vr_195_144 rfl rfl rfl (fun x1736 e1736 => ?_)
        cases e1736
        refine zSp0 (pc' := 147) (st' := .int (-1) :: _) vr_195_146 rfl rfl ?_
        refine zSb2 (f := fun x y => decide (¬ x = y)) (off := 7) (t := 154) vr_195_147 rfl rfl rfl (fun x1738 y1738 e1738 f1738 q1738 => ?_) (fun x1738 y1738 e1738 f1738 q1738 => ?_)
        · cases e1738
          cases f1738
          have c1738 := of_decide_eq_true q1738
          refine zSaload (m := 2) (k := 6) vr_195_154 rfl rfl rfl ?_
          refine zSp0 (pc' := 157) (st' := .int (3) :: _) vr_195_156 rfl rfl ?_
          refine zSiload (m := 2) (k := 7) vr_195_157 rfl rfl rfl (fun x1741 e1741 => ?_)
          cases e1741
          refine zS2 (f := fun x y => .int (x + y)) vr_195_159 rfl rfl (fun x1742 y1742 e1742 f1742 => ?_)
          cases e1742
          cases f1742
          refine zLiald vr_195_160 rfl (fun p1743 x1743 w1743 e1743 f1743 c1743 t1743 g1743 => ?_)
          cases e1743
          cases f1743
          refine zLiret vr_195_161 rfl (fun x1744 e1744 => ?_)
          cases e1744
          have k101 : k = 101 := by
            have y := c1733
            rw [i32_lt, kk.2, z100] at y
            omega
          subst k101
          first
            | (have y0 : y.toInt = 0 := by
                 have w := Decidable.not_not.mp c1735
                 rw [w]
                 rfl
               refine ⟨rfl, ?_⟩
               unfold hnF
               rw [if_pos y0, hD])
            | (have y1 : y.toInt = 1 := by
                 obtain ⟨w1, w2⟩ := hy
                 have w : ¬ y.toInt = 0 := fun z => c1735 (Int32.toInt_inj.mp z)
                 omega
               refine ⟨rfl, ?_⟩
               unfold hnF
               rw [if_neg (by omega), if_pos y1, hD, if_pos (Decidable.not_not.mp c1738)])
            | (have y1 : y.toInt = 1 := by
                 obtain ⟨w1, w2⟩ := hy
                 have w : ¬ y.toInt = 0 := fun z => c1735 (Int32.toInt_inj.mp z)
                 omega
               have e2 := g1743
               rw [hi _ (gF_len g1743 hn)] at e2
               cases e2
               refine ⟨rfl, ?_⟩
               unfold hnF
               rw [if_neg (by omega), if_pos y1, hD, if_neg c1738])
        · cases e1738
          cases f1738
          have c1738 := ndc q1738
          refine zSp0 (pc' := 151) (st' := .int (0) :: _) vr_195_150 rfl rfl ?_
          refine zSgo (t := 161) vr_195_151 rfl rfl ?_
          refine zLiret vr_195_161 rfl (fun x1747 e1747 => ?_)
          cases e1747
          have k101 : k = 101 := by
            have y := c1733
            rw [i32_lt, kk.2, z100] at y
            omega
          subst k101
          first
            | (have y0 : y.toInt = 0 := by
                 have w := Decidable.not_not.mp c1735
                 rw [w]
                 rfl
               refine ⟨rfl, ?_⟩
               unfold hnF
               rw [if_pos y0, hD])
            | (have y1 : y.toInt = 1 := by
                 obtain ⟨w1, w2⟩ := hy
                 have w : ¬ y.toInt = 0 := fun z => c1735 (Int32.toInt_inj.mp z)
                 omega
               refine ⟨rfl, ?_⟩
               unfold hnF
               rw [if_neg (by omega), if_pos y1, hD, if_pos (Decidable.not_not.mp c1738)])
            | (have y1 : y.toInt = 1 := by
                 obtain ⟨w1, w2⟩ := hy
                 have w : ¬ y.toInt = 0 := fun z => c1735 (Int32.toInt_inj.mp z)
                 omega
               have e2 := g1743
               rw [hi _ (gF_len g1743 hn)] at e2
               cases e2
               refine ⟨rfl, ?_⟩
               unfold hnF
               rw [if_neg (by omega), if_pos y1, hD, if_neg c1738])
      · cases e1735
        have c1735 := ndc q1735
        refine zSiload (m := 2) (k := 7) vr_195_139 rfl rfl rfl (fun x1748 e1748 => ?_)
        cases e1748
        refine zSgo (t := 161) vr_195_141 rfl rfl ?_
        refine zLiret vr_195_161 rfl (fun x1750 e1750 => ?_)
        cases e1750
        have k101 : k = 101 := by
          have y := c1733
          rw [i32_lt, kk.2, z100] at y
          omega
        subst k101
        first
          | (have y0 : y.toInt = 0 := by
               have w := Decidable.not_not.mp c1735
               rw [w]
               rfl
             refine ⟨rfl, ?_⟩
             unfold hnF
             rw [if_pos y0, hD])
          | (have y1 : y.toInt = 1 := by
               obtain ⟨w1, w2⟩ := hy
               have w : ¬ y.toInt = 0 := fun z => c1735 (Int32.toInt_inj.mp z)
               omega
             refine ⟨rfl, ?_⟩
             unfold hnF
             rw [if_neg (by omega), if_pos y1, hD, if_pos (Decidable.not_not.mp c1738)])
          | (have y1 : y.toInt = 1 := by
               obtain ⟨w1, w2⟩ := hy
               have w : ¬ y.toInt = 0 := fun z => c1735 (Int32.toInt_inj.mp z)
               omega
             have e2 := g1743
             rw [hi _ (gF_len g1743 hn)] at e2
             cases e2
             refine ⟨rfl, ?_⟩
             unfold hnF
             rw [if_neg (by omega), if_pos y1, hD, if_neg c1738])
    · cases e1733
      cases f1733
      have c1733 := ndc q1733
      refine zSaload (m := 2) (k := 6) vr_195_97 rfl rfl rfl ?_
      refine zSp0 (pc' := 100) (st' := .int (3) :: _) vr_195_99 rfl rfl ?_
      refine zSiload (m := 2) (k := 8) vr_195_100 rfl rfl rfl (fun x1753 e1753 => ?_)
      cases e1753
      refine zS2 (f := fun x y => .int (x + y)) vr_195_102 rfl rfl (fun x1754 y1754 e1754 f1754 => ?_)
      cases e1754
      cases f1754
      refine zLiald vr_195_103 rfl (fun p1755 x1755 w1755 e1755 f1755 c1755 t1755 g1755 => ?_)
      cases e1755
      cases f1755
      have e1 := g1755
      rw [hi _ (gF_len g1755 hn)] at e1
      refine zSiload (m := 2) (k := 7) vr_195_104 rfl rfl rfl (fun x1756 e1756 => ?_)
      cases e1756
      refine zSp0 (pc' := 107) (st' := .int (-1) :: _) vr_195_106 rfl rfl ?_
      refine zSb2 (f := fun x y => decide (¬ x = y)) (off := 7) (t := 114) vr_195_107 rfl rfl rfl (fun x1758 y1758 e1758 f1758 q1758 => ?_) (fun x1758 y1758 e1758 f1758 q1758 => ?_)
      · cases e1758
        cases f1758
        have c1758 := of_decide_eq_true q1758
        refine zSaload (m := 2) (k := 6) vr_195_114 rfl rfl rfl ?_
        refine zSp0 (pc' := 117) (st' := .int (3) :: _) vr_195_116 rfl rfl ?_
        refine zSiload (m := 2) (k := 7) vr_195_117 rfl rfl rfl (fun x1761 e1761 => ?_)
        cases e1761
        refine zS2 (f := fun x y => .int (x + y)) vr_195_119 rfl rfl (fun x1762 y1762 e1762 f1762 => ?_)
        cases e1762
        cases f1762
        refine zLiald vr_195_120 rfl (fun p1763 x1763 w1763 e1763 f1763 c1763 t1763 g1763 => ?_)
        cases e1763
        cases f1763
        refine zSb2 (f := fun x y => decide (x ≤ y)) (off := 7) (t := 128) vr_195_121 rfl rfl rfl (fun x1764 y1764 e1764 f1764 q1764 => ?_) (fun x1764 y1764 e1764 f1764 q1764 => ?_)
        · cases e1764
          cases f1764
          have c1764 := of_decide_eq_true q1764
          refine zSiinc vr_195_128 rfl rfl (fun x1765 e1765 => ?_)
          cases e1765
          show zL zrx zi _ 195 131 [(8, _), (7, _), (6, _), (0, _), (1, _), (2, _), (3, _), (4, _), (5, _)] [] _ _ _
          refine zSgo (t := 90) vr_195_131 rfl rfl ?_
          rw [ofNat_succ]
          refine zL_pm _ _ _ [(8, _), (7, _), (6, _), (0, _), (1, _), (2, _), (3, _), (4, _), (5, _)] _ _ _ _ _ ⟨(List.forall_mem_cons.mpr ⟨List.mem_cons_self, (List.forall_mem_cons.mpr ⟨(List.mem_cons_of_mem _ List.mem_cons_self), (List.forall_mem_cons.mpr ⟨(List.mem_cons_of_mem _ (List.mem_cons_of_mem _ List.mem_cons_self)), (List.forall_mem_cons.mpr ⟨(List.mem_cons_of_mem _ (List.mem_cons_of_mem _ (List.mem_cons_of_mem _ List.mem_cons_self))), (List.forall_mem_cons.mpr ⟨(List.mem_cons_of_mem _ (List.mem_cons_of_mem _ (List.mem_cons_of_mem _ (List.mem_cons_of_mem _ List.mem_cons_self)))), (List.forall_mem_cons.mpr ⟨(List.mem_cons_of_mem _ (List.mem_cons_of_mem _ (List.mem_cons_of_mem _ (List.mem_cons_of_mem _ (List.mem_cons_of_mem _ List.mem_cons_self))))), (List.forall_mem_cons.mpr ⟨(List.mem_cons_of_mem _ (List.mem_cons_of_mem _ (List.mem_cons_of_mem _ (List.mem_cons_of_mem _ (List.mem_cons_of_mem _ (List.mem_cons_of_mem _ List.mem_cons_self)))))), (List.forall_mem_cons.mpr ⟨(List.mem_cons_of_mem _ (List.mem_cons_of_mem _ (List.mem_cons_of_mem _ (List.mem_cons_of_mem _ (List.mem_cons_of_mem _ (List.mem_cons_of_mem _ (List.mem_cons_of_mem _ List.mem_cons_self))))))), (List.forall_mem_cons.mpr ⟨(List.mem_cons_of_mem _ (List.mem_cons_of_mem _ (List.mem_cons_of_mem _ (List.mem_cons_of_mem _ (List.mem_cons_of_mem _ (List.mem_cons_of_mem _ (List.mem_cons_of_mem _ (List.mem_cons_of_mem _ List.mem_cons_self)))))))), (fun _ h => absurd h List.not_mem_nil)⟩)⟩)⟩)⟩)⟩)⟩)⟩)⟩)⟩), show ([8, 7, 6, 0, 1, 2, 3, 4, 5] : List Nat).Nodup by decide⟩ (C_hnS hn hi hy hlo n (k + 1) _ _ (by have y := c1733; rw [i32_lt, kk.2, z100] at y; omega) ?_)
          cases e1
          first
            | exact (bsF_n (fun z => by rw [hD, if_pos (Decidable.not_not.mp c1758)] at z; exact absurd c1764 (Int32.not_le.mpr z))).trans hD
            | exact bsF_y (by rw [hD, if_pos (Decidable.not_not.mp c1758)]; exact Int32.not_le.mp c1764)
            | (have e2 := g1763
               rw [hi _ (gF_len g1763 hn)] at e2
               cases e2
               exact (bsF_n (fun z => by rw [hD, if_neg c1758] at z; exact absurd c1764 (Int32.not_le.mpr z))).trans hD)
            | (have e2 := g1763
               rw [hi _ (gF_len g1763 hn)] at e2
               cases e2
               exact bsF_y (by rw [hD, if_neg c1758]; exact Int32.not_le.mp c1764))
        · cases e1764
          cases f1764
          have c1764 := ndc q1764
          refine zSiload (m := 2) (k := 8) vr_195_124 rfl rfl rfl (fun x1767 e1767 => ?_)
          cases e1767
          refine zSistore (m := 2) (k := 7) vr_195_126 rfl rfl (fun x1768 e1768 => ?_)
          cases e1768
          show zL zrx zi _ 195 128 [(7, _), (8, _), (6, _), (0, _), (1, _), (2, _), (3, _), (4, _), (5, _)] [] _ _ _
          refine zSiinc vr_195_128 rfl rfl (fun x1769 e1769 => ?_)
          cases e1769
          show zL zrx zi _ 195 131 [(8, _), (7, _), (6, _), (0, _), (1, _), (2, _), (3, _), (4, _), (5, _)] [] _ _ _
          refine zSgo (t := 90) vr_195_131 rfl rfl ?_
          rw [ofNat_succ]
          refine zL_pm _ _ _ [(8, _), (7, _), (6, _), (0, _), (1, _), (2, _), (3, _), (4, _), (5, _)] _ _ _ _ _ ⟨(List.forall_mem_cons.mpr ⟨List.mem_cons_self, (List.forall_mem_cons.mpr ⟨(List.mem_cons_of_mem _ List.mem_cons_self), (List.forall_mem_cons.mpr ⟨(List.mem_cons_of_mem _ (List.mem_cons_of_mem _ List.mem_cons_self)), (List.forall_mem_cons.mpr ⟨(List.mem_cons_of_mem _ (List.mem_cons_of_mem _ (List.mem_cons_of_mem _ List.mem_cons_self))), (List.forall_mem_cons.mpr ⟨(List.mem_cons_of_mem _ (List.mem_cons_of_mem _ (List.mem_cons_of_mem _ (List.mem_cons_of_mem _ List.mem_cons_self)))), (List.forall_mem_cons.mpr ⟨(List.mem_cons_of_mem _ (List.mem_cons_of_mem _ (List.mem_cons_of_mem _ (List.mem_cons_of_mem _ (List.mem_cons_of_mem _ List.mem_cons_self))))), (List.forall_mem_cons.mpr ⟨(List.mem_cons_of_mem _ (List.mem_cons_of_mem _ (List.mem_cons_of_mem _ (List.mem_cons_of_mem _ (List.mem_cons_of_mem _ (List.mem_cons_of_mem _ List.mem_cons_self)))))), (List.forall_mem_cons.mpr ⟨(List.mem_cons_of_mem _ (List.mem_cons_of_mem _ (List.mem_cons_of_mem _ (List.mem_cons_of_mem _ (List.mem_cons_of_mem _ (List.mem_cons_of_mem _ (List.mem_cons_of_mem _ List.mem_cons_self))))))), (List.forall_mem_cons.mpr ⟨(List.mem_cons_of_mem _ (List.mem_cons_of_mem _ (List.mem_cons_of_mem _ (List.mem_cons_of_mem _ (List.mem_cons_of_mem _ (List.mem_cons_of_mem _ (List.mem_cons_of_mem _ (List.mem_cons_of_mem _ List.mem_cons_self)))))))), (fun _ h => absurd h List.not_mem_nil)⟩)⟩)⟩)⟩)⟩)⟩)⟩)⟩)⟩), show ([8, 7, 6, 0, 1, 2, 3, 4, 5] : List Nat).Nodup by decide⟩ (C_hnS hn hi hy hlo n (k + 1) _ _ (by have y := c1733; rw [i32_lt, kk.2, z100] at y; omega) ?_)
          cases e1
          first
            | exact (bsF_n (fun z => by rw [hD, if_pos (Decidable.not_not.mp c1758)] at z; exact absurd c1764 (Int32.not_le.mpr z))).trans hD
            | exact bsF_y (by rw [hD, if_pos (Decidable.not_not.mp c1758)]; exact Int32.not_le.mp c1764)
            | (have e2 := g1763
               rw [hi _ (gF_len g1763 hn)] at e2
               cases e2
               exact (bsF_n (fun z => by rw [hD, if_neg c1758] at z; exact absurd c1764 (Int32.not_le.mpr z))).trans hD)
            | (have e2 := g1763
               rw [hi _ (gF_len g1763 hn)] at e2
               cases e2
               exact bsF_y (by rw [hD, if_neg c1758]; exact Int32.not_le.mp c1764))
      · cases e1758
        cases f1758
        have c1758 := ndc q1758
        refine zSp0 (pc' := 111) (st' := .int (0) :: _) vr_195_110 rfl rfl ?_
        refine zSgo (t := 121) vr_195_111 rfl rfl ?_
        refine zSb2 (f := fun x y => decide (x ≤ y)) (off := 7) (t := 128) vr_195_121 rfl rfl rfl (fun x1773 y1773 e1773 f1773 q1773 => ?_) (fun x1773 y1773 e1773 f1773 q1773 => ?_)
        · cases e1773
          cases f1773
          have c1773 := of_decide_eq_true q1773
          refine zSiinc vr_195_128 rfl rfl (fun x1774 e1774 => ?_)
          cases e1774
          show zL zrx zi _ 195 131 [(8, _), (7, _), (6, _), (0, _), (1, _), (2, _), (3, _), (4, _), (5, _)] [] _ _ _
          refine zSgo (t := 90) vr_195_131 rfl rfl ?_
          rw [ofNat_succ]
          refine zL_pm _ _ _ [(8, _), (7, _), (6, _), (0, _), (1, _), (2, _), (3, _), (4, _), (5, _)] _ _ _ _ _ ⟨(List.forall_mem_cons.mpr ⟨List.mem_cons_self, (List.forall_mem_cons.mpr ⟨(List.mem_cons_of_mem _ List.mem_cons_self), (List.forall_mem_cons.mpr ⟨(List.mem_cons_of_mem _ (List.mem_cons_of_mem _ List.mem_cons_self)), (List.forall_mem_cons.mpr ⟨(List.mem_cons_of_mem _ (List.mem_cons_of_mem _ (List.mem_cons_of_mem _ List.mem_cons_self))), (List.forall_mem_cons.mpr ⟨(List.mem_cons_of_mem _ (List.mem_cons_of_mem _ (List.mem_cons_of_mem _ (List.mem_cons_of_mem _ List.mem_cons_self)))), (List.forall_mem_cons.mpr ⟨(List.mem_cons_of_mem _ (List.mem_cons_of_mem _ (List.mem_cons_of_mem _ (List.mem_cons_of_mem _ (List.mem_cons_of_mem _ List.mem_cons_self))))), (List.forall_mem_cons.mpr ⟨(List.mem_cons_of_mem _ (List.mem_cons_of_mem _ (List.mem_cons_of_mem _ (List.mem_cons_of_mem _ (List.mem_cons_of_mem _ (List.mem_cons_of_mem _ List.mem_cons_self)))))), (List.forall_mem_cons.mpr ⟨(List.mem_cons_of_mem _ (List.mem_cons_of_mem _ (List.mem_cons_of_mem _ (List.mem_cons_of_mem _ (List.mem_cons_of_mem _ (List.mem_cons_of_mem _ (List.mem_cons_of_mem _ List.mem_cons_self))))))), (List.forall_mem_cons.mpr ⟨(List.mem_cons_of_mem _ (List.mem_cons_of_mem _ (List.mem_cons_of_mem _ (List.mem_cons_of_mem _ (List.mem_cons_of_mem _ (List.mem_cons_of_mem _ (List.mem_cons_of_mem _ (List.mem_cons_of_mem _ List.mem_cons_self)))))))), (fun _ h => absurd h List.not_mem_nil)⟩)⟩)⟩)⟩)⟩)⟩)⟩)⟩)⟩), show ([8, 7, 6, 0, 1, 2, 3, 4, 5] : List Nat).Nodup by decide⟩ (C_hnS hn hi hy hlo n (k + 1) _ _ (by have y := c1733; rw [i32_lt, kk.2, z100] at y; omega) ?_)
          cases e1
          first
            | exact (bsF_n (fun z => by rw [hD, if_pos (Decidable.not_not.mp c1758)] at z; exact absurd c1773 (Int32.not_le.mpr z))).trans hD
            | exact bsF_y (by rw [hD, if_pos (Decidable.not_not.mp c1758)]; exact Int32.not_le.mp c1773)
            | (have e2 := g1763
               rw [hi _ (gF_len g1763 hn)] at e2
               cases e2
               exact (bsF_n (fun z => by rw [hD, if_neg c1758] at z; exact absurd c1773 (Int32.not_le.mpr z))).trans hD)
            | (have e2 := g1763
               rw [hi _ (gF_len g1763 hn)] at e2
               cases e2
               exact bsF_y (by rw [hD, if_neg c1758]; exact Int32.not_le.mp c1773))
        · cases e1773
          cases f1773
          have c1773 := ndc q1773
          refine zSiload (m := 2) (k := 8) vr_195_124 rfl rfl rfl (fun x1776 e1776 => ?_)
          cases e1776
          refine zSistore (m := 2) (k := 7) vr_195_126 rfl rfl (fun x1777 e1777 => ?_)
          cases e1777
          show zL zrx zi _ 195 128 [(7, _), (8, _), (6, _), (0, _), (1, _), (2, _), (3, _), (4, _), (5, _)] [] _ _ _
          refine zSiinc vr_195_128 rfl rfl (fun x1778 e1778 => ?_)
          cases e1778
          show zL zrx zi _ 195 131 [(8, _), (7, _), (6, _), (0, _), (1, _), (2, _), (3, _), (4, _), (5, _)] [] _ _ _
          refine zSgo (t := 90) vr_195_131 rfl rfl ?_
          rw [ofNat_succ]
          refine zL_pm _ _ _ [(8, _), (7, _), (6, _), (0, _), (1, _), (2, _), (3, _), (4, _), (5, _)] _ _ _ _ _ ⟨(List.forall_mem_cons.mpr ⟨List.mem_cons_self, (List.forall_mem_cons.mpr ⟨(List.mem_cons_of_mem _ List.mem_cons_self), (List.forall_mem_cons.mpr ⟨(List.mem_cons_of_mem _ (List.mem_cons_of_mem _ List.mem_cons_self)), (List.forall_mem_cons.mpr ⟨(List.mem_cons_of_mem _ (List.mem_cons_of_mem _ (List.mem_cons_of_mem _ List.mem_cons_self))), (List.forall_mem_cons.mpr ⟨(List.mem_cons_of_mem _ (List.mem_cons_of_mem _ (List.mem_cons_of_mem _ (List.mem_cons_of_mem _ List.mem_cons_self)))), (List.forall_mem_cons.mpr ⟨(List.mem_cons_of_mem _ (List.mem_cons_of_mem _ (List.mem_cons_of_mem _ (List.mem_cons_of_mem _ (List.mem_cons_of_mem _ List.mem_cons_self))))), (List.forall_mem_cons.mpr ⟨(List.mem_cons_of_mem _ (List.mem_cons_of_mem _ (List.mem_cons_of_mem _ (List.mem_cons_of_mem _ (List.mem_cons_of_mem _ (List.mem_cons_of_mem _ List.mem_cons_self)))))), (List.forall_mem_cons.mpr ⟨(List.mem_cons_of_mem _ (List.mem_cons_of_mem _ (List.mem_cons_of_mem _ (List.mem_cons_of_mem _ (List.mem_cons_of_mem _ (List.mem_cons_of_mem _ (List.mem_cons_of_mem _ List.mem_cons_self))))))), (List.forall_mem_cons.mpr ⟨(List.mem_cons_of_mem _ (List.mem_cons_of_mem _ (List.mem_cons_of_mem _ (List.mem_cons_of_mem _ (List.mem_cons_of_mem _ (List.mem_cons_of_mem _ (List.mem_cons_of_mem _ (List.mem_cons_of_mem _ List.mem_cons_self)))))))), (fun _ h => absurd h List.not_mem_nil)⟩)⟩)⟩)⟩)⟩)⟩)⟩)⟩)⟩), show ([8, 7, 6, 0, 1, 2, 3, 4, 5] : List Nat).Nodup by decide⟩ (C_hnS hn hi hy hlo n (k + 1) _ _ (by have y := c1733; rw [i32_lt, kk.2, z100] at y; omega) ?_)
          cases e1
          first
            | exact (bsF_n (fun z => by rw [hD, if_pos (Decidable.not_not.mp c1758)] at z; exact absurd c1773 (Int32.not_le.mpr z))).trans hD
            | exact bsF_y (by rw [hD, if_pos (Decidable.not_not.mp c1758)]; exact Int32.not_le.mp c1773)
            | (have e2 := g1763
               rw [hi _ (gF_len g1763 hn)] at e2
               cases e2
               exact (bsF_n (fun z => by rw [hD, if_neg c1758] at z; exact absurd c1773 (Int32.not_le.mpr z))).trans hD)
            | (have e2 := g1763
               rw [hi _ (gF_len g1763 hn)] at e2
               cases e2
               exact bsF_y (by rw [hD, if_neg c1758]; exact Int32.not_le.mp c1773))
theorem C_hnB {m r f a y : Int32} {A : Nat} {g : List zC} {c : Nat → Int32} (hn : gN g A = some 104) (hi : ∀ i, i < 104 → gF g A i = some (.int (c i))) (hy : rI 0 3 y) (w7 : Value) (n u : Nat) : zL zrx zi n 195 63 [(7, w7), (6, .ref A), (0, .ref 213), (1, .int m), (2, .int r), (3, .int f), (4, .int a), (5, .int y)] [] g u (fun o h2 _ => h2 = g ∧ o = .inl (some (.int (hnF c y)))) := by
  have z2 : (2 : Int32).toInt = 2 := rfl
  have z3 : (3 : Int32).toInt = 3 := rfl
  have z0 : (0 : Int32).toInt = 0 := rfl
  refine zSiload (m := 2) (k := 5) vr_195_63 rfl rfl rfl (fun x1780 e1780 => ?_)
  cases e1780
  refine zSp0 (pc' := 66) (st' := .int (2) :: _) vr_195_65 rfl rfl ?_
  refine zSb2 (f := fun x y => decide (x < y)) (off := 18) (t := 84) vr_195_66 rfl rfl rfl (fun x1782 y1782 e1782 f1782 q1782 => ?_) (fun x1782 y1782 e1782 f1782 q1782 => ?_)
  · cases e1782
    cases f1782
    have c1782 := of_decide_eq_true q1782
    refine zSp0 (pc' := 85) (st' := .int (-1) :: _) vr_195_84 rfl rfl ?_
    refine zSistore (m := 2) (k := 7) vr_195_85 rfl rfl (fun x1784 e1784 => ?_)
    cases e1784
    show zL zrx zi _ 195 87 [(7, _), (6, _), (0, _), (1, _), (2, _), (3, _), (4, _), (5, _)] [] _ _ _
    refine zSp0 (pc' := 88) (st' := .int (0) :: _) vr_195_87 rfl rfl ?_
    refine zSistore (m := 2) (k := 8) vr_195_88 rfl rfl (fun x1786 e1786 => ?_)
    cases e1786
    show zL zrx zi _ 195 90 [(8, _), (7, _), (6, _), (0, _), (1, _), (2, _), (3, _), (4, _), (5, _)] [] _ _ _
    exact zL_pm _ _ _ [(8, _), (7, _), (6, _), (0, _), (1, _), (2, _), (3, _), (4, _), (5, _)] _ _ _ _ _ ⟨(List.forall_mem_cons.mpr ⟨List.mem_cons_self, (List.forall_mem_cons.mpr ⟨(List.mem_cons_of_mem _ List.mem_cons_self), (List.forall_mem_cons.mpr ⟨(List.mem_cons_of_mem _ (List.mem_cons_of_mem _ List.mem_cons_self)), (List.forall_mem_cons.mpr ⟨(List.mem_cons_of_mem _ (List.mem_cons_of_mem _ (List.mem_cons_of_mem _ List.mem_cons_self))), (List.forall_mem_cons.mpr ⟨(List.mem_cons_of_mem _ (List.mem_cons_of_mem _ (List.mem_cons_of_mem _ (List.mem_cons_of_mem _ List.mem_cons_self)))), (List.forall_mem_cons.mpr ⟨(List.mem_cons_of_mem _ (List.mem_cons_of_mem _ (List.mem_cons_of_mem _ (List.mem_cons_of_mem _ (List.mem_cons_of_mem _ List.mem_cons_self))))), (List.forall_mem_cons.mpr ⟨(List.mem_cons_of_mem _ (List.mem_cons_of_mem _ (List.mem_cons_of_mem _ (List.mem_cons_of_mem _ (List.mem_cons_of_mem _ (List.mem_cons_of_mem _ List.mem_cons_self)))))), (List.forall_mem_cons.mpr ⟨(List.mem_cons_of_mem _ (List.mem_cons_of_mem _ (List.mem_cons_of_mem _ (List.mem_cons_of_mem _ (List.mem_cons_of_mem _ (List.mem_cons_of_mem _ (List.mem_cons_of_mem _ List.mem_cons_self))))))), (List.forall_mem_cons.mpr ⟨(List.mem_cons_of_mem _ (List.mem_cons_of_mem _ (List.mem_cons_of_mem _ (List.mem_cons_of_mem _ (List.mem_cons_of_mem _ (List.mem_cons_of_mem _ (List.mem_cons_of_mem _ (List.mem_cons_of_mem _ List.mem_cons_self)))))))), (fun _ h => absurd h List.not_mem_nil)⟩)⟩)⟩)⟩)⟩)⟩)⟩)⟩)⟩), show ([8, 7, 6, 0, 1, 2, 3, 4, 5] : List Nat).Nodup by decide⟩ (C_hnS hn hi hy (by have w := c1782; rw [i32_lt, z2] at w; exact w) _ 0 (-1) _ (by omega) rfl)
  · cases e1782
    cases f1782
    have c1782 := ndc q1782
    refine zSaload (m := 2) (k := 6) vr_195_69 rfl rfl rfl ?_
    refine zSiload (m := 2) (k := 5) vr_195_71 rfl rfl rfl (fun x1788 e1788 => ?_)
    cases e1788
    refine zSp0 (pc' := 74) (st' := .int (2) :: _) vr_195_73 rfl rfl ?_
    refine zSb2 (f := fun x y => decide (¬ x = y)) (off := 7) (t := 81) vr_195_74 rfl rfl rfl (fun x1790 y1790 e1790 f1790 q1790 => ?_) (fun x1790 y1790 e1790 f1790 q1790 => ?_)
    · cases e1790
      cases f1790
      have c1790 := of_decide_eq_true q1790
      refine zSp0 (pc' := 82) (st' := .int (2) :: _) vr_195_81 rfl rfl ?_
      refine zLiald vr_195_82 rfl (fun p1792 x1792 w1792 e1792 f1792 c1792 t1792 g1792 => ?_)
      cases e1792
      cases f1792
      refine zLiret vr_195_83 rfl (fun x1793 e1793 => ?_)
      cases e1793
      obtain ⟨y1, y2⟩ := hy
      first
        | (have y3 : y.toInt = 2 := by
             rw [Decidable.not_not.mp c1790]
             rfl
           have e := g1792
           rw [show ((1 : Int32)).toNatClampNeg = 1 by decide, hi 1 (by omega)] at e
           cases e
           refine ⟨rfl, ?_⟩
           unfold hnF
           rw [if_neg (by omega), if_neg (by omega), if_pos y3])
        | (have y3 : ¬ y.toInt = 2 := fun z => c1790 (Int32.toInt_inj.mp z)
           have yl := c1782
           rw [i32_lt, z2] at yl
           have e := g1792
           rw [show ((2 : Int32)).toNatClampNeg = 2 by decide, hi 2 (by omega)] at e
           cases e
           refine ⟨rfl, ?_⟩
           unfold hnF
           rw [if_neg (by omega), if_neg (by omega), if_neg y3])
    · cases e1790
      cases f1790
      have c1790 := ndc q1790
      refine zSp0 (pc' := 78) (st' := .int (1) :: _) vr_195_77 rfl rfl ?_
      refine zSgo (t := 82) vr_195_78 rfl rfl ?_
      refine zLiald vr_195_82 rfl (fun p1796 x1796 w1796 e1796 f1796 c1796 t1796 g1796 => ?_)
      cases e1796
      cases f1796
      refine zLiret vr_195_83 rfl (fun x1797 e1797 => ?_)
      cases e1797
      obtain ⟨y1, y2⟩ := hy
      first
        | (have y3 : y.toInt = 2 := by
             rw [Decidable.not_not.mp c1790]
             rfl
           have e := g1796
           rw [show ((1 : Int32)).toNatClampNeg = 1 by decide, hi 1 (by omega)] at e
           cases e
           refine ⟨rfl, ?_⟩
           unfold hnF
           rw [if_neg (by omega), if_neg (by omega), if_pos y3])
        | (have y3 : ¬ y.toInt = 2 := fun z => c1790 (Int32.toInt_inj.mp z)
           have yl := c1782
           rw [i32_lt, z2] at yl
           have e := g1796
           rw [show ((2 : Int32)).toNatClampNeg = 2 by decide, hi 2 (by omega)] at e
           cases e
           refine ⟨rfl, ?_⟩
           unfold hnF
           rw [if_neg (by omega), if_neg (by omega), if_neg y3])
theorem C_heldNow (n : Nat) (m r f a y : Int32) (h : List zC) (u : Nat) {cnt d : Int32} {el : Nat} (hS : Stc h) (hs : gF h 223 2 = some (.int cnt)) (hL : gF h 223 1 = some (.ref el)) (h0 : 0 ≤ cnt.toInt) (h40 : cnt.toInt ≤ 40) (hd : gF h 213 1 = some (.int d)) (hel : el < h.length) (hq : ∀ k, k < cnt.toNatClampNeg → ∃ x : Nat, gF h el k = some (.ref x) ∧ RI h x ∧ ∃ a b c : Int32, gF h x 3 = some (.int a) ∧ gF h x 4 = some (.int b) ∧ gF h x 6 = some (.int c) ∧ rI 0 63 a ∧ rI 0 63 b) (hy : rI 0 3 y) : zL zrx zi n 195 0 [(0, .ref 213), (1, .int m), (2, .int r), (3, .int f), (4, .int a), (5, .int y)] [] h u (fun o h2 _ => (∀ x i, x < h.length → gF h2 x i = gF h x i) ∧ h.length ≤ h2.length ∧ o = .inl (some (.int (hnF ((byc (tMu h el cnt m r f a d) (iv h 214)) 6) y)))) := by
  refine zSp0 (pc' := 2) (st' := .int (104) :: _) vr_195_0 rfl rfl ?_
  refine zLnarr vr_195_2 rfl (fun m1799 k1799 u1799 e1799 n1799 g1799 => ?_)
  cases e1799
  have hl12 : ((104 : Int32)).toNatClampNeg = 104 := by decide
  rw [hl12] at g1799
  refine zSastore (m := 2) (k := 6) vr_195_4 rfl rfl ?_
  show zL zrx zi _ 195 6 [(6, _), (0, _), (1, _), (2, _), (3, _), (4, _), (5, _)] [] _ _ _
  refine zSp0 (pc' := 7) (st' := .int (0) :: _) vr_195_6 rfl rfl ?_
  refine zSistore (m := 2) (k := 7) vr_195_7 rfl rfl (fun x1802 e1802 => ?_)
  cases e1802
  show zL zrx zi _ 195 9 [(7, _), (6, _), (0, _), (1, _), (2, _), (3, _), (4, _), (5, _)] [] _ _ _
  refine zL_pm _ _ _ [(7, _), (6, _), (0, _), (1, _), (2, _), (3, _), (4, _), (5, _)] _ _ _ _ _ ⟨(List.forall_mem_cons.mpr ⟨List.mem_cons_self, (List.forall_mem_cons.mpr ⟨(List.mem_cons_of_mem _ List.mem_cons_self), (List.forall_mem_cons.mpr ⟨(List.mem_cons_of_mem _ (List.mem_cons_of_mem _ List.mem_cons_self)), (List.forall_mem_cons.mpr ⟨(List.mem_cons_of_mem _ (List.mem_cons_of_mem _ (List.mem_cons_of_mem _ List.mem_cons_self))), (List.forall_mem_cons.mpr ⟨(List.mem_cons_of_mem _ (List.mem_cons_of_mem _ (List.mem_cons_of_mem _ (List.mem_cons_of_mem _ List.mem_cons_self)))), (List.forall_mem_cons.mpr ⟨(List.mem_cons_of_mem _ (List.mem_cons_of_mem _ (List.mem_cons_of_mem _ (List.mem_cons_of_mem _ (List.mem_cons_of_mem _ List.mem_cons_self))))), (List.forall_mem_cons.mpr ⟨(List.mem_cons_of_mem _ (List.mem_cons_of_mem _ (List.mem_cons_of_mem _ (List.mem_cons_of_mem _ (List.mem_cons_of_mem _ (List.mem_cons_of_mem _ List.mem_cons_self)))))), (List.forall_mem_cons.mpr ⟨(List.mem_cons_of_mem _ (List.mem_cons_of_mem _ (List.mem_cons_of_mem _ (List.mem_cons_of_mem _ (List.mem_cons_of_mem _ (List.mem_cons_of_mem _ (List.mem_cons_of_mem _ List.mem_cons_self))))))), (fun _ h => absurd h List.not_mem_nil)⟩)⟩)⟩)⟩)⟩)⟩)⟩)⟩), show ([7, 6, 0, 1, 2, 3, 4, 5] : List Nat).Nodup by decide⟩ (C_hnL hS hs hL h0 h40 hd hel hq (fun n g u hA hA2 fr ft hn hi => zL_K _ _ _ _ _ _ _ _ _ (C_hnB hn hi hy _ n u) (fun o h2 _ q => ?_)) _ 0 _ _ (by omega) (Nat.le_refl _) (by rw [g1799.len]; omega) (fun x i hx => g1799.ext.fld hx i) (fun x hx => g1799.ext.T hx) (by rw [g1799.cn.1, List.length_replicate]) (fun i hi2 => ?_))
  · obtain ⟨rfl, q2⟩ := q
    exact ⟨fr, by omega, q2⟩
  · rw [g1799.fld]
    show (List.replicate 104 _)[i]? = _
    rw [List.getElem?_replicate, if_pos hi2]
    rfl
abbrev Q_mheld (el : Nat) (cnt d : Int32) (m r f a y : Int32) (h : List zC) : zK := fun o h2 _ => ∃ (z : Int32) (h0 : List zC), o = .inl (some (.int z)) ∧ hPut h h0 213 0 (.int 0) ∧ ((okH m r f a y ∧ (∀ x i, x < h0.length → gF h2 x i = gF h0 x i) ∧ h0.length ≤ h2.length ∧ z = hnF (byc (tMu h0 el cnt m r f a d) (iv h0 214) 6) y) ∨ (¬ (iN 4 m ∧ iN 4 r) ∧ hPut h0 h2 213 0 (.int 1)) ∨ ((iN 4 m ∧ iN 4 r) ∧ ¬ (rI 0 63 f ∧ rI 0 999 a ∧ rI 0 3 y) ∧ hPut h0 h2 213 0 (.int 2)))
theorem C_mheld (n : Nat) (m r f a y : Int32) (h : List zC) (u : Nat) {cnt d : Int32} {el : Nat} (hS : Stc h) (hs : gF h 223 2 = some (.int cnt)) (hL : gF h 223 1 = some (.ref el)) (h0 : 0 ≤ cnt.toInt) (h40 : cnt.toInt ≤ 40) (hd : gF h 213 1 = some (.int d)) (hel : el < h.length) (hq : ∀ k, k < cnt.toNatClampNeg → ∃ x : Nat, 239 ≤ x ∧ gF h el k = some (.ref x) ∧ RI h x ∧ ∃ a b c : Int32, gF h x 3 = some (.int a) ∧ gF h x 4 = some (.int b) ∧ gF h x 6 = some (.int c) ∧ rI 0 63 a ∧ rI 0 63 b) (h213 : ¬ el = 213) : zL zrx zi n 196 0 [(0, .ref 213), (1, .int m), (2, .int r), (3, .int f), (4, .int a), (5, .int y)] [] h u (Q_mheld el cnt d m r f a y h) := by
  refine zSaload (m := 1) (k := 0) vr_196_0 rfl rfl rfl ?_
  refine zSp0 (pc' := 2) (st' := .int (0) :: _) vr_196_1 rfl rfl ?_
  refine zLput vr_196_2 rfl (fun p1805 k1805 e1805 t1805 g1805 => ?_)
  cases e1805
  have t0 := g1805
  have hS0 := hS.thr t0
  have f0 : ∀ q k, ¬ (q = 213 ∧ k = 0) → gF k1805 q k = gF h q k := fun q k z => by rw [t0.2.1, if_neg z]
  have hs0 := (f0 223 2 (by omega)).trans hs
  have hL0 := (f0 223 1 (by omega)).trans hL
  have hd0 := (f0 213 1 (by omega)).trans hd
  have hq0 : ∀ k, k < cnt.toNatClampNeg → ∃ x : Nat, gF k1805 el k = some (.ref x) ∧ RI k1805 x ∧ ∃ a b c : Int32, gF k1805 x 3 = some (.int a) ∧ gF k1805 x 4 = some (.int b) ∧ gF k1805 x 6 = some (.int c) ∧ rI 0 63 a ∧ rI 0 63 b := fun k hk => by
    obtain ⟨x, x0, x1, ri, a, b, c, a1, b1, c1, ra, rb⟩ := hq k hk
    exact ⟨x, (f0 el k (fun z => h213 z.1)).trans x1, ri.same (fun j _ => f0 x j (by omega)), a, b, c, (f0 x 3 (by omega)).trans a1, (f0 x 4 (by omega)).trans b1, (f0 x 6 (by omega)).trans c1, ra, rb⟩
  have hel0 : el < k1805.length := by rw [t0.1]; exact hel
  refine zSiload (m := 1) (k := 1) vr_196_5 rfl rfl rfl (fun x1806 e1806 => ?_)
  cases e1806
  refine zSp0 (pc' := 7) (st' := .int (0) :: _) vr_196_6 rfl rfl ?_
  refine zSp0 (pc' := 8) (st' := .int (3) :: _) vr_196_7 rfl rfl ?_
  refine zScall vr_196_8 rfl rfl rfl (fun m1809 _ => C_in _ _ _ _ _ _) (fun v1809 h1809 u1809 q1809 => ?_) (fun E1809 h1809 u1809 q1809 => ?_)
  · obtain ⟨eh1809, z1809⟩ := q1809
    replace eh1809 := eh1809.symm
    subst eh1809
    cases z1809
    show zL zrx zi _ 196 11 [(0, _), (1, _), (2, _), (3, _), (4, _), (5, _)] [_] _ _ _
    refine zSb1 (f := fun x => decide (x = 0)) (off := 12) (t := 23) vr_196_11 rfl rfl rfl (fun x1810 e1810 q1810 => ?_) (fun x1810 e1810 q1810 => ?_)
    · cases e1810
      have c1810 := of_decide_eq_true q1810
      refine zSaload (m := 1) (k := 0) vr_196_23 rfl rfl rfl ?_
      refine zSp0 (pc' := 25) (st' := .int (1) :: _) vr_196_24 rfl rfl ?_
      refine zScall vr_196_25 rfl rfl rfl (fun m1813 _ => C_no _ _ _ _ _) (fun v1813 h1813 u1813 q1813 => ?_) (fun E1813 h1813 u1813 q1813 => ?_)
      · obtain ⟨gn1813, z1813⟩ := q1813
        cases z1813
        show zL zrx zi _ 196 28 [(0, _), (1, _), (2, _), (3, _), (4, _), (5, _)] [_] _ _ _
        refine zLiret vr_196_28 rfl (fun x1814 e1814 => ?_)
        cases e1814
        first
          | exact ⟨_, _, rfl, t0, Or.inr (Or.inl ⟨fun z => in_n (x := m) (hi := 3) (m := 4) (by decide) c1810 z.1, gn1813⟩)⟩
          | exact ⟨_, _, rfl, t0, Or.inr (Or.inl ⟨fun z => in_n (x := r) (hi := 3) (m := 4) (by decide) (Decidable.not_not.mp c1708) z.2, gn1813⟩)⟩
      · obtain ⟨-, z⟩ := q1813
        cases z
    · cases e1810
      have c1810 := ndc q1810
      refine zSiload (m := 1) (k := 2) vr_196_14 rfl rfl rfl (fun x1815 e1815 => ?_)
      cases e1815
      refine zSp0 (pc' := 16) (st' := .int (0) :: _) vr_196_15 rfl rfl ?_
      refine zSp0 (pc' := 17) (st' := .int (3) :: _) vr_196_16 rfl rfl ?_
      refine zScall vr_196_17 rfl rfl rfl (fun m1818 _ => C_in _ _ _ _ _ _) (fun v1818 h1818 u1818 q1818 => ?_) (fun E1818 h1818 u1818 q1818 => ?_)
      · obtain ⟨eh1818, z1818⟩ := q1818
        replace eh1818 := eh1818.symm
        subst eh1818
        cases z1818
        show zL zrx zi _ 196 20 [(0, _), (1, _), (2, _), (3, _), (4, _), (5, _)] [_] _ _ _
        refine zSb1 (f := fun x => decide (¬ x = 0)) (off := 9) (t := 29) vr_196_20 rfl rfl rfl (fun x1819 e1819 q1819 => ?_) (fun x1819 e1819 q1819 => ?_)
        · cases e1819
          have c1819 := of_decide_eq_true q1819
          refine zSiload (m := 1) (k := 3) vr_196_29 rfl rfl rfl (fun x1820 e1820 => ?_)
          cases e1820
          refine zSp0 (pc' := 31) (st' := .int (0) :: _) vr_196_30 rfl rfl ?_
          refine zSp0 (pc' := 33) (st' := .int (63) :: _) vr_196_31 rfl rfl ?_
          refine zScall vr_196_33 rfl rfl rfl (fun m1823 _ => C_in _ _ _ _ _ _) (fun v1823 h1823 u1823 q1823 => ?_) (fun E1823 h1823 u1823 q1823 => ?_)
          · obtain ⟨eh1823, z1823⟩ := q1823
            replace eh1823 := eh1823.symm
            subst eh1823
            cases z1823
            show zL zrx zi _ 196 36 [(0, _), (1, _), (2, _), (3, _), (4, _), (5, _)] [_] _ _ _
            refine zSb1 (f := fun x => decide (x = 0)) (off := 25) (t := 61) vr_196_36 rfl rfl rfl (fun x1824 e1824 q1824 => ?_) (fun x1824 e1824 q1824 => ?_)
            · cases e1824
              have c1824 := of_decide_eq_true q1824
              refine zSaload (m := 1) (k := 0) vr_196_61 rfl rfl rfl ?_
              refine zSp0 (pc' := 63) (st' := .int (2) :: _) vr_196_62 rfl rfl ?_
              refine zScall vr_196_63 rfl rfl rfl (fun m1827 _ => C_no _ _ _ _ _) (fun v1827 h1827 u1827 q1827 => ?_) (fun E1827 h1827 u1827 q1827 => ?_)
              · obtain ⟨gn1827, z1827⟩ := q1827
                cases z1827
                show zL zrx zi _ 196 66 [(0, _), (1, _), (2, _), (3, _), (4, _), (5, _)] [_] _ _ _
                refine zLiret vr_196_66 rfl (fun x1828 e1828 => ?_)
                cases e1828
                first
                  | exact ⟨_, _, rfl, t0, Or.inr (Or.inr ⟨⟨in_y (x := m) (hi := 3) (m := 4) (by decide) c1810, in_y (x := r) (hi := 3) (m := 4) (by decide) c1819⟩, fun z => inB_n c1824 z.1, gn1827⟩)⟩
                  | exact ⟨_, _, rfl, t0, Or.inr (Or.inr ⟨⟨in_y (x := m) (hi := 3) (m := 4) (by decide) c1810, in_y (x := r) (hi := 3) (m := 4) (by decide) c1819⟩, fun z => inB_n c1724 z.2.1, gn1827⟩)⟩
                  | exact ⟨_, _, rfl, t0, Or.inr (Or.inr ⟨⟨in_y (x := m) (hi := 3) (m := 4) (by decide) c1810, in_y (x := r) (hi := 3) (m := 4) (by decide) c1819⟩, fun z => inB_n (Decidable.not_not.mp c1613) z.2.2, gn1827⟩)⟩
              · obtain ⟨-, z⟩ := q1827
                cases z
            · cases e1824
              have c1824 := ndc q1824
              refine zSiload (m := 2) (k := 4) vr_196_39 rfl rfl rfl (fun x1829 e1829 => ?_)
              cases e1829
              refine zSp0 (pc' := 42) (st' := .int (0) :: _) vr_196_41 rfl rfl ?_
              refine zSp0 (pc' := 45) (st' := .int (999) :: _) vr_196_42 rfl rfl ?_
              refine zScall vr_196_45 rfl rfl rfl (fun m1832 _ => C_in _ _ _ _ _ _) (fun v1832 h1832 u1832 q1832 => ?_) (fun E1832 h1832 u1832 q1832 => ?_)
              · obtain ⟨eh1832, z1832⟩ := q1832
                replace eh1832 := eh1832.symm
                subst eh1832
                cases z1832
                show zL zrx zi _ 196 48 [(0, _), (1, _), (2, _), (3, _), (4, _), (5, _)] [_] _ _ _
                refine zSb1 (f := fun x => decide (x = 0)) (off := 13) (t := 61) vr_196_48 rfl rfl rfl (fun x1833 e1833 q1833 => ?_) (fun x1833 e1833 q1833 => ?_)
                · cases e1833
                  have c1833 := of_decide_eq_true q1833
                  refine zSaload (m := 1) (k := 0) vr_196_61 rfl rfl rfl ?_
                  refine zSp0 (pc' := 63) (st' := .int (2) :: _) vr_196_62 rfl rfl ?_
                  refine zScall vr_196_63 rfl rfl rfl (fun m1836 _ => C_no _ _ _ _ _) (fun v1836 h1836 u1836 q1836 => ?_) (fun E1836 h1836 u1836 q1836 => ?_)
                  · obtain ⟨gn1836, z1836⟩ := q1836
                    cases z1836
                    show zL zrx zi _ 196 66 [(0, _), (1, _), (2, _), (3, _), (4, _), (5, _)] [_] _ _ _
                    refine zLiret vr_196_66 rfl (fun x1837 e1837 => ?_)
                    cases e1837
                    first
                      | exact ⟨_, _, rfl, t0, Or.inr (Or.inr ⟨⟨in_y (x := m) (hi := 3) (m := 4) (by decide) c1810, in_y (x := r) (hi := 3) (m := 4) (by decide) c1819⟩, fun z => inB_n c1824 z.1, gn1836⟩)⟩
                      | exact ⟨_, _, rfl, t0, Or.inr (Or.inr ⟨⟨in_y (x := m) (hi := 3) (m := 4) (by decide) c1810, in_y (x := r) (hi := 3) (m := 4) (by decide) c1819⟩, fun z => inB_n c1833 z.2.1, gn1836⟩)⟩
                      | exact ⟨_, _, rfl, t0, Or.inr (Or.inr ⟨⟨in_y (x := m) (hi := 3) (m := 4) (by decide) c1810, in_y (x := r) (hi := 3) (m := 4) (by decide) c1819⟩, fun z => inB_n (Decidable.not_not.mp c1613) z.2.2, gn1836⟩)⟩
                  · obtain ⟨-, z⟩ := q1836
                    cases z
                · cases e1833
                  have c1833 := ndc q1833
                  refine zSiload (m := 2) (k := 5) vr_196_51 rfl rfl rfl (fun x1838 e1838 => ?_)
                  cases e1838
                  refine zSp0 (pc' := 54) (st' := .int (0) :: _) vr_196_53 rfl rfl ?_
                  refine zSp0 (pc' := 55) (st' := .int (3) :: _) vr_196_54 rfl rfl ?_
                  refine zScall vr_196_55 rfl rfl rfl (fun m1841 _ => C_in _ _ _ _ _ _) (fun v1841 h1841 u1841 q1841 => ?_) (fun E1841 h1841 u1841 q1841 => ?_)
                  · obtain ⟨eh1841, z1841⟩ := q1841
                    replace eh1841 := eh1841.symm
                    subst eh1841
                    cases z1841
                    show zL zrx zi _ 196 58 [(0, _), (1, _), (2, _), (3, _), (4, _), (5, _)] [_] _ _ _
                    refine zSb1 (f := fun x => decide (¬ x = 0)) (off := 9) (t := 67) vr_196_58 rfl rfl rfl (fun x1842 e1842 q1842 => ?_) (fun x1842 e1842 q1842 => ?_)
                    · cases e1842
                      have c1842 := of_decide_eq_true q1842
                      refine zSaload (m := 1) (k := 0) vr_196_67 rfl rfl rfl ?_
                      refine zSiload (m := 1) (k := 1) vr_196_68 rfl rfl rfl (fun x1844 e1844 => ?_)
                      cases e1844
                      refine zSiload (m := 1) (k := 2) vr_196_69 rfl rfl rfl (fun x1845 e1845 => ?_)
                      cases e1845
                      refine zSiload (m := 1) (k := 3) vr_196_70 rfl rfl rfl (fun x1846 e1846 => ?_)
                      cases e1846
                      refine zSiload (m := 2) (k := 4) vr_196_71 rfl rfl rfl (fun x1847 e1847 => ?_)
                      cases e1847
                      refine zSiload (m := 2) (k := 5) vr_196_73 rfl rfl rfl (fun x1848 e1848 => ?_)
                      cases e1848
                      refine zScall vr_196_75 rfl rfl rfl (fun m1849 _ => C_heldNow _ _ _ _ _ _ _ _ hS0 hs0 hL0 h0 h40 hd0 hel0 hq0 (inB_y c1842)) (fun v1849 h1849 u1849 q1849 => ?_) (fun E1849 h1849 u1849 q1849 => ?_)
                      · obtain ⟨k1, k2, z1849⟩ := q1849
                        cases z1849
                        show zL zrx zi _ 196 78 [(0, _), (1, _), (2, _), (3, _), (4, _), (5, _)] [_] _ _ _
                        refine zLiret vr_196_78 rfl (fun x1850 e1850 => ?_)
                        cases e1850
                        exact ⟨_, _, rfl, t0, Or.inl ⟨⟨⟨in_y (x := m) (hi := 3) (m := 4) (by decide) c1810, in_y (x := r) (hi := 3) (m := 4) (by decide) c1819⟩, inB_y c1824, inB_y c1833, inB_y c1842⟩, k1, k2, rfl⟩⟩
                      · obtain ⟨-, -, z⟩ := q1849
                        cases z
                    · cases e1842
                      have c1842 := ndc q1842
                      refine zSaload (m := 1) (k := 0) vr_196_61 rfl rfl rfl ?_
                      refine zSp0 (pc' := 63) (st' := .int (2) :: _) vr_196_62 rfl rfl ?_
                      refine zScall vr_196_63 rfl rfl rfl (fun m1853 _ => C_no _ _ _ _ _) (fun v1853 h1853 u1853 q1853 => ?_) (fun E1853 h1853 u1853 q1853 => ?_)
                      · obtain ⟨gn1853, z1853⟩ := q1853
                        cases z1853
                        show zL zrx zi _ 196 66 [(0, _), (1, _), (2, _), (3, _), (4, _), (5, _)] [_] _ _ _
                        refine zLiret vr_196_66 rfl (fun x1854 e1854 => ?_)
                        cases e1854
                        first
                          | exact ⟨_, _, rfl, t0, Or.inr (Or.inr ⟨⟨in_y (x := m) (hi := 3) (m := 4) (by decide) c1810, in_y (x := r) (hi := 3) (m := 4) (by decide) c1819⟩, fun z => inB_n c1824 z.1, gn1853⟩)⟩
                          | exact ⟨_, _, rfl, t0, Or.inr (Or.inr ⟨⟨in_y (x := m) (hi := 3) (m := 4) (by decide) c1810, in_y (x := r) (hi := 3) (m := 4) (by decide) c1819⟩, fun z => inB_n c1833 z.2.1, gn1853⟩)⟩
                          | exact ⟨_, _, rfl, t0, Or.inr (Or.inr ⟨⟨in_y (x := m) (hi := 3) (m := 4) (by decide) c1810, in_y (x := r) (hi := 3) (m := 4) (by decide) c1819⟩, fun z => inB_n (Decidable.not_not.mp c1842) z.2.2, gn1853⟩)⟩
                      · obtain ⟨-, z⟩ := q1853
                        cases z
                  · obtain ⟨-, z⟩ := q1841
                    cases z
              · obtain ⟨-, z⟩ := q1832
                cases z
          · obtain ⟨-, z⟩ := q1823
            cases z
        · cases e1819
          have c1819 := ndc q1819
          refine zSaload (m := 1) (k := 0) vr_196_23 rfl rfl rfl ?_
          refine zSp0 (pc' := 25) (st' := .int (1) :: _) vr_196_24 rfl rfl ?_
          refine zScall vr_196_25 rfl rfl rfl (fun m1857 _ => C_no _ _ _ _ _) (fun v1857 h1857 u1857 q1857 => ?_) (fun E1857 h1857 u1857 q1857 => ?_)
          · obtain ⟨gn1857, z1857⟩ := q1857
            cases z1857
            show zL zrx zi _ 196 28 [(0, _), (1, _), (2, _), (3, _), (4, _), (5, _)] [_] _ _ _
            refine zLiret vr_196_28 rfl (fun x1858 e1858 => ?_)
            cases e1858
            first
              | exact ⟨_, _, rfl, t0, Or.inr (Or.inl ⟨fun z => in_n (x := m) (hi := 3) (m := 4) (by decide) c1810 z.1, gn1857⟩)⟩
              | exact ⟨_, _, rfl, t0, Or.inr (Or.inl ⟨fun z => in_n (x := r) (hi := 3) (m := 4) (by decide) (Decidable.not_not.mp c1819) z.2, gn1857⟩)⟩
          · obtain ⟨-, z⟩ := q1857
            cases z
      · obtain ⟨-, z⟩ := q1818
        cases z
  · obtain ⟨-, z⟩ := q1809
    cases z
