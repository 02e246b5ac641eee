/-! ===== values: lists ===== -/
/-- all cells of h are as they were, but that of p -/
def hOne (h h2 : List zC) (p : Nat) : Prop := h.length ≤ h2.length ∧ ∀ q, q < h.length → ¬ q = p → h2[q]? = h[q]?
theorem toNat_ofNat {m : Nat} (hm : m < 2147483648) : (Int32.ofNat m).toNatClampNeg = m ∧ (Int32.ofNat m).toInt = m := by
  have h1 : (Int32.ofNat m).toInt = m := Int32.toInt_ofNat_of_lt (by omega)
  refine ⟨?_, h1⟩
  show (Int32.ofNat m).toInt.toNat = m
  omega
theorem hPut.len {h h2 : List zC} {q b : Nat} {v : Value} (g : hPut h h2 q b v) : h2.length = h.length := g.1
/-- what add does: the row el' of the list L holds one more -/
def lAdd (h h2 : List zC) (L el : Nat) (s : Int32) (e : Nat) : Prop := ¬ s < 0 ∧ h.length ≤ h2.length ∧ ¬ L = el ∧ ∃ el' : Nat, gF h2 L 1 = some (.ref el') ∧ gF h2 L 2 = some (.int (s + 1)) ∧ (∀ k, k < s.toNatClampNeg → gF h2 el' k = gF h el k) ∧ gF h2 el' s.toNatClampNeg = some (.ref e) ∧ (el' = el ∨ h.length ≤ el') ∧
  (∀ p, p < h.length → ¬ p = L → ¬ p = el → ∀ k, gF h2 p k = gF h p k) ∧ ∀ p, p < h.length → gT h2 p = gT h p ∧ gN h2 p = gN h p
/-- what grow does: a longer row for the list L -/
def lGrow (h h2 : List zC) (L el l : Nat) (r : Value) : Prop := ∃ m : Nat, r = .ref h.length ∧ gF h2 L 1 = some (.ref h.length) ∧ gN h2 h.length = some m ∧ gT h2 h.length = some 105 ∧ (∀ k, k < m → k < l → gF h2 h.length k = gF h el k) ∧ h2.length = h.length + 1 ∧ (∀ p, p < h.length → ∀ k, ¬ (p = L ∧ k = 1) → gF h2 p k = gF h p k) ∧ ∀ p, p < h.length → gT h2 p = gT h p ∧ gN h2 p = gN h p
def lCopy (h h2 : List zC) (q l : Nat) (m : Int32) : Prop := hExt h h2 ∧ h2.length = h.length + 1 ∧ ¬ m < 0 ∧ gN h2 h.length = some m.toNatClampNeg ∧ gT h2 h.length = some 105 ∧ ∀ k, k < m.toNatClampNeg → k < l → gF h2 h.length k = gF h q k
theorem gN_lt {h : List zC} {p m : Nat} (e : gN h p = some m) : p < h.length := by
  unfold gN at e
  split at e
  · rename_i c hc
    exact (List.getElem?_eq_some_iff.mp hc).1
  · cases e
theorem gT_lt {h : List zC} {p m : Nat} (e : gT h p = some m) : p < h.length := by
  unfold gT at e
  split at e
  · rename_i c hc
    exact (List.getElem?_eq_some_iff.mp hc).1
  · cases e
theorem copy_end {h h1 h2 : List zC} {q l l' : Nat} {m : Int32} (hq : gN h q = some l) (hl2 : l < 2147483648) (hm : ¬ m < 0) (g : vNew h h1 (105, List.replicate m.toNatClampNeg .null)) (hl : gN h1 q = some l') (c : hCpy h1 h2 q (0 : Int32).toNatClampNeg h.length (0 : Int32).toNatClampNeg (if m < Int32.ofNat l' then m else Int32.ofNat l').toNatClampNeg) : lCopy h h2 q l m := by
  have hq2 := gN_lt hq
  rw [(g.ext.T hq2).2, hq] at hl
  cases hl
  obtain ⟨c1, c2, c3, c4⟩ := c
  have z0 : (0 : Int32).toNatClampNeg = 0 := rfl
  rw [z0] at c2
  refine ⟨fun p hp => ?_, by rw [c1, g.len], hm, ?_, by rw [c3, g.cn.2], fun k k1 k2 => ?_⟩
  · have e1 : ∀ k, gF h2 p k = gF h p k := fun k => by
      rw [c2, if_neg (fun z => by omega), g.ext.fld hp]
    have e2 := c3 p
    have e3 := c4 p
    rw [(g.ext.T hp).1] at e2
    rw [(g.ext.T hp).2] at e3
    exact cell_eq e1 e2 e3
  · rw [c4, g.cn.1, List.length_replicate]
  · have h3 : k < (if m < Int32.ofNat l then m else Int32.ofNat l).toNatClampNeg := by
      split
      · exact k1
      · rw [(toNat_ofNat hl2).1]
        exact k2
    rw [c2, if_pos ⟨rfl, by omega, by omega⟩, g.ext.fld hq2]
    simp
theorem grow_end {h h1 h2 : List zC} {L el l m : Nat} (hL : gF h L 1 = some (.ref el)) (x : hExt h h1) (xl : h1.length = h.length + 1) (n : gN h1 h.length = some m) (t : gT h1 h.length = some 105) (c : ∀ k, k < m → k < l → gF h1 h.length k = gF h el k) (g : hPut h1 h2 L 1 (.ref h.length)) : lGrow h h2 L el l (.ref h.length) := by
  have hl := gF_lt hL
  refine ⟨m, rfl, by rw [g.2.1, if_pos ⟨rfl, rfl⟩], by rw [g.2.2.2]; exact n, by rw [g.2.2.1]; exact t, fun k k1 k2 => ?_, by rw [g.1, xl], fun p hp k hk => ?_, fun p hp => ?_⟩
  · rw [g.2.1, if_neg (by omega)]
    exact c k k1 k2
  · rw [g.2.1, if_neg hk, x.fld hp]
  · rw [g.2.2.1, g.2.2.2]
    exact x.T hp
theorem add_end1 {h h1 h2 : List zC} {L el e : Nat} {s : Int32} (hL : gF h L 1 = some (.ref el)) (tL : gT h1 L = some 2) (tE : ∃ t, gT h el = some t ∧ 105 ≤ t) (ns : ¬ s < 0) (g1 : hPut h h1 el s.toNatClampNeg (.ref e)) (g2 : hPut h1 h2 L 2 (.int (s + 1))) : lAdd h h2 L el s e := by
  have ne : ¬ L = el := fun z => by
    subst z
    obtain ⟨t, t1, t2⟩ := tE
    rw [g1.2.2.1, t1] at tL
    cases tL
    omega
  refine ⟨ns, by rw [g2.1, g1.1]; exact Nat.le_refl _, ne, el, ?_, ?_, fun k hk => ?_, ?_, Or.inl rfl, fun p hp p1 p2 k => ?_, fun p hp => ?_⟩
  · rw [g2.2.1, if_neg (by omega), g1.2.1, if_neg (fun z => ne z.1)]
    exact hL
  · rw [g2.2.1, if_pos ⟨rfl, rfl⟩]
  · rw [g2.2.1, if_neg (fun z => ne z.1.symm), g1.2.1, if_neg (by omega)]
  · rw [g2.2.1, if_neg (fun z => ne z.1.symm), g1.2.1, if_pos ⟨rfl, rfl⟩]
  · rw [g2.2.1, if_neg (fun z => p1 z.1), g1.2.1, if_neg (fun z => p2 z.1)]
  · rw [g2.2.2.1, g1.2.2.1, g2.2.2.2, g1.2.2.2]
    exact ⟨rfl, rfl⟩
theorem add_end2 {h h0 h1 h2 : List zC} {L el e l r : Nat} {s : Int32} (hL : gF h L 1 = some (.ref el)) (hn : gN h el = some l) (hl2 : l < 2147483648) (hs : s = Int32.ofNat l) (gr : lGrow h h0 L el l (.ref r)) (tL : gT h1 L = some 2) (tE : ∃ t, gT h el = some t ∧ 93 ≤ t) (bd : ∃ m, gN h0 r = some m ∧ s.toNatClampNeg < m) (ns : ¬ s < 0) (g1 : hPut h0 h1 r s.toNatClampNeg (.ref e)) (g2 : hPut h1 h2 L 2 (.int (s + 1))) : lAdd h h2 L el s e := by
  obtain ⟨m, e1, e2, e3, e4, e5, e6, e7, e8⟩ := gr
  cases e1
  obtain ⟨m', b1, b2⟩ := bd
  rw [e3] at b1
  cases b1
  have hl := gF_lt hL
  have hq := gN_lt hn
  have sl : s.toNatClampNeg = l := by rw [hs]; exact (toNat_ofNat hl2).1
  have ne : ¬ L = el := fun z => by
    subst z
    obtain ⟨t, t1, t2⟩ := tE
    rw [g1.2.2.1, (e8 _ hl).1, t1] at tL
    cases tL
    omega
  refine ⟨ns, by rw [g2.1, g1.1, e6]; omega, ne, h.length, ?_, ?_, fun k hk => ?_, ?_, Or.inr (Nat.le_refl _), fun p hp p1 p2 k => ?_, fun p hp => ?_⟩
  · rw [g2.2.1, if_neg (by omega), g1.2.1, if_neg (by omega)]
    exact e2
  · rw [g2.2.1, if_pos ⟨rfl, rfl⟩]
  · rw [g2.2.1, if_neg (by omega), g1.2.1, if_neg (by omega)]
    exact e5 k (by omega) (by omega)
  · rw [g2.2.1, if_neg (by omega), g1.2.1, if_pos ⟨rfl, rfl⟩]
  · rw [g2.2.1, if_neg (fun z => p1 z.1), g1.2.1, if_neg (by omega), e7 p hp k (fun z => p1 z.1)]
  · rw [g2.2.2.1, g1.2.2.1, g2.2.2.2, g1.2.2.2]
    exact e8 p hp
theorem lAdd.pre {h k h2 : List zC} {L el e : Nat} {s : Int32} {v : Value} (g : hPut h k L 0 v) (a : lAdd k h2 L el s e) : lAdd h h2 L el s e := by
  obtain ⟨a1, a2, a3, el', a4, a5, a6, a7, a8, a9, a10⟩ := a
  rw [g.1] at a2 a8 a9 a10
  refine ⟨a1, a2, a3, el', a4, a5, fun i hi => ?_, a7, a8, fun p hp p1 p2 i => ?_, fun p hp => ?_⟩
  · rw [a6 i hi, g.2.1, if_neg (fun z => a3 z.1.symm)]
  · rw [a9 p hp p1 p2 i, g.2.1, if_neg (fun z => p1 z.1)]
  · rw [(a10 p hp).1, (a10 p hp).2, g.2.2.1, g.2.2.2]
    exact ⟨rfl, rfl⟩
/-! ===== values: the rules ===== -/
theorem st_16_9 {h : List zC} (hS : Stc h) : gF h 16 9 = some (.ref 28) := hS.2 (16, 9, 28) (by decide +kernel)
theorem st_28_0 {h : List zC} (hS : Stc h) : gF h 28 0 = some (.ref 29) := hS.2 (28, 0, 29) (by decide +kernel)
theorem st_213_7 {h : List zC} (hS : Stc h) : gF h 213 7 = some (.ref 223) := hS.2 (213, 7, 223) (by decide +kernel)
theorem st_rule {h : List zC} (hS : Stc h) {i : Nat} (hi : i < 40) : gF h 29 i = some (.ref (31 + i)) := hS.2 (29, i, 31 + i) (by
  have : ∀ i, i < 40 → (29, i, 31 + i) ∈ stL := by decide +kernel
  exact this i hi)
/-- x from lo to hi -/
abbrev rI (lo hi x : Int32) : Prop := lo.toInt ≤ x.toInt ∧ x.toInt ≤ hi.toInt
def okR (p m c a b s r cnt : Int32) : Prop := (iN 6 p ∧ iN 4 m) ∧ (rI 1 15 c ∧ rI 0 63 a ∧ rI 0 63 b ∧ rI 0 0 (a &&& b) ∧ rI 0 100 s ∧ rI 1 5 r) ∧ cnt.toInt < 40
theorem in_y {x hi : Int32} {m : Int} (e : hi.toInt = m - 1) (h : ¬ inB x 0 hi = 0) : iN m x := by
  obtain ⟨h1, h2⟩ := inB_y h
  have z0 : (0 : Int32).toInt = 0 := rfl
  exact ⟨by omega, by omega⟩
theorem in_n {x hi : Int32} {m : Int} (e : hi.toInt = m - 1) (h : inB x 0 hi = 0) : ¬ iN m x := fun ⟨h1, h2⟩ => inB_n h (by
  have z0 : (0 : Int32).toInt = 0 := rfl
  omega)
theorem rI0 {x : Int32} : rI 0 0 x ↔ x = 0 := by
  have z0 : (0 : Int32).toInt = 0 := rfl
  constructor
  · intro ⟨h1, h2⟩
    exact Int32.toInt_inj.mp (by omega)
  · intro e
    subst e
    exact ⟨Int.le_refl _, Int.le_refl _⟩
theorem n40 {c : Int32} (h : c.toInt < 40) : c.toNatClampNeg < 40 := by
  show c.toInt.toNat < 40
  omega
/-- the bits of x, as Integer.bitCount counts them -/
def sh32 (x k : Int32) : Int32 := (x.toUInt32 >>> (k.toUInt32 &&& Int32.toUInt32 31)).toInt32
def bcO (i0 : Int32) : Int32 :=
  let i1 := i0 - (sh32 i0 1 &&& Int32.ofNat 1431655765)
  let i2 := (i1 &&& Int32.ofNat 858993459) + (sh32 i1 2 &&& Int32.ofNat 858993459)
  let i3 := (i2 + sh32 i2 4) &&& Int32.ofNat 252645135
  let i4 := i3 + sh32 i3 8
  (i4 + sh32 i4 16) &&& 63
/-- how many bits x has, as the reference counts them -/
def szO : Nat → Int32 → Option Int32
  | 0, _ => none
  | k + 1, x => if 0 < x then (szO k (x / 2)).map (fun s => (x - x / 2 * 2) + s) else some 0
def Psz (x s : Int32) : Prop := ∃ k, szO k x = some s
theorem Psz0 {x : Int32} (h : ¬ 0 < x) : Psz x 0 := ⟨1, by unfold szO; rw [if_neg h]⟩
theorem PszS {x s : Int32} (h : 0 < x) (q : Psz (x / 2) s) : Psz x ((x - x / 2 * 2) + s) := by
  obtain ⟨k, e⟩ := q
  exact ⟨k + 1, by unfold szO; rw [if_pos h, e]; rfl⟩
theorem szO_up : ∀ (k : Nat) (x s : Int32), szO k x = some s → szO (k + 1) x = some s
  | 0, _, _, h => by cases h
  | k + 1, x, s, h => by
    unfold szO at h ⊢
    by_cases z : 0 < x
    · rw [if_pos z] at h ⊢
      cases e : szO k (x / 2) with
      | none => rw [e] at h; cases h
      | some y =>
        rw [e] at h
        rw [szO_up k _ _ e]
        exact h
    · rw [if_neg z] at h ⊢
      exact h
theorem szO_le {k l : Nat} {x s : Int32} (h : k ≤ l) (e : szO k x = some s) : szO l x = some s := by
  obtain ⟨d, rfl⟩ := Nat.exists_eq_add_of_le h
  clear h
  induction d with
  | zero => exact e
  | succ d ih => exact szO_up _ _ _ ih
theorem Psz_det {x s t : Int32} (h1 : Psz x s) (h2 : Psz x t) : s = t := by
  obtain ⟨k, a⟩ := h1
  obtain ⟨l, b⟩ := h2
  have a := szO_le (Nat.le_max_left k l) a
  have b := szO_le (Nat.le_max_right k l) b
  rw [a] at b
  exact Option.some.inj b
def szF (x : Int32) : Int32 := (szO 7 x).getD 0
theorem szF_tab : ∀ a, a < 64 → szO 7 (Int32.ofNat a) = some (szF (Int32.ofNat a)) := by decide +kernel
theorem bc_tab : ∀ a, a < 64 → ∀ b, b < 64 → Int32.ofNat a &&& Int32.ofNat b = 0 → bcO (Int32.ofNat a ||| Int32.ofNat b) = szF (Int32.ofNat a) + szF (Int32.ofNat b) := by decide +kernel
theorem bc_sz {a b s t : Int32} (ha : rI 0 63 a) (hb : rI 0 63 b) (hab : rI 0 0 (a &&& b)) (h1 : Psz a s) (h2 : Psz b t) : bcO (a ||| b) = s + t := by
  have key : ∀ x : Int32, rI 0 63 x → ∃ n : Nat, n < 64 ∧ x = Int32.ofNat n := fun x hx => by
    obtain ⟨h3, h4⟩ := hx
    have z0 : (0 : Int32).toInt = 0 := rfl
    have z1 : (63 : Int32).toInt = 63 := rfl
    refine ⟨x.toInt.toNat, by omega, Int32.toInt_inj.mp ?_⟩
    rw [Int32.toInt_ofNat_of_lt (by omega)]
    omega
  obtain ⟨m, m1, rfl⟩ := key a ha
  obtain ⟨n, n1, rfl⟩ := key b hb
  rw [Psz_det h1 ⟨7, szF_tab m m1⟩, Psz_det h2 ⟨7, szF_tab n n1⟩]
  exact bc_tab m m1 n n1 (rI0.mp hab)
theorem cnt1 {c : Int32} (h : 0 ≤ c.toInt) : (c - 1).toInt = c.toInt - 1 := by
  have h2 := c.toInt_lt
  rw [Int32.toInt_sub]
  have z1 : (1 : Int32).toInt = 1 := rfl
  rw [z1]
  exact Int.bmod_eq_of_le (by omega) (by omega)
theorem isr_y {x c : Int32} (hc : 0 ≤ c.toInt) (h : ¬ inB x 0 (c - 1) = 0) : iN c.toInt x := by
  obtain ⟨h1, h2⟩ := inB_y h
  have z0 : (0 : Int32).toInt = 0 := rfl
  rw [cnt1 hc] at h2
  exact ⟨by omega, by omega⟩
theorem isr_n {x c : Int32} (hc : 0 ≤ c.toInt) (h : inB x 0 (c - 1) = 0) : ¬ iN c.toInt x := fun ⟨h1, h2⟩ => inB_n h (by
  have z0 : (0 : Int32).toInt = 0 := rfl
  rw [cnt1 hc]
  omega)
/-- the class' rule is sworn: its cell is P, its fields; the number of rules -/
def RM (h h2 : List zC) (P : Nat) (cnt p m c a b s r : Int32) : Prop := (∀ q k, ¬ q = P → ¬ (q = 28 ∧ k = 2) → gF h2 q k = gF h q k) ∧ gF h2 28 2 = some (.int (cnt + 1)) ∧ (gF h2 P 0 = some (.int p) ∧ gF h2 P 1 = some (.int m) ∧ gF h2 P 2 = some (.int c) ∧ gF h2 P 3 = some (.int a) ∧ gF h2 P 4 = some (.int b) ∧ gF h2 P 5 = some (.int s) ∧ gF h2 P 6 = some (.int r)) ∧
  gF h2 P 10 = some (.int (10 * bcO (a ||| b) + r)) ∧ gF h2 P 9 = gF h 16 0 ∧ gF h2 P 7 = gF h P 7 ∧ gF h2 P 8 = gF h P 8 ∧ h2.length = h.length ∧ ∀ p, gT h2 p = gT h p ∧ gN h2 p = gN h p
/-- a new rule of the reference's: its cell is q -/
def IM (h h2 : List zC) (q : Nat) (p m c a b s r d : Int32) : Prop := (∀ x k, ¬ x = q → gF h2 x k = gF h x k) ∧ (gF h2 q 0 = some (.int p) ∧ gF h2 q 1 = some (.int m) ∧ gF h2 q 2 = some (.int c) ∧ gF h2 q 3 = some (.int a) ∧ gF h2 q 4 = some (.int b) ∧ gF h2 q 5 = some (.int s) ∧ gF h2 q 6 = some (.int r) ∧ gF h2 q 7 = some (.int d)) ∧
  gF h2 q 8 = gF h q 8 ∧ gF h2 q 9 = some (.int 999) ∧ h2.length = h.length ∧ ∀ p, gT h2 p = gT h p ∧ gN h2 p = gN h p
theorem Stc.rm {h h2 : List zC} {P : Nat} {cnt p m c a b s r : Int32} (hS : Stc h) (hP : 31 ≤ P ∧ P < 71) (g : RM h h2 P cnt p m c a b s r) : Stc h2 := by
  obtain ⟨g1, -, -, -, -, -, -, g2, -⟩ := g
  refine ⟨by rw [g2]; exact hS.1, fun e he => ?_⟩
  have q := List.all_eq_true.mp (show stL.all (fun e => !(decide (31 ≤ e.1 ∧ e.1 < 71)) && !(e.1 == 28 && e.2.1 == 2)) = true by decide +kernel) e he
  obtain ⟨q1, q2⟩ := Bool.and_eq_true_iff.mp q
  have q1 : ¬ (31 ≤ e.1 ∧ e.1 < 71) := by simpa only [Bool.not_eq_true', decide_eq_false_iff_not] using q1
  rw [g1 _ _ (fun z => q1 (by omega)) (fun z => by simp [z.1, z.2] at q2)]
  exact hS.2 e he
/-- the reference's rule is sworn: a new cell q at the end of its list -/
def MM (h h2 : List zC) (el : Nat) (cnt p m c a b s r d : Int32) : Prop := ∃ q el' : Nat, h.length ≤ q ∧ gF h2 223 1 = some (.ref el') ∧ gF h2 223 2 = some (.int (cnt + 1)) ∧ (∀ k, k < cnt.toNatClampNeg → gF h2 el' k = gF h el k) ∧ gF h2 el' cnt.toNatClampNeg = some (.ref q) ∧ (el' = el ∨ h.length ≤ el') ∧ ¬ q = el' ∧
  (gF h2 q 0 = some (.int p) ∧ gF h2 q 1 = some (.int m) ∧ gF h2 q 2 = some (.int c) ∧ gF h2 q 3 = some (.int a) ∧ gF h2 q 4 = some (.int b) ∧ gF h2 q 5 = some (.int s) ∧ gF h2 q 6 = some (.int r) ∧ gF h2 q 7 = some (.int d)) ∧ gF h2 q 8 = some (.int 0) ∧ gF h2 q 9 = some (.int 999) ∧
  ¬ cnt < 0 ∧ ∀ x k, x < h.length → ¬ x = 223 → ¬ x = el → ¬ (x = 213 ∧ k = 0) → gF h2 x k = gF h x k
theorem zDef17 : (zDef 17)[8]? = some (.int 0) := by decide +kernel
theorem mm_end {h k0 k1 i1 h2 : List zC} {el : Nat} {cnt p m c a b s r d : Int32} {v : Value} (hl : 239 ≤ h.length) (hel : el < h.length) (h213 : ¬ el = 213) (t0 : hPut h k0 213 0 v) (g : vNew k0 k1 (17, zDef 17)) (im : IM k1 i1 k0.length p m c a b s r d) (ad : lAdd i1 h2 223 el cnt k0.length) : MM h h2 el cnt p m c a b s r d := by
  obtain ⟨a1, a2, a3, el', a4, a5, a6, a7, a8, a9, a10⟩ := ad
  obtain ⟨i2, i3, i4, i5, i6, i7⟩ := im
  have l0 := t0.1
  have l1 := g.len
  have key : ∀ x k, x < h.length → gF i1 x k = if x = 213 ∧ k = 0 then some v else gF h x k := fun x k hx => by
    rw [i2 x k (by omega), g.ext.fld (by omega), t0.2.1]
  have fq : ∀ k, gF h2 k0.length k = gF i1 k0.length k := fun k => a9 _ (by omega) (by omega) (by omega) k
  refine ⟨k0.length, el', by omega, a4, a5, fun k hk => ?_, a7, ?_, ?_, ?_, ?_, ?_, a1, fun x k hx x1 x2 x3 => ?_⟩
  · rw [a6 k hk, key el k hel, if_neg (fun z => h213 z.1)]
  · rcases a8 with a8 | a8
    · exact Or.inl a8
    · exact Or.inr (by omega)
  · rcases a8 with a8 | a8 <;> omega
  · simp only [fq]
    exact i3
  · rw [fq, i4, g.fld]
    exact zDef17
  · rw [fq]
    exact i5
  · rw [a9 x (by omega) x1 x2, key x k hx, if_neg x3]
theorem vr_60_0 : zrx 60 0 = some (.iload_n 1, 0, 0) := by decide +kernel
theorem vr_60_1 : zrx 60 1 = some (.bipush 6, 0, 0) := by decide +kernel
theorem vr_60_3 : zrx 60 3 = some (.invokestatic 68, 96, 0) := by decide +kernel
theorem vr_60_6 : zrx 60 6 = some (.iload_n 2, 0, 0) := by decide +kernel
theorem vr_60_7 : zrx 60 7 = some (.iconst 4, 0, 0) := by decide +kernel
theorem vr_60_8 : zrx 60 8 = some (.invokestatic 68, 96, 0) := by decide +kernel
theorem vr_60_11 : zrx 60 11 = some (.iload_n 3, 0, 0) := by decide +kernel
theorem vr_60_12 : zrx 60 12 = some (.iconst 1, 0, 0) := by decide +kernel
theorem vr_60_13 : zrx 60 13 = some (.bipush 15, 0, 0) := by decide +kernel
theorem vr_60_15 : zrx 60 15 = some (.invokestatic 72, 97, 0) := by decide +kernel
theorem vr_60_18 : zrx 60 18 = some (.iload 4, 0, 0) := by decide +kernel
theorem vr_60_20 : zrx 60 20 = some (.iconst 0, 0, 0) := by decide +kernel
theorem vr_60_21 : zrx 60 21 = some (.bipush 63, 0, 0) := by decide +kernel
theorem vr_60_23 : zrx 60 23 = some (.invokestatic 72, 97, 0) := by decide +kernel
theorem vr_60_26 : zrx 60 26 = some (.iload 5, 0, 0) := by decide +kernel
theorem vr_60_28 : zrx 60 28 = some (.iconst 0, 0, 0) := by decide +kernel
theorem vr_60_29 : zrx 60 29 = some (.bipush 63, 0, 0) := by decide +kernel
theorem vr_60_31 : zrx 60 31 = some (.invokestatic 72, 97, 0) := by decide +kernel
theorem vr_60_34 : zrx 60 34 = some (.iload 4, 0, 0) := by decide +kernel
theorem vr_60_36 : zrx 60 36 = some (.iload 5, 0, 0) := by decide +kernel
theorem vr_60_38 : zrx 60 38 = some (.iand, 0, 0) := by decide +kernel
theorem vr_60_39 : zrx 60 39 = some (.iconst 0, 0, 0) := by decide +kernel
theorem vr_60_40 : zrx 60 40 = some (.iconst 0, 0, 0) := by decide +kernel
theorem vr_60_41 : zrx 60 41 = some (.invokestatic 72, 97, 0) := by decide +kernel
theorem vr_60_44 : zrx 60 44 = some (.iload 6, 0, 0) := by decide +kernel
theorem vr_60_46 : zrx 60 46 = some (.iconst 0, 0, 0) := by decide +kernel
theorem vr_60_47 : zrx 60 47 = some (.bipush 100, 0, 0) := by decide +kernel
theorem vr_60_49 : zrx 60 49 = some (.invokestatic 72, 97, 0) := by decide +kernel
theorem vr_60_52 : zrx 60 52 = some (.iload 7, 0, 0) := by decide +kernel
theorem vr_60_54 : zrx 60 54 = some (.iconst 1, 0, 0) := by decide +kernel
theorem vr_60_55 : zrx 60 55 = some (.iconst 5, 0, 0) := by decide +kernel
theorem vr_60_56 : zrx 60 56 = some (.invokestatic 72, 97, 0) := by decide +kernel
theorem vr_60_59 : zrx 60 59 = some (.aload_n 0, 0, 0) := by decide +kernel
theorem vr_60_60 : zrx 60 60 = some (.getfield 33, 13, 9) := by decide +kernel
theorem vr_60_63 : zrx 60 63 = some (.getfield 79, 6, 2) := by decide +kernel
theorem vr_60_66 : zrx 60 66 = some (.bipush 40, 0, 0) := by decide +kernel
theorem vr_60_68 : zrx 60 68 = some (.if_icmp .ge 7, 0, 0) := by decide +kernel
theorem vr_60_71 : zrx 60 71 = some (.iconst 1, 0, 0) := by decide +kernel
theorem vr_60_72 : zrx 60 72 = some (.goto 4, 0, 0) := by decide +kernel
theorem vr_60_75 : zrx 60 75 = some (.iconst 0, 0, 0) := by decide +kernel
theorem vr_60_76 : zrx 60 76 = some (.invokestatic 83, 98, 0) := by decide +kernel
theorem vr_60_79 : zrx 60 79 = some (.aload_n 0, 0, 0) := by decide +kernel
theorem vr_60_80 : zrx 60 80 = some (.getfield 33, 13, 9) := by decide +kernel
theorem vr_60_83 : zrx 60 83 = some (.getfield 87, 6, 0) := by decide +kernel
theorem vr_60_86 : zrx 60 86 = some (.aload_n 0, 0, 0) := by decide +kernel
theorem vr_60_87 : zrx 60 87 = some (.getfield 33, 13, 9) := by decide +kernel
theorem vr_60_90 : zrx 60 90 = some (.getfield 79, 6, 2) := by decide +kernel
theorem vr_60_93 : zrx 60 93 = some (.aaload, 0, 0) := by decide +kernel
theorem vr_60_94 : zrx 60 94 = some (.astore 8, 0, 0) := by decide +kernel
theorem vr_60_96 : zrx 60 96 = some (.aload 8, 0, 0) := by decide +kernel
theorem vr_60_98 : zrx 60 98 = some (.iload_n 1, 0, 0) := by decide +kernel
theorem vr_60_99 : zrx 60 99 = some (.putfield 91, 12, 0) := by decide +kernel
theorem vr_60_102 : zrx 60 102 = some (.aload 8, 0, 0) := by decide +kernel
theorem vr_60_104 : zrx 60 104 = some (.iload_n 2, 0, 0) := by decide +kernel
theorem vr_60_105 : zrx 60 105 = some (.putfield 96, 12, 1) := by decide +kernel
theorem vr_60_108 : zrx 60 108 = some (.aload 8, 0, 0) := by decide +kernel
theorem vr_60_110 : zrx 60 110 = some (.iload_n 3, 0, 0) := by decide +kernel
theorem vr_60_111 : zrx 60 111 = some (.putfield 99, 12, 2) := by decide +kernel
theorem vr_60_114 : zrx 60 114 = some (.aload 8, 0, 0) := by decide +kernel
theorem vr_60_116 : zrx 60 116 = some (.iload 4, 0, 0) := by decide +kernel
theorem vr_60_118 : zrx 60 118 = some (.putfield 102, 12, 3) := by decide +kernel
theorem vr_60_121 : zrx 60 121 = some (.aload 8, 0, 0) := by decide +kernel
theorem vr_60_123 : zrx 60 123 = some (.iload 5, 0, 0) := by decide +kernel
theorem vr_60_125 : zrx 60 125 = some (.putfield 105, 12, 4) := by decide +kernel
theorem vr_60_128 : zrx 60 128 = some (.aload 8, 0, 0) := by decide +kernel
theorem vr_60_130 : zrx 60 130 = some (.iload 6, 0, 0) := by decide +kernel
theorem vr_60_132 : zrx 60 132 = some (.putfield 108, 12, 5) := by decide +kernel
theorem vr_60_135 : zrx 60 135 = some (.aload 8, 0, 0) := by decide +kernel
theorem vr_60_137 : zrx 60 137 = some (.iload 7, 0, 0) := by decide +kernel
theorem vr_60_139 : zrx 60 139 = some (.putfield 111, 12, 6) := by decide +kernel
theorem vr_60_142 : zrx 60 142 = some (.aload 8, 0, 0) := by decide +kernel
theorem vr_60_144 : zrx 60 144 = some (.bipush 10, 0, 0) := by decide +kernel
theorem vr_60_146 : zrx 60 146 = some (.iload 4, 0, 0) := by decide +kernel
theorem vr_60_148 : zrx 60 148 = some (.iload 5, 0, 0) := by decide +kernel
theorem vr_60_150 : zrx 60 150 = some (.ior, 0, 0) := by decide +kernel
theorem vr_60_151 : zrx 60 151 = some (.invokestatic 114, 260, 0) := by decide +kernel
theorem vr_60_154 : zrx 60 154 = some (.imul, 0, 0) := by decide +kernel
theorem vr_60_155 : zrx 60 155 = some (.iload 7, 0, 0) := by decide +kernel
theorem vr_60_157 : zrx 60 157 = some (.iadd, 0, 0) := by decide +kernel
theorem vr_60_158 : zrx 60 158 = some (.putfield 120, 12, 10) := by decide +kernel
theorem vr_60_161 : zrx 60 161 = some (.aload 8, 0, 0) := by decide +kernel
theorem vr_60_163 : zrx 60 163 = some (.aload_n 0, 0, 0) := by decide +kernel
theorem vr_60_164 : zrx 60 164 = some (.getfield 123, 13, 0) := by decide +kernel
theorem vr_60_167 : zrx 60 167 = some (.putfield 126, 12, 9) := by decide +kernel
theorem vr_60_170 : zrx 60 170 = some (.aload_n 0, 0, 0) := by decide +kernel
theorem vr_60_171 : zrx 60 171 = some (.getfield 33, 13, 9) := by decide +kernel
theorem vr_60_174 : zrx 60 174 = some (.dup, 0, 0) := by decide +kernel
theorem vr_60_175 : zrx 60 175 = some (.getfield 79, 6, 2) := by decide +kernel
theorem vr_60_178 : zrx 60 178 = some (.iconst 1, 0, 0) := by decide +kernel
theorem vr_60_179 : zrx 60 179 = some (.iadd, 0, 0) := by decide +kernel
theorem vr_60_180 : zrx 60 180 = some (.putfield 79, 6, 2) := by decide +kernel
theorem vr_60_183 : zrx 60 183 = some (.aload_n 0, 0, 0) := by decide +kernel
theorem vr_60_184 : zrx 60 184 = some (.getfield 33, 13, 9) := by decide +kernel
theorem vr_60_187 : zrx 60 187 = some (.getfield 79, 6, 2) := by decide +kernel
theorem vr_60_190 : zrx 60 190 = some (.iconst 1, 0, 0) := by decide +kernel
theorem vr_60_191 : zrx 60 191 = some (.isub, 0, 0) := by decide +kernel
theorem vr_60_192 : zrx 60 192 = some (.ireturn, 0, 0) := by decide +kernel
theorem vr_61_0 : zrx 61 0 = some (.iload_n 1, 0, 0) := by decide +kernel
theorem vr_61_1 : zrx 61 1 = some (.aload_n 0, 0, 0) := by decide +kernel
theorem vr_61_2 : zrx 61 2 = some (.getfield 33, 13, 9) := by decide +kernel
theorem vr_61_5 : zrx 61 5 = some (.getfield 79, 6, 2) := by decide +kernel
theorem vr_61_8 : zrx 61 8 = some (.invokestatic 68, 96, 0) := by decide +kernel
theorem vr_61_11 : zrx 61 11 = some (.iload_n 2, 0, 0) := by decide +kernel
theorem vr_61_12 : zrx 61 12 = some (.iconst 0, 0, 0) := by decide +kernel
theorem vr_61_13 : zrx 61 13 = some (.sipush 999, 0, 0) := by decide +kernel
theorem vr_61_16 : zrx 61 16 = some (.invokestatic 72, 97, 0) := by decide +kernel
theorem vr_61_19 : zrx 61 19 = some (.iload_n 3, 0, 0) := by decide +kernel
theorem vr_61_20 : zrx 61 20 = some (.iload_n 2, 0, 0) := by decide +kernel
theorem vr_61_21 : zrx 61 21 = some (.sipush 999, 0, 0) := by decide +kernel
theorem vr_61_24 : zrx 61 24 = some (.invokestatic 72, 97, 0) := by decide +kernel
theorem vr_61_27 : zrx 61 27 = some (.aload_n 0, 0, 0) := by decide +kernel
theorem vr_61_28 : zrx 61 28 = some (.getfield 33, 13, 9) := by decide +kernel
theorem vr_61_31 : zrx 61 31 = some (.getfield 87, 6, 0) := by decide +kernel
theorem vr_61_34 : zrx 61 34 = some (.iload_n 1, 0, 0) := by decide +kernel
theorem vr_61_35 : zrx 61 35 = some (.aaload, 0, 0) := by decide +kernel
theorem vr_61_36 : zrx 61 36 = some (.iload_n 2, 0, 0) := by decide +kernel
theorem vr_61_37 : zrx 61 37 = some (.putfield 129, 12, 7) := by decide +kernel
theorem vr_61_40 : zrx 61 40 = some (.aload_n 0, 0, 0) := by decide +kernel
theorem vr_61_41 : zrx 61 41 = some (.getfield 33, 13, 9) := by decide +kernel
theorem vr_61_44 : zrx 61 44 = some (.getfield 87, 6, 0) := by decide +kernel
theorem vr_61_47 : zrx 61 47 = some (.iload_n 1, 0, 0) := by decide +kernel
theorem vr_61_48 : zrx 61 48 = some (.aaload, 0, 0) := by decide +kernel
theorem vr_61_49 : zrx 61 49 = some (.iload_n 3, 0, 0) := by decide +kernel
theorem vr_61_50 : zrx 61 50 = some (.putfield 132, 12, 8) := by decide +kernel
theorem vr_61_53 : zrx 61 53 = some (.aload_n 0, 0, 0) := by decide +kernel
theorem vr_61_54 : zrx 61 54 = some (.getfield 33, 13, 9) := by decide +kernel
theorem vr_61_57 : zrx 61 57 = some (.getfield 87, 6, 0) := by decide +kernel
theorem vr_61_60 : zrx 61 60 = some (.iload_n 1, 0, 0) := by decide +kernel
theorem vr_61_61 : zrx 61 61 = some (.aaload, 0, 0) := by decide +kernel
theorem vr_61_62 : zrx 61 62 = some (.getfield 120, 12, 10) := by decide +kernel
theorem vr_61_65 : zrx 61 65 = some (.ireturn, 0, 0) := by decide +kernel
theorem vr_126_0 : zrx 126 0 = some (.aload_n 0, 0, 0) := by decide +kernel
theorem vr_126_1 : zrx 126 1 = some (.invokespecial 1, 0, 6) := by decide +kernel
theorem vr_126_4 : zrx 126 4 = some (.aload_n 0, 0, 0) := by decide +kernel
theorem vr_126_5 : zrx 126 5 = some (.sipush 999, 0, 0) := by decide +kernel
theorem vr_126_8 : zrx 126 8 = some (.putfield 7, 17, 9) := by decide +kernel
theorem vr_126_11 : zrx 126 11 = some (.aload_n 0, 0, 0) := by decide +kernel
theorem vr_126_12 : zrx 126 12 = some (.iload_n 1, 0, 0) := by decide +kernel
theorem vr_126_13 : zrx 126 13 = some (.putfield 13, 17, 0) := by decide +kernel
theorem vr_126_16 : zrx 126 16 = some (.aload_n 0, 0, 0) := by decide +kernel
theorem vr_126_17 : zrx 126 17 = some (.iload_n 2, 0, 0) := by decide +kernel
theorem vr_126_18 : zrx 126 18 = some (.putfield 16, 17, 1) := by decide +kernel
theorem vr_126_21 : zrx 126 21 = some (.aload_n 0, 0, 0) := by decide +kernel
theorem vr_126_22 : zrx 126 22 = some (.iload_n 3, 0, 0) := by decide +kernel
theorem vr_126_23 : zrx 126 23 = some (.putfield 19, 17, 2) := by decide +kernel
theorem vr_126_26 : zrx 126 26 = some (.aload_n 0, 0, 0) := by decide +kernel
theorem vr_126_27 : zrx 126 27 = some (.iload 4, 0, 0) := by decide +kernel
theorem vr_126_29 : zrx 126 29 = some (.putfield 22, 17, 3) := by decide +kernel
theorem vr_126_32 : zrx 126 32 = some (.aload_n 0, 0, 0) := by decide +kernel
theorem vr_126_33 : zrx 126 33 = some (.iload 5, 0, 0) := by decide +kernel
theorem vr_126_35 : zrx 126 35 = some (.putfield 25, 17, 4) := by decide +kernel
theorem vr_126_38 : zrx 126 38 = some (.aload_n 0, 0, 0) := by decide +kernel
theorem vr_126_39 : zrx 126 39 = some (.iload 6, 0, 0) := by decide +kernel
theorem vr_126_41 : zrx 126 41 = some (.putfield 28, 17, 5) := by decide +kernel
theorem vr_126_44 : zrx 126 44 = some (.aload_n 0, 0, 0) := by decide +kernel
theorem vr_126_45 : zrx 126 45 = some (.iload 7, 0, 0) := by decide +kernel
theorem vr_126_47 : zrx 126 47 = some (.putfield 31, 17, 6) := by decide +kernel
theorem vr_126_50 : zrx 126 50 = some (.aload_n 0, 0, 0) := by decide +kernel
theorem vr_126_51 : zrx 126 51 = some (.iload 8, 0, 0) := by decide +kernel
theorem vr_126_53 : zrx 126 53 = some (.putfield 34, 17, 7) := by decide +kernel
theorem vr_126_56 : zrx 126 56 = some (.return_, 0, 0) := by decide +kernel
theorem vr_127_0 : zrx 127 0 = some (.bipush 10, 0, 0) := by decide +kernel
theorem vr_127_2 : zrx 127 2 = some (.aload_n 0, 0, 0) := by decide +kernel
theorem vr_127_3 : zrx 127 3 = some (.getfield 22, 17, 3) := by decide +kernel
theorem vr_127_6 : zrx 127 6 = some (.invokestatic 37, 134, 1) := by decide +kernel
theorem vr_127_9 : zrx 127 9 = some (.aload_n 0, 0, 0) := by decide +kernel
theorem vr_127_10 : zrx 127 10 = some (.getfield 25, 17, 4) := by decide +kernel
theorem vr_127_13 : zrx 127 13 = some (.invokestatic 37, 134, 1) := by decide +kernel
theorem vr_127_16 : zrx 127 16 = some (.iadd, 0, 0) := by decide +kernel
theorem vr_127_17 : zrx 127 17 = some (.imul, 0, 0) := by decide +kernel
theorem vr_127_18 : zrx 127 18 = some (.aload_n 0, 0, 0) := by decide +kernel
theorem vr_127_19 : zrx 127 19 = some (.getfield 31, 17, 6) := by decide +kernel
theorem vr_127_22 : zrx 127 22 = some (.iadd, 0, 0) := by decide +kernel
theorem vr_127_23 : zrx 127 23 = some (.ireturn, 0, 0) := by decide +kernel
theorem vr_134_0 : zrx 134 0 = some (.iconst 0, 0, 0) := by decide +kernel
theorem vr_134_1 : zrx 134 1 = some (.istore_n 1, 0, 0) := by decide +kernel
theorem vr_134_2 : zrx 134 2 = some (.iload_n 0, 0, 0) := by decide +kernel
theorem vr_134_3 : zrx 134 3 = some (.istore_n 2, 0, 0) := by decide +kernel
theorem vr_134_4 : zrx 134 4 = some (.iload_n 2, 0, 0) := by decide +kernel
theorem vr_134_5 : zrx 134 5 = some (.ifCond .le 16, 0, 0) := by decide +kernel
theorem vr_134_8 : zrx 134 8 = some (.iload_n 1, 0, 0) := by decide +kernel
theorem vr_134_9 : zrx 134 9 = some (.iload_n 2, 0, 0) := by decide +kernel
theorem vr_134_10 : zrx 134 10 = some (.iconst 2, 0, 0) := by decide +kernel
theorem vr_134_11 : zrx 134 11 = some (.irem, 0, 0) := by decide +kernel
theorem vr_134_12 : zrx 134 12 = some (.iadd, 0, 0) := by decide +kernel
theorem vr_134_13 : zrx 134 13 = some (.istore_n 1, 0, 0) := by decide +kernel
theorem vr_134_14 : zrx 134 14 = some (.iload_n 2, 0, 0) := by decide +kernel
theorem vr_134_15 : zrx 134 15 = some (.iconst 2, 0, 0) := by decide +kernel
theorem vr_134_16 : zrx 134 16 = some (.idiv, 0, 0) := by decide +kernel
theorem vr_134_17 : zrx 134 17 = some (.istore_n 2, 0, 0) := by decide +kernel
theorem vr_134_18 : zrx 134 18 = some (.goto (-14), 0, 0) := by decide +kernel
theorem vr_134_21 : zrx 134 21 = some (.iload_n 1, 0, 0) := by decide +kernel
theorem vr_134_22 : zrx 134 22 = some (.ireturn, 0, 0) := by decide +kernel
theorem vr_153_0 : zrx 153 0 = some (.aload_n 0, 0, 0) := by decide +kernel
theorem vr_153_1 : zrx 153 1 = some (.iconst 0, 0, 0) := by decide +kernel
theorem vr_153_2 : zrx 153 2 = some (.putfield 55, 18, 0) := by decide +kernel
theorem vr_153_5 : zrx 153 5 = some (.iload_n 1, 0, 0) := by decide +kernel
theorem vr_153_6 : zrx 153 6 = some (.iconst 0, 0, 0) := by decide +kernel
theorem vr_153_7 : zrx 153 7 = some (.iconst 5, 0, 0) := by decide +kernel
theorem vr_153_8 : zrx 153 8 = some (.invokestatic 209, 132, 0) := by decide +kernel
theorem vr_153_11 : zrx 153 11 = some (.ifCond .eq 12, 0, 0) := by decide +kernel
theorem vr_153_14 : zrx 153 14 = some (.iload_n 2, 0, 0) := by decide +kernel
theorem vr_153_15 : zrx 153 15 = some (.iconst 0, 0, 0) := by decide +kernel
theorem vr_153_16 : zrx 153 16 = some (.iconst 3, 0, 0) := by decide +kernel
theorem vr_153_17 : zrx 153 17 = some (.invokestatic 209, 132, 0) := by decide +kernel
theorem vr_153_20 : zrx 153 20 = some (.ifCond .ne 9, 0, 0) := by decide +kernel
theorem vr_153_23 : zrx 153 23 = some (.aload_n 0, 0, 0) := by decide +kernel
theorem vr_153_24 : zrx 153 24 = some (.iconst 1, 0, 0) := by decide +kernel
theorem vr_153_25 : zrx 153 25 = some (.invokevirtual 212, 131, 190) := by decide +kernel
theorem vr_153_28 : zrx 153 28 = some (.ireturn, 0, 0) := by decide +kernel
theorem vr_153_29 : zrx 153 29 = some (.iload_n 3, 0, 0) := by decide +kernel
theorem vr_153_30 : zrx 153 30 = some (.iconst 1, 0, 0) := by decide +kernel
theorem vr_153_31 : zrx 153 31 = some (.bipush 15, 0, 0) := by decide +kernel
theorem vr_153_33 : zrx 153 33 = some (.invokestatic 209, 132, 0) := by decide +kernel
theorem vr_153_36 : zrx 153 36 = some (.ifCond .eq 54, 0, 0) := by decide +kernel
theorem vr_153_39 : zrx 153 39 = some (.iload 4, 0, 0) := by decide +kernel
theorem vr_153_41 : zrx 153 41 = some (.iconst 0, 0, 0) := by decide +kernel
theorem vr_153_42 : zrx 153 42 = some (.bipush 63, 0, 0) := by decide +kernel
theorem vr_153_44 : zrx 153 44 = some (.invokestatic 209, 132, 0) := by decide +kernel
theorem vr_153_47 : zrx 153 47 = some (.ifCond .eq 43, 0, 0) := by decide +kernel
theorem vr_153_50 : zrx 153 50 = some (.iload 5, 0, 0) := by decide +kernel
theorem vr_153_52 : zrx 153 52 = some (.iconst 0, 0, 0) := by decide +kernel
theorem vr_153_53 : zrx 153 53 = some (.bipush 63, 0, 0) := by decide +kernel
theorem vr_153_55 : zrx 153 55 = some (.invokestatic 209, 132, 0) := by decide +kernel
theorem vr_153_58 : zrx 153 58 = some (.ifCond .eq 32, 0, 0) := by decide +kernel
theorem vr_153_61 : zrx 153 61 = some (.iload 4, 0, 0) := by decide +kernel
theorem vr_153_63 : zrx 153 63 = some (.iload 5, 0, 0) := by decide +kernel
theorem vr_153_65 : zrx 153 65 = some (.iand, 0, 0) := by decide +kernel
theorem vr_153_66 : zrx 153 66 = some (.ifCond .ne 24, 0, 0) := by decide +kernel
theorem vr_153_69 : zrx 153 69 = some (.iload 6, 0, 0) := by decide +kernel
theorem vr_153_71 : zrx 153 71 = some (.iconst 0, 0, 0) := by decide +kernel
theorem vr_153_72 : zrx 153 72 = some (.bipush 100, 0, 0) := by decide +kernel
theorem vr_153_74 : zrx 153 74 = some (.invokestatic 209, 132, 0) := by decide +kernel
theorem vr_153_77 : zrx 153 77 = some (.ifCond .eq 13, 0, 0) := by decide +kernel
theorem vr_153_80 : zrx 153 80 = some (.iload 7, 0, 0) := by decide +kernel
theorem vr_153_82 : zrx 153 82 = some (.iconst 1, 0, 0) := by decide +kernel
theorem vr_153_83 : zrx 153 83 = some (.iconst 5, 0, 0) := by decide +kernel
theorem vr_153_84 : zrx 153 84 = some (.invokestatic 209, 132, 0) := by decide +kernel
theorem vr_153_87 : zrx 153 87 = some (.ifCond .ne 9, 0, 0) := by decide +kernel
theorem vr_153_90 : zrx 153 90 = some (.aload_n 0, 0, 0) := by decide +kernel
theorem vr_153_91 : zrx 153 91 = some (.iconst 2, 0, 0) := by decide +kernel
theorem vr_153_92 : zrx 153 92 = some (.invokevirtual 212, 131, 190) := by decide +kernel
theorem vr_153_95 : zrx 153 95 = some (.ireturn, 0, 0) := by decide +kernel
theorem vr_153_96 : zrx 153 96 = some (.aload_n 0, 0, 0) := by decide +kernel
theorem vr_153_97 : zrx 153 97 = some (.getfield 24, 18, 7) := by decide +kernel
theorem vr_153_100 : zrx 153 100 = some (.invokeinterface 59 1, 304, 35) := by decide +kernel
theorem vr_153_105 : zrx 153 105 = some (.bipush 40, 0, 0) := by decide +kernel
theorem vr_153_107 : zrx 153 107 = some (.if_icmp .ne 9, 0, 0) := by decide +kernel
theorem vr_153_110 : zrx 153 110 = some (.aload_n 0, 0, 0) := by decide +kernel
theorem vr_153_111 : zrx 153 111 = some (.iconst 3, 0, 0) := by decide +kernel
theorem vr_153_112 : zrx 153 112 = some (.invokevirtual 212, 131, 190) := by decide +kernel
theorem vr_153_115 : zrx 153 115 = some (.ireturn, 0, 0) := by decide +kernel
theorem vr_153_116 : zrx 153 116 = some (.aload_n 0, 0, 0) := by decide +kernel
theorem vr_153_117 : zrx 153 117 = some (.getfield 24, 18, 7) := by decide +kernel
theorem vr_153_120 : zrx 153 120 = some (.new 69, 17, 0) := by decide +kernel
theorem vr_153_123 : zrx 153 123 = some (.dup, 0, 0) := by decide +kernel
theorem vr_153_124 : zrx 153 124 = some (.iload_n 1, 0, 0) := by decide +kernel
theorem vr_153_125 : zrx 153 125 = some (.iload_n 2, 0, 0) := by decide +kernel
theorem vr_153_126 : zrx 153 126 = some (.iload_n 3, 0, 0) := by decide +kernel
theorem vr_153_127 : zrx 153 127 = some (.iload 4, 0, 0) := by decide +kernel
theorem vr_153_129 : zrx 153 129 = some (.iload 5, 0, 0) := by decide +kernel
theorem vr_153_131 : zrx 153 131 = some (.iload 6, 0, 0) := by decide +kernel
theorem vr_153_133 : zrx 153 133 = some (.iload 7, 0, 0) := by decide +kernel
theorem vr_153_135 : zrx 153 135 = some (.aload_n 0, 0, 0) := by decide +kernel
theorem vr_153_136 : zrx 153 136 = some (.getfield 215, 18, 1) := by decide +kernel
theorem vr_153_139 : zrx 153 139 = some (.invokespecial 216, 126, 180) := by decide +kernel
theorem vr_153_142 : zrx 153 142 = some (.invokeinterface 219 2, 309, 35) := by decide +kernel
theorem vr_153_147 : zrx 153 147 = some (.pop, 0, 0) := by decide +kernel
theorem vr_153_148 : zrx 153 148 = some (.aload_n 0, 0, 0) := by decide +kernel
theorem vr_153_149 : zrx 153 149 = some (.getfield 24, 18, 7) := by decide +kernel
theorem vr_153_152 : zrx 153 152 = some (.invokeinterface 59 1, 304, 35) := by decide +kernel
theorem vr_153_157 : zrx 153 157 = some (.iconst 1, 0, 0) := by decide +kernel
theorem vr_153_158 : zrx 153 158 = some (.isub, 0, 0) := by decide +kernel
theorem vr_153_159 : zrx 153 159 = some (.ireturn, 0, 0) := by decide +kernel
theorem vr_154_0 : zrx 154 0 = some (.iload_n 1, 0, 0) := by decide +kernel
theorem vr_154_1 : zrx 154 1 = some (.iconst 0, 0, 0) := by decide +kernel
theorem vr_154_2 : zrx 154 2 = some (.aload_n 0, 0, 0) := by decide +kernel
theorem vr_154_3 : zrx 154 3 = some (.getfield 24, 18, 7) := by decide +kernel
theorem vr_154_6 : zrx 154 6 = some (.invokeinterface 59 1, 304, 35) := by decide +kernel
theorem vr_154_11 : zrx 154 11 = some (.iconst 1, 0, 0) := by decide +kernel
theorem vr_154_12 : zrx 154 12 = some (.isub, 0, 0) := by decide +kernel
theorem vr_154_13 : zrx 154 13 = some (.invokestatic 209, 132, 0) := by decide +kernel
theorem vr_154_16 : zrx 154 16 = some (.ireturn, 0, 0) := by decide +kernel
theorem vr_155_0 : zrx 155 0 = some (.aload_n 0, 0, 0) := by decide +kernel
theorem vr_155_1 : zrx 155 1 = some (.iconst 0, 0, 0) := by decide +kernel
theorem vr_155_2 : zrx 155 2 = some (.putfield 55, 18, 0) := by decide +kernel
theorem vr_155_5 : zrx 155 5 = some (.aload_n 0, 0, 0) := by decide +kernel
theorem vr_155_6 : zrx 155 6 = some (.iload_n 1, 0, 0) := by decide +kernel
theorem vr_155_7 : zrx 155 7 = some (.invokevirtual 223, 154, 190) := by decide +kernel
theorem vr_155_10 : zrx 155 10 = some (.ifCond .ne 9, 0, 0) := by decide +kernel
theorem vr_155_13 : zrx 155 13 = some (.aload_n 0, 0, 0) := by decide +kernel
theorem vr_155_14 : zrx 155 14 = some (.iconst 1, 0, 0) := by decide +kernel
theorem vr_155_15 : zrx 155 15 = some (.invokevirtual 212, 131, 190) := by decide +kernel
theorem vr_155_18 : zrx 155 18 = some (.ireturn, 0, 0) := by decide +kernel
theorem vr_155_19 : zrx 155 19 = some (.iload_n 2, 0, 0) := by decide +kernel
theorem vr_155_20 : zrx 155 20 = some (.iconst 0, 0, 0) := by decide +kernel
theorem vr_155_21 : zrx 155 21 = some (.sipush 999, 0, 0) := by decide +kernel
theorem vr_155_24 : zrx 155 24 = some (.invokestatic 209, 132, 0) := by decide +kernel
theorem vr_155_27 : zrx 155 27 = some (.ifCond .eq 14, 0, 0) := by decide +kernel
theorem vr_155_30 : zrx 155 30 = some (.iload_n 3, 0, 0) := by decide +kernel
theorem vr_155_31 : zrx 155 31 = some (.iload_n 2, 0, 0) := by decide +kernel
theorem vr_155_32 : zrx 155 32 = some (.sipush 999, 0, 0) := by decide +kernel
theorem vr_155_35 : zrx 155 35 = some (.invokestatic 209, 132, 0) := by decide +kernel
theorem vr_155_38 : zrx 155 38 = some (.ifCond .ne 9, 0, 0) := by decide +kernel
theorem vr_155_41 : zrx 155 41 = some (.aload_n 0, 0, 0) := by decide +kernel
theorem vr_155_42 : zrx 155 42 = some (.iconst 2, 0, 0) := by decide +kernel
theorem vr_155_43 : zrx 155 43 = some (.invokevirtual 212, 131, 190) := by decide +kernel
theorem vr_155_46 : zrx 155 46 = some (.ireturn, 0, 0) := by decide +kernel
theorem vr_155_47 : zrx 155 47 = some (.aload_n 0, 0, 0) := by decide +kernel
theorem vr_155_48 : zrx 155 48 = some (.getfield 24, 18, 7) := by decide +kernel
theorem vr_155_51 : zrx 155 51 = some (.iload_n 1, 0, 0) := by decide +kernel
theorem vr_155_52 : zrx 155 52 = some (.invokeinterface 65 2, 306, 35) := by decide +kernel
theorem vr_155_57 : zrx 155 57 = some (.checkcast 69, 17, 0) := by decide +kernel
theorem vr_155_60 : zrx 155 60 = some (.iload_n 2, 0, 0) := by decide +kernel
theorem vr_155_61 : zrx 155 61 = some (.putfield 226, 17, 8) := by decide +kernel
theorem vr_155_64 : zrx 155 64 = some (.aload_n 0, 0, 0) := by decide +kernel
theorem vr_155_65 : zrx 155 65 = some (.getfield 24, 18, 7) := by decide +kernel
theorem vr_155_68 : zrx 155 68 = some (.iload_n 1, 0, 0) := by decide +kernel
theorem vr_155_69 : zrx 155 69 = some (.invokeinterface 65 2, 306, 35) := by decide +kernel
theorem vr_155_74 : zrx 155 74 = some (.checkcast 69, 17, 0) := by decide +kernel
theorem vr_155_77 : zrx 155 77 = some (.iload_n 3, 0, 0) := by decide +kernel
theorem vr_155_78 : zrx 155 78 = some (.putfield 229, 17, 9) := by decide +kernel
theorem vr_155_81 : zrx 155 81 = some (.aload_n 0, 0, 0) := by decide +kernel
theorem vr_155_82 : zrx 155 82 = some (.getfield 24, 18, 7) := by decide +kernel
theorem vr_155_85 : zrx 155 85 = some (.iload_n 1, 0, 0) := by decide +kernel
theorem vr_155_86 : zrx 155 86 = some (.invokeinterface 65 2, 306, 35) := by decide +kernel
theorem vr_155_91 : zrx 155 91 = some (.checkcast 69, 17, 0) := by decide +kernel
theorem vr_155_94 : zrx 155 94 = some (.invokevirtual 78, 127, 180) := by decide +kernel
theorem vr_155_97 : zrx 155 97 = some (.ireturn, 0, 0) := by decide +kernel
theorem vr_211_0 : zrx 211 0 = some (.aload 8, 0, 0) := by decide +kernel
theorem vr_211_2 : zrx 211 2 = some (.aload_n 0, 0, 0) := by decide +kernel
theorem vr_211_3 : zrx 211 3 = some (.iload_n 1, 0, 0) := by decide +kernel
theorem vr_211_4 : zrx 211 4 = some (.iload_n 2, 0, 0) := by decide +kernel
theorem vr_211_5 : zrx 211 5 = some (.iload_n 3, 0, 0) := by decide +kernel
theorem vr_211_6 : zrx 211 6 = some (.iload 4, 0, 0) := by decide +kernel
theorem vr_211_8 : zrx 211 8 = some (.iload 5, 0, 0) := by decide +kernel
theorem vr_211_10 : zrx 211 10 = some (.iload 6, 0, 0) := by decide +kernel
theorem vr_211_12 : zrx 211 12 = some (.iload 7, 0, 0) := by decide +kernel
theorem vr_211_14 : zrx 211 14 = some (.invokevirtual 30, 60, 140) := by decide +kernel
theorem vr_211_17 : zrx 211 17 = some (.i2l, 0, 0) := by decide +kernel
theorem vr_211_18 : zrx 211 18 = some (.putfield 13, 14, 1000) := by decide +kernel
theorem vr_211_21 : zrx 211 21 = some (.goto 15, 0, 0) := by decide +kernel
theorem vr_211_24 : zrx 211 24 = some (.astore 9, 0, 0) := by decide +kernel
theorem vr_211_26 : zrx 211 26 = some (.iconst 1, 0, 0) := by decide +kernel
theorem vr_211_27 : zrx 211 27 = some (.ireturn, 0, 0) := by decide +kernel
theorem vr_211_28 : zrx 211 28 = some (.astore 9, 0, 0) := by decide +kernel
theorem vr_211_30 : zrx 211 30 = some (.iconst 2, 0, 0) := by decide +kernel
theorem vr_211_31 : zrx 211 31 = some (.ireturn, 0, 0) := by decide +kernel
theorem vr_211_32 : zrx 211 32 = some (.astore 9, 0, 0) := by decide +kernel
theorem vr_211_34 : zrx 211 34 = some (.iconst 3, 0, 0) := by decide +kernel
theorem vr_211_35 : zrx 211 35 = some (.ireturn, 0, 0) := by decide +kernel
theorem vr_211_36 : zrx 211 36 = some (.iconst 0, 0, 0) := by decide +kernel
theorem vr_211_37 : zrx 211 37 = some (.ireturn, 0, 0) := by decide +kernel
theorem vr_212_0 : zrx 212 0 = some (.aload 4, 0, 0) := by decide +kernel
theorem vr_212_2 : zrx 212 2 = some (.aload_n 0, 0, 0) := by decide +kernel
theorem vr_212_3 : zrx 212 3 = some (.iload_n 1, 0, 0) := by decide +kernel
theorem vr_212_4 : zrx 212 4 = some (.iload_n 2, 0, 0) := by decide +kernel
theorem vr_212_5 : zrx 212 5 = some (.iload_n 3, 0, 0) := by decide +kernel
theorem vr_212_6 : zrx 212 6 = some (.invokevirtual 36, 61, 140) := by decide +kernel
theorem vr_212_9 : zrx 212 9 = some (.i2l, 0, 0) := by decide +kernel
theorem vr_212_10 : zrx 212 10 = some (.putfield 13, 14, 1000) := by decide +kernel
theorem vr_212_13 : zrx 212 13 = some (.goto 11, 0, 0) := by decide +kernel
theorem vr_212_16 : zrx 212 16 = some (.astore 5, 0, 0) := by decide +kernel
theorem vr_212_18 : zrx 212 18 = some (.iconst 1, 0, 0) := by decide +kernel
theorem vr_212_19 : zrx 212 19 = some (.ireturn, 0, 0) := by decide +kernel
theorem vr_212_20 : zrx 212 20 = some (.astore 5, 0, 0) := by decide +kernel
theorem vr_212_22 : zrx 212 22 = some (.iconst 2, 0, 0) := by decide +kernel
theorem vr_212_23 : zrx 212 23 = some (.ireturn, 0, 0) := by decide +kernel
theorem vr_212_24 : zrx 212 24 = some (.iconst 0, 0, 0) := by decide +kernel
theorem vr_212_25 : zrx 212 25 = some (.ireturn, 0, 0) := by decide +kernel
theorem vr_260_0 : zrx 260 0 = some (.iload_n 0, 0, 0) := by decide +kernel
theorem vr_260_1 : zrx 260 1 = some (.iload_n 0, 0, 0) := by decide +kernel
theorem vr_260_2 : zrx 260 2 = some (.iconst 1, 0, 0) := by decide +kernel
theorem vr_260_3 : zrx 260 3 = some (.iushr, 0, 0) := by decide +kernel
theorem vr_260_4 : zrx 260 4 = some (.ldc_w 265, 1431655765, 0) := by decide +kernel
theorem vr_260_7 : zrx 260 7 = some (.iand, 0, 0) := by decide +kernel
theorem vr_260_8 : zrx 260 8 = some (.isub, 0, 0) := by decide +kernel
theorem vr_260_9 : zrx 260 9 = some (.istore_n 0, 0, 0) := by decide +kernel
theorem vr_260_10 : zrx 260 10 = some (.iload_n 0, 0, 0) := by decide +kernel
theorem vr_260_11 : zrx 260 11 = some (.ldc_w 266, 858993459, 0) := by decide +kernel
theorem vr_260_14 : zrx 260 14 = some (.iand, 0, 0) := by decide +kernel
theorem vr_260_15 : zrx 260 15 = some (.iload_n 0, 0, 0) := by decide +kernel
theorem vr_260_16 : zrx 260 16 = some (.iconst 2, 0, 0) := by decide +kernel
theorem vr_260_17 : zrx 260 17 = some (.iushr, 0, 0) := by decide +kernel
theorem vr_260_18 : zrx 260 18 = some (.ldc_w 266, 858993459, 0) := by decide +kernel
theorem vr_260_21 : zrx 260 21 = some (.iand, 0, 0) := by decide +kernel
theorem vr_260_22 : zrx 260 22 = some (.iadd, 0, 0) := by decide +kernel
theorem vr_260_23 : zrx 260 23 = some (.istore_n 0, 0, 0) := by decide +kernel
theorem vr_260_24 : zrx 260 24 = some (.iload_n 0, 0, 0) := by decide +kernel
theorem vr_260_25 : zrx 260 25 = some (.iload_n 0, 0, 0) := by decide +kernel
theorem vr_260_26 : zrx 260 26 = some (.iconst 4, 0, 0) := by decide +kernel
theorem vr_260_27 : zrx 260 27 = some (.iushr, 0, 0) := by decide +kernel
theorem vr_260_28 : zrx 260 28 = some (.iadd, 0, 0) := by decide +kernel
theorem vr_260_29 : zrx 260 29 = some (.ldc_w 267, 252645135, 0) := by decide +kernel
theorem vr_260_32 : zrx 260 32 = some (.iand, 0, 0) := by decide +kernel
theorem vr_260_33 : zrx 260 33 = some (.istore_n 0, 0, 0) := by decide +kernel
theorem vr_260_34 : zrx 260 34 = some (.iload_n 0, 0, 0) := by decide +kernel
theorem vr_260_35 : zrx 260 35 = some (.iload_n 0, 0, 0) := by decide +kernel
theorem vr_260_36 : zrx 260 36 = some (.bipush 8, 0, 0) := by decide +kernel
theorem vr_260_38 : zrx 260 38 = some (.iushr, 0, 0) := by decide +kernel
theorem vr_260_39 : zrx 260 39 = some (.iadd, 0, 0) := by decide +kernel
theorem vr_260_40 : zrx 260 40 = some (.istore_n 0, 0, 0) := by decide +kernel
theorem vr_260_41 : zrx 260 41 = some (.iload_n 0, 0, 0) := by decide +kernel
theorem vr_260_42 : zrx 260 42 = some (.iload_n 0, 0, 0) := by decide +kernel
theorem vr_260_43 : zrx 260 43 = some (.bipush 16, 0, 0) := by decide +kernel
theorem vr_260_45 : zrx 260 45 = some (.iushr, 0, 0) := by decide +kernel
theorem vr_260_46 : zrx 260 46 = some (.iadd, 0, 0) := by decide +kernel
theorem vr_260_47 : zrx 260 47 = some (.istore_n 0, 0, 0) := by decide +kernel
theorem vr_260_48 : zrx 260 48 = some (.iload_n 0, 0, 0) := by decide +kernel
theorem vr_260_49 : zrx 260 49 = some (.bipush 63, 0, 0) := by decide +kernel
theorem vr_260_51 : zrx 260 51 = some (.iand, 0, 0) := by decide +kernel
theorem vr_260_52 : zrx 260 52 = some (.ireturn, 0, 0) := by decide +kernel
theorem vr_261_0 : zrx 261 0 = some (.iload_n 0, 0, 0) := by decide +kernel
theorem vr_261_1 : zrx 261 1 = some (.iload_n 1, 0, 0) := by decide +kernel
theorem vr_261_2 : zrx 261 2 = some (.if_icmp .lt 7, 0, 0) := by decide +kernel
theorem vr_261_5 : zrx 261 5 = some (.iload_n 0, 0, 0) := by decide +kernel
theorem vr_261_6 : zrx 261 6 = some (.goto 4, 0, 0) := by decide +kernel
theorem vr_261_9 : zrx 261 9 = some (.iload_n 1, 0, 0) := by decide +kernel
theorem vr_261_10 : zrx 261 10 = some (.ireturn, 0, 0) := by decide +kernel
theorem vr_262_0 : zrx 262 0 = some (.iload_n 0, 0, 0) := by decide +kernel
theorem vr_262_1 : zrx 262 1 = some (.iload_n 1, 0, 0) := by decide +kernel
theorem vr_262_2 : zrx 262 2 = some (.if_icmp .gt 7, 0, 0) := by decide +kernel
theorem vr_262_5 : zrx 262 5 = some (.iload_n 0, 0, 0) := by decide +kernel
theorem vr_262_6 : zrx 262 6 = some (.goto 4, 0, 0) := by decide +kernel
theorem vr_262_9 : zrx 262 9 = some (.iload_n 1, 0, 0) := by decide +kernel
theorem vr_262_10 : zrx 262 10 = some (.ireturn, 0, 0) := by decide +kernel
theorem vr_302_0 : zrx 302 0 = some (.aload_n 0, 0, 0) := by decide +kernel
theorem vr_302_1 : zrx 302 1 = some (.getfield 9, 2, 1) := by decide +kernel
theorem vr_302_4 : zrx 302 4 = some (.arraylength, 0, 0) := by decide +kernel
theorem vr_302_5 : zrx 302 5 = some (.istore_n 2, 0, 0) := by decide +kernel
theorem vr_302_6 : zrx 302 6 = some (.iload_n 2, 0, 0) := by decide +kernel
theorem vr_302_7 : zrx 302 7 = some (.ifCond .gt 13, 0, 0) := by decide +kernel
theorem vr_302_10 : zrx 302 10 = some (.aload_n 0, 0, 0) := by decide +kernel
theorem vr_302_11 : zrx 302 11 = some (.getfield 9, 2, 1) := by decide +kernel
theorem vr_302_14 : zrx 302 14 = some (.getstatic 39, 4, 3) := by decide +kernel
theorem vr_302_17 : zrx 302 17 = some (.if_acmp .eq 28, 0, 5000) := by decide +kernel
theorem vr_302_20 : zrx 302 20 = some (.iload_n 2, 0, 0) := by decide +kernel
theorem vr_302_21 : zrx 302 21 = some (.iload_n 1, 0, 0) := by decide +kernel
theorem vr_302_22 : zrx 302 22 = some (.iload_n 2, 0, 0) := by decide +kernel
theorem vr_302_23 : zrx 302 23 = some (.isub, 0, 0) := by decide +kernel
theorem vr_302_24 : zrx 302 24 = some (.iload_n 2, 0, 0) := by decide +kernel
theorem vr_302_25 : zrx 302 25 = some (.iconst 1, 0, 0) := by decide +kernel
theorem vr_302_26 : zrx 302 26 = some (.ishr, 0, 0) := by decide +kernel
theorem vr_302_27 : zrx 302 27 = some (.invokestatic 73, 317, 0) := by decide +kernel
theorem vr_302_30 : zrx 302 30 = some (.istore_n 3, 0, 0) := by decide +kernel
theorem vr_302_31 : zrx 302 31 = some (.aload_n 0, 0, 0) := by decide +kernel
theorem vr_302_32 : zrx 302 32 = some (.aload_n 0, 0, 0) := by decide +kernel
theorem vr_302_33 : zrx 302 33 = some (.getfield 9, 2, 1) := by decide +kernel
theorem vr_302_36 : zrx 302 36 = some (.iload_n 3, 0, 0) := by decide +kernel
theorem vr_302_37 : zrx 302 37 = some (.invokestatic 66, 310, 0) := by decide +kernel
theorem vr_302_40 : zrx 302 40 = some (.dup_x1, 0, 0) := by decide +kernel
theorem vr_302_41 : zrx 302 41 = some (.putfield 9, 2, 1) := by decide +kernel
theorem vr_302_44 : zrx 302 44 = some (.areturn, 0, 0) := by decide +kernel
theorem vr_302_45 : zrx 302 45 = some (.aload_n 0, 0, 0) := by decide +kernel
theorem vr_302_46 : zrx 302 46 = some (.bipush 10, 0, 0) := by decide +kernel
theorem vr_302_48 : zrx 302 48 = some (.iload_n 1, 0, 0) := by decide +kernel
theorem vr_302_49 : zrx 302 49 = some (.invokestatic 79, 261, 0) := by decide +kernel
theorem vr_302_52 : zrx 302 52 = some (.anewarray 7, 105, 0) := by decide +kernel
theorem vr_302_55 : zrx 302 55 = some (.dup_x1, 0, 0) := by decide +kernel
theorem vr_302_56 : zrx 302 56 = some (.putfield 9, 2, 1) := by decide +kernel
theorem vr_302_59 : zrx 302 59 = some (.areturn, 0, 0) := by decide +kernel
theorem vr_303_0 : zrx 303 0 = some (.aload_n 0, 0, 0) := by decide +kernel
theorem vr_303_1 : zrx 303 1 = some (.aload_n 0, 0, 0) := by decide +kernel
theorem vr_303_2 : zrx 303 2 = some (.getfield 48, 2, 2) := by decide +kernel
theorem vr_303_5 : zrx 303 5 = some (.iconst 1, 0, 0) := by decide +kernel
theorem vr_303_6 : zrx 303 6 = some (.iadd, 0, 0) := by decide +kernel
theorem vr_303_7 : zrx 303 7 = some (.invokevirtual 69, 302, 30) := by decide +kernel
theorem vr_303_10 : zrx 303 10 = some (.areturn, 0, 0) := by decide +kernel
theorem vr_304_0 : zrx 304 0 = some (.aload_n 0, 0, 0) := by decide +kernel
theorem vr_304_1 : zrx 304 1 = some (.getfield 48, 2, 2) := by decide +kernel
theorem vr_304_4 : zrx 304 4 = some (.ireturn, 0, 0) := by decide +kernel
theorem vr_305_0 : zrx 305 0 = some (.aload_n 0, 0, 0) := by decide +kernel
theorem vr_305_1 : zrx 305 1 = some (.getfield 9, 2, 1) := by decide +kernel
theorem vr_305_4 : zrx 305 4 = some (.iload_n 1, 0, 0) := by decide +kernel
theorem vr_305_5 : zrx 305 5 = some (.aaload, 0, 0) := by decide +kernel
theorem vr_305_6 : zrx 305 6 = some (.areturn, 0, 0) := by decide +kernel
theorem vr_306_0 : zrx 306 0 = some (.iload_n 1, 0, 0) := by decide +kernel
theorem vr_306_1 : zrx 306 1 = some (.aload_n 0, 0, 0) := by decide +kernel
theorem vr_306_2 : zrx 306 2 = some (.getfield 48, 2, 2) := by decide +kernel
theorem vr_306_5 : zrx 306 5 = some (.invokestatic 118, 316, 0) := by decide +kernel
theorem vr_306_8 : zrx 306 8 = some (.pop, 0, 0) := by decide +kernel
theorem vr_306_9 : zrx 306 9 = some (.aload_n 0, 0, 0) := by decide +kernel
theorem vr_306_10 : zrx 306 10 = some (.iload_n 1, 0, 0) := by decide +kernel
theorem vr_306_11 : zrx 306 11 = some (.invokevirtual 123, 305, 30) := by decide +kernel
theorem vr_306_14 : zrx 306 14 = some (.areturn, 0, 0) := by decide +kernel
theorem vr_308_0 : zrx 308 0 = some (.iload_n 3, 0, 0) := by decide +kernel
theorem vr_308_1 : zrx 308 1 = some (.aload_n 2, 0, 0) := by decide +kernel
theorem vr_308_2 : zrx 308 2 = some (.arraylength, 0, 0) := by decide +kernel
theorem vr_308_3 : zrx 308 3 = some (.if_icmp .ne 8, 0, 0) := by decide +kernel
theorem vr_308_6 : zrx 308 6 = some (.aload_n 0, 0, 0) := by decide +kernel
theorem vr_308_7 : zrx 308 7 = some (.invokevirtual 129, 303, 30) := by decide +kernel
theorem vr_308_10 : zrx 308 10 = some (.astore_n 2, 0, 0) := by decide +kernel
theorem vr_308_11 : zrx 308 11 = some (.aload_n 2, 0, 0) := by decide +kernel
theorem vr_308_12 : zrx 308 12 = some (.iload_n 3, 0, 0) := by decide +kernel
theorem vr_308_13 : zrx 308 13 = some (.aload_n 1, 0, 0) := by decide +kernel
theorem vr_308_14 : zrx 308 14 = some (.aastore, 0, 0) := by decide +kernel
theorem vr_308_15 : zrx 308 15 = some (.aload_n 0, 0, 0) := by decide +kernel
theorem vr_308_16 : zrx 308 16 = some (.iload_n 3, 0, 0) := by decide +kernel
theorem vr_308_17 : zrx 308 17 = some (.iconst 1, 0, 0) := by decide +kernel
theorem vr_308_18 : zrx 308 18 = some (.iadd, 0, 0) := by decide +kernel
theorem vr_308_19 : zrx 308 19 = some (.putfield 48, 2, 2) := by decide +kernel
theorem vr_308_22 : zrx 308 22 = some (.return_, 0, 0) := by decide +kernel
theorem vr_309_0 : zrx 309 0 = some (.aload_n 0, 0, 0) := by decide +kernel
theorem vr_309_1 : zrx 309 1 = some (.dup, 0, 0) := by decide +kernel
theorem vr_309_2 : zrx 309 2 = some (.getfield 63, 2, 5000) := by decide +kernel
theorem vr_309_5 : zrx 309 5 = some (.iconst 1, 0, 0) := by decide +kernel
theorem vr_309_6 : zrx 309 6 = some (.iadd, 0, 0) := by decide +kernel
theorem vr_309_7 : zrx 309 7 = some (.putfield 63, 2, 5000) := by decide +kernel
theorem vr_309_10 : zrx 309 10 = some (.aload_n 0, 0, 0) := by decide +kernel
theorem vr_309_11 : zrx 309 11 = some (.aload_n 1, 0, 0) := by decide +kernel
theorem vr_309_12 : zrx 309 12 = some (.aload_n 0, 0, 0) := by decide +kernel
theorem vr_309_13 : zrx 309 13 = some (.getfield 9, 2, 1) := by decide +kernel
theorem vr_309_16 : zrx 309 16 = some (.aload_n 0, 0, 0) := by decide +kernel
theorem vr_309_17 : zrx 309 17 = some (.getfield 48, 2, 2) := by decide +kernel
theorem vr_309_20 : zrx 309 20 = some (.invokevirtual 131, 308, 30) := by decide +kernel
theorem vr_309_23 : zrx 309 23 = some (.iconst 1, 0, 0) := by decide +kernel
theorem vr_309_24 : zrx 309 24 = some (.ireturn, 0, 0) := by decide +kernel
theorem vr_310_0 : zrx 310 0 = some (.aload_n 0, 0, 0) := by decide +kernel
theorem vr_310_1 : zrx 310 1 = some (.iload_n 1, 0, 0) := by decide +kernel
theorem vr_310_2 : zrx 310 2 = some (.aload_n 0, 0, 0) := by decide +kernel
theorem vr_310_3 : zrx 310 3 = some (.invokevirtual 86, 2, 5000) := by decide +kernel
theorem vr_310_6 : zrx 310 6 = some (.invokestatic 300, 311, 0) := by decide +kernel
theorem vr_310_9 : zrx 310 9 = some (.areturn, 0, 0) := by decide +kernel
theorem vr_311_0 : zrx 311 0 = some (.aload_n 2, 0, 0) := by decide +kernel
theorem vr_311_1 : zrx 311 1 = some (.ldc 110, 7, 3) := by decide +kernel
theorem vr_311_3 : zrx 311 3 = some (.if_acmp .ne 10, 0, 5000) := by decide +kernel
theorem vr_311_6 : zrx 311 6 = some (.iload_n 1, 0, 0) := by decide +kernel
theorem vr_311_7 : zrx 311 7 = some (.anewarray 2, 105, 0) := by decide +kernel
theorem vr_311_10 : zrx 311 10 = some (.goto 14, 0, 0) := by decide +kernel
theorem vr_311_13 : zrx 311 13 = some (.aload_n 2, 0, 0) := by decide +kernel
theorem vr_311_24 : zrx 311 24 = some (.astore_n 3, 0, 0) := by decide +kernel
theorem vr_311_25 : zrx 311 25 = some (.aload_n 0, 0, 0) := by decide +kernel
theorem vr_311_26 : zrx 311 26 = some (.iconst 0, 0, 0) := by decide +kernel
theorem vr_311_27 : zrx 311 27 = some (.aload_n 3, 0, 0) := by decide +kernel
theorem vr_311_28 : zrx 311 28 = some (.iconst 0, 0, 0) := by decide +kernel
theorem vr_311_29 : zrx 311 29 = some (.aload_n 0, 0, 0) := by decide +kernel
theorem vr_311_30 : zrx 311 30 = some (.arraylength, 0, 0) := by decide +kernel
theorem vr_311_31 : zrx 311 31 = some (.iload_n 1, 0, 0) := by decide +kernel
theorem vr_311_32 : zrx 311 32 = some (.invokestatic 304, 262, 0) := by decide +kernel
theorem vr_311_35 : zrx 311 35 = some (.invokestatic 150, 0, 5000) := by decide +kernel
theorem vr_311_38 : zrx 311 38 = some (.aload_n 3, 0, 0) := by decide +kernel
theorem vr_311_39 : zrx 311 39 = some (.areturn, 0, 0) := by decide +kernel
theorem vr_316_0 : zrx 316 0 = some (.iload_n 0, 0, 0) := by decide +kernel
theorem vr_316_1 : zrx 316 1 = some (.iload_n 1, 0, 0) := by decide +kernel
theorem vr_316_2 : zrx 316 2 = some (.aconst_null, 0, 0) := by decide +kernel
theorem vr_316_3 : zrx 316 3 = some (.invokestatic 105, 319, 0) := by decide +kernel
theorem vr_316_6 : zrx 316 6 = some (.ireturn, 0, 0) := by decide +kernel
theorem vr_317_0 : zrx 317 0 = some (.iload_n 0, 0, 0) := by decide +kernel
theorem vr_317_1 : zrx 317 1 = some (.iload_n 1, 0, 0) := by decide +kernel
theorem vr_317_2 : zrx 317 2 = some (.iload_n 2, 0, 0) := by decide +kernel
theorem vr_317_3 : zrx 317 3 = some (.invokestatic 194, 261, 0) := by decide +kernel
theorem vr_317_6 : zrx 317 6 = some (.iadd, 0, 0) := by decide +kernel
theorem vr_317_7 : zrx 317 7 = some (.istore_n 3, 0, 0) := by decide +kernel
theorem vr_317_8 : zrx 317 8 = some (.iconst 0, 0, 0) := by decide +kernel
theorem vr_317_9 : zrx 317 9 = some (.iload_n 3, 0, 0) := by decide +kernel
theorem vr_317_10 : zrx 317 10 = some (.if_icmp .ge 11, 0, 0) := by decide +kernel
theorem vr_317_13 : zrx 317 13 = some (.iload_n 3, 0, 0) := by decide +kernel
theorem vr_317_14 : zrx 317 14 = some (.ldc 200, 2147483639, 0) := by decide +kernel
theorem vr_317_16 : zrx 317 16 = some (.if_icmp .gt 5, 0, 0) := by decide +kernel
theorem vr_317_19 : zrx 317 19 = some (.iload_n 3, 0, 0) := by decide +kernel
theorem vr_317_20 : zrx 317 20 = some (.ireturn, 0, 0) := by decide +kernel
theorem vr_317_21 : zrx 317 21 = some (.iload_n 0, 0, 0) := by decide +kernel
theorem vr_317_22 : zrx 317 22 = some (.iload_n 1, 0, 0) := by decide +kernel
theorem vr_317_23 : zrx 317 23 = some (.invokestatic 201, 318, 0) := by decide +kernel
theorem vr_317_26 : zrx 317 26 = some (.ireturn, 0, 0) := by decide +kernel
theorem vr_318_0 : zrx 318 0 = some (.iload_n 0, 0, 0) := by decide +kernel
theorem vr_318_1 : zrx 318 1 = some (.iload_n 1, 0, 0) := by decide +kernel
theorem vr_318_2 : zrx 318 2 = some (.iadd, 0, 0) := by decide +kernel
theorem vr_318_3 : zrx 318 3 = some (.istore_n 2, 0, 0) := by decide +kernel
theorem vr_318_4 : zrx 318 4 = some (.iload_n 2, 0, 0) := by decide +kernel
theorem vr_318_5 : zrx 318 5 = some (.ifCond .ge 44, 0, 0) := by decide +kernel
theorem vr_318_49 : zrx 318 49 = some (.iload_n 2, 0, 0) := by decide +kernel
theorem vr_318_50 : zrx 318 50 = some (.ldc 200, 2147483639, 0) := by decide +kernel
theorem vr_318_52 : zrx 318 52 = some (.if_icmp .gt 6, 0, 0) := by decide +kernel
theorem vr_318_55 : zrx 318 55 = some (.ldc 200, 2147483639, 0) := by decide +kernel
theorem vr_318_57 : zrx 318 57 = some (.ireturn, 0, 0) := by decide +kernel
theorem vr_318_58 : zrx 318 58 = some (.iload_n 2, 0, 0) := by decide +kernel
theorem vr_318_59 : zrx 318 59 = some (.ireturn, 0, 0) := by decide +kernel
theorem vr_319_0 : zrx 319 0 = some (.iload_n 0, 0, 0) := by decide +kernel
theorem vr_319_1 : zrx 319 1 = some (.ifCond .lt 8, 0, 0) := by decide +kernel
theorem vr_319_4 : zrx 319 4 = some (.iload_n 0, 0, 0) := by decide +kernel
theorem vr_319_5 : zrx 319 5 = some (.iload_n 1, 0, 0) := by decide +kernel
theorem vr_319_6 : zrx 319 6 = some (.if_icmp .lt 10, 0, 0) := by decide +kernel
theorem vr_319_9 : zrx 319 9 = some (.aload_n 2, 0, 0) := by decide +kernel
theorem vr_319_10 : zrx 319 10 = some (.iload_n 0, 0, 0) := by decide +kernel
theorem vr_319_11 : zrx 319 11 = some (.iload_n 1, 0, 0) := by decide +kernel
theorem vr_319_16 : zrx 319 16 = some (.iload_n 0, 0, 0) := by decide +kernel
theorem vr_319_17 : zrx 319 17 = some (.ireturn, 0, 0) := by decide +kernel
theorem vh_60_3_0 : zHit (zi 60) 3 0 = none := by decide +kernel
theorem vh_60_8_0 : zHit (zi 60) 8 0 = none := by decide +kernel
theorem vh_60_15_1 : zHit (zi 60) 15 1 = none := by decide +kernel
theorem vh_60_23_1 : zHit (zi 60) 23 1 = none := by decide +kernel
theorem vh_60_31_1 : zHit (zi 60) 31 1 = none := by decide +kernel
theorem vh_60_41_1 : zHit (zi 60) 41 1 = none := by decide +kernel
theorem vh_60_49_1 : zHit (zi 60) 49 1 = none := by decide +kernel
theorem vh_60_56_1 : zHit (zi 60) 56 1 = none := by decide +kernel
theorem vh_60_76_2 : zHit (zi 60) 76 2 = none := by decide +kernel
theorem vh_61_8_0 : zHit (zi 61) 8 0 = none := by decide +kernel
theorem vh_61_16_1 : zHit (zi 61) 16 1 = none := by decide +kernel
theorem vh_61_24_1 : zHit (zi 61) 24 1 = none := by decide +kernel
theorem vh_211_14_0 : (zHit (zi 211) 14 0).map (fun r => r.2.2.1) = some 24 := by decide +kernel
theorem vh_211_14_1 : (zHit (zi 211) 14 1).map (fun r => r.2.2.1) = some 28 := by decide +kernel
theorem vh_211_14_2 : (zHit (zi 211) 14 2).map (fun r => r.2.2.1) = some 32 := by decide +kernel
theorem vh_212_6_0 : (zHit (zi 212) 6 0).map (fun r => r.2.2.1) = some 16 := by decide +kernel
theorem vh_212_6_1 : (zHit (zi 212) 6 1).map (fun r => r.2.2.1) = some 20 := by decide +kernel
theorem C_max (n : Nat) (x y : Int32) (h : List zC) (u : Nat) : zL zrx zi n 261 0 [(0, .int x), (1, .int y)] [] h u (fun o h2 _ => h2 = h ∧ o = .inl (some (.int (if x < y then y else x)))) := by
  refine zSiload (m := 1) (k := 0) vr_261_0 rfl rfl rfl (fun x40 e40 => ?_)
  cases e40
  refine zSiload (m := 1) (k := 1) vr_261_1 rfl rfl rfl (fun x41 e41 => ?_)
  cases e41
  refine zSb2 (f := fun x y => decide (x < y)) (off := 7) (t := 9) vr_261_2 rfl rfl rfl (fun x42 y42 e42 f42 q42 => ?_) (fun x42 y42 e42 f42 q42 => ?_)
  · cases e42
    cases f42
    refine zSiload (m := 1) (k := 1) vr_261_9 rfl rfl rfl (fun x43 e43 => ?_)
    cases e43
    refine zLiret vr_261_10 rfl (fun x44 e44 => ?_)
    cases e44
    refine ⟨rfl, ?_⟩
    simp_all [← Int32.not_lt]
  · cases e42
    cases f42
    refine zSiload (m := 1) (k := 0) vr_261_5 rfl rfl rfl (fun x45 e45 => ?_)
    cases e45
    refine zSgo (t := 10) vr_261_6 rfl rfl ?_
    refine zLiret vr_261_10 rfl (fun x47 e47 => ?_)
    cases e47
    refine ⟨rfl, ?_⟩
    simp_all [← Int32.not_lt]
theorem C_min (n : Nat) (x y : Int32) (h : List zC) (u : Nat) : zL zrx zi n 262 0 [(0, .int x), (1, .int y)] [] h u (fun o h2 _ => h2 = h ∧ o = .inl (some (.int (if y < x then y else x)))) := by
  refine zSiload (m := 1) (k := 0) vr_262_0 rfl rfl rfl (fun x48 e48 => ?_)
  cases e48
  refine zSiload (m := 1) (k := 1) vr_262_1 rfl rfl rfl (fun x49 e49 => ?_)
  cases e49
  refine zSb2 (f := fun x y => decide (y < x)) (off := 7) (t := 9) vr_262_2 rfl rfl rfl (fun x50 y50 e50 f50 q50 => ?_) (fun x50 y50 e50 f50 q50 => ?_)
  · cases e50
    cases f50
    refine zSiload (m := 1) (k := 1) vr_262_9 rfl rfl rfl (fun x51 e51 => ?_)
    cases e51
    refine zLiret vr_262_10 rfl (fun x52 e52 => ?_)
    cases e52
    refine ⟨rfl, ?_⟩
    simp_all [← Int32.not_lt]
  · cases e50
    cases f50
    refine zSiload (m := 1) (k := 0) vr_262_5 rfl rfl rfl (fun x53 e53 => ?_)
    cases e53
    refine zSgo (t := 10) vr_262_6 rfl rfl ?_
    refine zLiret vr_262_10 rfl (fun x55 e55 => ?_)
    cases e55
    refine ⟨rfl, ?_⟩
    simp_all [← Int32.not_lt]
theorem C_hugeL (n : Nat) (x y : Int32) (h : List zC) (u : Nat) : zL zrx zi n 318 0 [(0, .int x), (1, .int y)] [] h u (fun o h2 _ => h2 = h ∧ ∃ z : Int32, o = .inl (some (.int z))) := by
  refine zSiload (m := 1) (k := 0) vr_318_0 rfl rfl rfl (fun x56 e56 => ?_)
  cases e56
  refine zSiload (m := 1) (k := 1) vr_318_1 rfl rfl rfl (fun x57 e57 => ?_)
  cases e57
  refine zS2 (f := fun x y => .int (x + y)) vr_318_2 rfl rfl (fun x58 y58 e58 f58 => ?_)
  cases e58
  cases f58
  refine zSistore (m := 1) (k := 2) vr_318_3 rfl rfl (fun x59 e59 => ?_)
  cases e59
  show zL zrx zi _ 318 4 [(2, _), (0, _), (1, _)] [] _ _ _
  refine zSiload (m := 1) (k := 2) vr_318_4 rfl rfl rfl (fun x60 e60 => ?_)
  cases e60
  refine zSb1 (f := fun x => decide (0 ≤ x)) (off := 44) (t := 49) vr_318_5 rfl rfl rfl (fun x61 e61 q61 => ?_) (fun x61 e61 q61 => ?_)
  · cases e61
    refine zSiload (m := 1) (k := 2) vr_318_49 rfl rfl rfl (fun x62 e62 => ?_)
    cases e62
    refine zScstV (v := .int (Int32.ofNat 2147483639)) vr_318_50 rfl rfl ?_
    refine zSb2 (f := fun x y => decide (y < x)) (off := 6) (t := 58) vr_318_52 rfl rfl rfl (fun x64 y64 e64 f64 q64 => ?_) (fun x64 y64 e64 f64 q64 => ?_)
    · cases e64
      cases f64
      refine zSiload (m := 1) (k := 2) vr_318_58 rfl rfl rfl (fun x65 e65 => ?_)
      cases e65
      refine zLiret vr_318_59 rfl (fun x66 e66 => ?_)
      cases e66
      exact ⟨rfl, _, rfl⟩
    · cases e64
      cases f64
      refine zScstV (v := .int (Int32.ofNat 2147483639)) vr_318_55 rfl rfl ?_
      refine zLiret vr_318_57 rfl (fun x68 e68 => ?_)
      cases e68
      exact ⟨rfl, _, rfl⟩
  · cases e61
    exact zLnone (by decide +kernel)
theorem C_newLen (n : Nat) (x y z : Int32) (h : List zC) (u : Nat) : zL zrx zi n 317 0 [(0, .int x), (1, .int y), (2, .int z)] [] h u (fun o h2 _ => h2 = h ∧ ∃ z : Int32, o = .inl (some (.int z))) := by
  refine zSiload (m := 1) (k := 0) vr_317_0 rfl rfl rfl (fun x69 e69 => ?_)
  cases e69
  refine zSiload (m := 1) (k := 1) vr_317_1 rfl rfl rfl (fun x70 e70 => ?_)
  cases e70
  refine zSiload (m := 1) (k := 2) vr_317_2 rfl rfl rfl (fun x71 e71 => ?_)
  cases e71
  refine zScall vr_317_3 rfl rfl rfl (fun m72 _ => C_max _ _ _ _ _) (fun v72 h72 u72 q72 => ?_) (fun E72 h72 u72 q72 => ?_)
  · obtain ⟨eh72, z72⟩ := q72
    replace eh72 := eh72.symm
    subst eh72
    cases z72
    show zL zrx zi _ 317 6 [(0, _), (1, _), (2, _)] [_, _] _ _ _
    refine zS2 (f := fun x y => .int (x + y)) vr_317_6 rfl rfl (fun x73 y73 e73 f73 => ?_)
    cases e73
    cases f73
    refine zSistore (m := 1) (k := 3) vr_317_7 rfl rfl (fun x74 e74 => ?_)
    cases e74
    show zL zrx zi _ 317 8 [(3, _), (0, _), (1, _), (2, _)] [] _ _ _
    refine zSp0 (pc' := 9) (st' := .int (0) :: _) vr_317_8 rfl rfl ?_
    refine zSiload (m := 1) (k := 3) vr_317_9 rfl rfl rfl (fun x76 e76 => ?_)
    cases e76
    refine zSb2 (f := fun x y => decide (y ≤ x)) (off := 11) (t := 21) vr_317_10 rfl rfl rfl (fun x77 y77 e77 f77 q77 => ?_) (fun x77 y77 e77 f77 q77 => ?_)
    · cases e77
      cases f77
      refine zSiload (m := 1) (k := 0) vr_317_21 rfl rfl rfl (fun x78 e78 => ?_)
      cases e78
      refine zSiload (m := 1) (k := 1) vr_317_22 rfl rfl rfl (fun x79 e79 => ?_)
      cases e79
      refine zScall vr_317_23 rfl rfl rfl (fun m80 _ => C_hugeL _ _ _ _ _) (fun v80 h80 u80 q80 => ?_) (fun E80 h80 u80 q80 => ?_)
      · obtain ⟨eh80, w80, z80⟩ := q80
        replace eh80 := eh80.symm
        subst eh80
        cases z80
        show zL zrx zi _ 317 26 [(3, _), (0, _), (1, _), (2, _)] [_] _ _ _
        refine zLiret vr_317_26 rfl (fun x81 e81 => ?_)
        cases e81
        exact ⟨rfl, _, rfl⟩
      · obtain ⟨-, _, z⟩ := q80
        cases z
    · cases e77
      cases f77
      refine zSiload (m := 1) (k := 3) vr_317_13 rfl rfl rfl (fun x82 e82 => ?_)
      cases e82
      refine zScstV (v := .int (Int32.ofNat 2147483639)) vr_317_14 rfl rfl ?_
      refine zSb2 (f := fun x y => decide (y < x)) (off := 5) (t := 21) vr_317_16 rfl rfl rfl (fun x84 y84 e84 f84 q84 => ?_) (fun x84 y84 e84 f84 q84 => ?_)
      · cases e84
        cases f84
        refine zSiload (m := 1) (k := 0) vr_317_21 rfl rfl rfl (fun x85 e85 => ?_)
        cases e85
        refine zSiload (m := 1) (k := 1) vr_317_22 rfl rfl rfl (fun x86 e86 => ?_)
        cases e86
        refine zScall vr_317_23 rfl rfl rfl (fun m87 _ => C_hugeL _ _ _ _ _) (fun v87 h87 u87 q87 => ?_) (fun E87 h87 u87 q87 => ?_)
        · obtain ⟨eh87, w87, z87⟩ := q87
          replace eh87 := eh87.symm
          subst eh87
          cases z87
          show zL zrx zi _ 317 26 [(3, _), (0, _), (1, _), (2, _)] [_] _ _ _
          refine zLiret vr_317_26 rfl (fun x88 e88 => ?_)
          cases e88
          exact ⟨rfl, _, rfl⟩
        · obtain ⟨-, _, z⟩ := q87
          cases z
      · cases e84
        cases f84
        refine zSiload (m := 1) (k := 3) vr_317_19 rfl rfl rfl (fun x89 e89 => ?_)
        cases e89
        refine zLiret vr_317_20 rfl (fun x90 e90 => ?_)
        cases e90
        exact ⟨rfl, _, rfl⟩
  · obtain ⟨-, z⟩ := q72
    cases z
theorem C_copy3 (n : Nat) (q : Nat) (m : Int32) (h : List zC) (u : Nat) {l : Nat} (hq : gN h q = some l) (hl2 : l < 2147483648) : zL zrx zi n 311 0 [(0, .ref q), (1, .int m), (2, .ref 7)] [] h u (fun o h2 _ => o = .inl (some (.ref h.length)) ∧ lCopy h h2 q l m) := by
  refine zSaload (m := 1) (k := 2) vr_311_0 rfl rfl rfl ?_
  refine zScstV (v := .ref 7) vr_311_1 rfl rfl ?_
  refine zLacmNe (t := 13) vr_311_3 rfl rfl (fun a93 b93 e93 f93 q93 => ?_) (fun a93 b93 e93 f93 q93 => ?_)
  · cases e93
    cases f93
    refine zSaload (m := 1) (k := 2) vr_311_13 rfl rfl rfl ?_
    exact zLnone (by decide +kernel)
  · cases e93
    cases f93
    refine zSiload (m := 1) (k := 1) vr_311_6 rfl rfl rfl (fun x95 e95 => ?_)
    cases e95
    refine zLanew vr_311_7 rfl (fun m96 k96 u96 e96 n96 g96 => ?_)
    cases e96
    refine zSgo (t := 24) vr_311_10 rfl rfl ?_
    refine zSastore (m := 1) (k := 3) vr_311_24 rfl rfl ?_
    show zL zrx zi _ 311 25 [(3, _), (0, _), (1, _), (2, _)] [] _ _ _
    refine zSaload (m := 1) (k := 0) vr_311_25 rfl rfl rfl ?_
    refine zSp0 (pc' := 27) (st' := .int (0) :: _) vr_311_26 rfl rfl ?_
    refine zSaload (m := 1) (k := 3) vr_311_27 rfl rfl rfl ?_
    refine zSp0 (pc' := 29) (st' := .int (0) :: _) vr_311_28 rfl rfl ?_
    refine zSaload (m := 1) (k := 0) vr_311_29 rfl rfl rfl ?_
    refine zLlen vr_311_30 rfl (fun p104 m104 e104 g104 => ?_)
    cases e104
    refine zSiload (m := 1) (k := 1) vr_311_31 rfl rfl rfl (fun x105 e105 => ?_)
    cases e105
    refine zScall vr_311_32 rfl rfl rfl (fun m106 _ => C_min _ _ _ _ _) (fun v106 h106 u106 q106 => ?_) (fun E106 h106 u106 q106 => ?_)
    · obtain ⟨eh106, z106⟩ := q106
      replace eh106 := eh106.symm
      subst eh106
      cases z106
      show zL zrx zi _ 311 35 [(3, _), (0, _), (1, _), (2, _)] [_, _, _, _, _] _ _ _
      refine zLarc vr_311_35 rfl (fun p107 d107 x107 y107 m107 k107 e107 f107 i107 j107 l107 n107 o107 s107 c107 => ?_)
      cases e107
      cases f107
      cases i107
      cases j107
      cases l107
      refine zSaload (m := 1) (k := 3) vr_311_38 rfl rfl rfl ?_
      refine zSaret vr_311_39 rfl ?_
      first
        | exact ⟨rfl, copy_end hq hl2 n96 g96 g104 c107⟩
        | exact absurd rfl q93
    · obtain ⟨-, z⟩ := q106
      cases z
theorem C_copy2 (n : Nat) (q : Nat) (m : Int32) (h : List zC) (u : Nat) {l : Nat} (hq : gN h q = some l) (hl2 : l < 2147483648) : zL zrx zi n 310 0 [(0, .ref q), (1, .int m)] [] h u (fun o h2 _ => o = .inl (some (.ref h.length)) ∧ lCopy h h2 q l m) := by
  refine zSaload (m := 1) (k := 0) vr_310_0 rfl rfl rfl ?_
  refine zSiload (m := 1) (k := 1) vr_310_1 rfl rfl rfl (fun x111 e111 => ?_)
  cases e111
  refine zSaload (m := 1) (k := 0) vr_310_2 rfl rfl rfl ?_
  refine zLgcl vr_310_3 rfl (fun p113 e113 t113 => ?_)
  cases e113
  refine zScall vr_310_6 rfl rfl rfl (fun m114 _ => C_copy3 _ _ _ _ _ hq hl2) (fun v114 h114 u114 q114 => ?_) (fun E114 h114 u114 q114 => ?_)
  · obtain ⟨z114, k1⟩ := q114
    cases z114
    show zL zrx zi _ 310 9 [(0, _), (1, _)] [_] _ _ _
    refine zSaret vr_310_9 rfl ?_
    exact ⟨rfl, k1⟩
  · obtain ⟨z, -⟩ := q114
    cases z
theorem C_grow2 (n : Nat) (L : Nat) (m : Int32) (h : List zC) (u : Nat) {el l : Nat} (hL : gF h L 1 = some (.ref el)) (hn : gN h el = some l) (hl2 : l < 2147483648) : zL zrx zi n 302 0 [(0, .ref L), (1, .int m)] [] h u (fun o h2 _ => ∃ r, o = .inl (some r) ∧ lGrow h h2 L el l r) := by
  refine zSaload (m := 1) (k := 0) vr_302_0 rfl rfl rfl ?_
  refine zLget vr_302_1 rfl (fun p117 w117 e117 t117 g117 => ?_)
  cases e117
  first | (rw [hL] at g117; cases g117) | skip
  refine zLlen vr_302_4 rfl (fun p118 m118 e118 g118 => ?_)
  cases e118
  refine zSistore (m := 1) (k := 2) vr_302_5 rfl rfl (fun x119 e119 => ?_)
  cases e119
  show zL zrx zi _ 302 6 [(2, _), (0, _), (1, _)] [] _ _ _
  refine zSiload (m := 1) (k := 2) vr_302_6 rfl rfl rfl (fun x120 e120 => ?_)
  cases e120
  refine zSb1 (f := fun x => decide (0 < x)) (off := 13) (t := 20) vr_302_7 rfl rfl rfl (fun x121 e121 q121 => ?_) (fun x121 e121 q121 => ?_)
  · cases e121
    refine zSiload (m := 1) (k := 2) vr_302_20 rfl rfl rfl (fun x122 e122 => ?_)
    cases e122
    refine zSiload (m := 1) (k := 1) vr_302_21 rfl rfl rfl (fun x123 e123 => ?_)
    cases e123
    refine zSiload (m := 1) (k := 2) vr_302_22 rfl rfl rfl (fun x124 e124 => ?_)
    cases e124
    refine zS2 (f := fun x y => .int (x - y)) vr_302_23 rfl rfl (fun x125 y125 e125 f125 => ?_)
    cases e125
    cases f125
    refine zSiload (m := 1) (k := 2) vr_302_24 rfl rfl rfl (fun x126 e126 => ?_)
    cases e126
    refine zSp0 (pc' := 26) (st' := .int (1) :: _) vr_302_25 rfl rfl ?_
    refine zS2 (f := fun x y => .int (x >>> (y &&& 31))) vr_302_26 rfl rfl (fun x128 y128 e128 f128 => ?_)
    cases e128
    cases f128
    refine zScall vr_302_27 rfl rfl rfl (fun m129 _ => C_newLen _ _ _ _ _ _) (fun v129 h129 u129 q129 => ?_) (fun E129 h129 u129 q129 => ?_)
    · obtain ⟨eh129, w129, z129⟩ := q129
      replace eh129 := eh129.symm
      subst eh129
      cases z129
      show zL zrx zi _ 302 30 [(2, _), (0, _), (1, _)] [_] _ _ _
      refine zSistore (m := 1) (k := 3) vr_302_30 rfl rfl (fun x130 e130 => ?_)
      cases e130
      show zL zrx zi _ 302 31 [(3, _), (2, _), (0, _), (1, _)] [] _ _ _
      refine zSaload (m := 1) (k := 0) vr_302_31 rfl rfl rfl ?_
      refine zSaload (m := 1) (k := 0) vr_302_32 rfl rfl rfl ?_
      refine zLget vr_302_33 rfl (fun p133 w133 e133 t133 g133 => ?_)
      cases e133
      first | (rw [hL] at g133; cases g133) | skip
      refine zSiload (m := 1) (k := 3) vr_302_36 rfl rfl rfl (fun x134 e134 => ?_)
      cases e134
      refine zScall vr_302_37 rfl rfl rfl (fun m135 _ => C_copy2 _ _ _ _ _ hn hl2) (fun v135 h135 u135 q135 => ?_) (fun E135 h135 u135 q135 => ?_)
      · obtain ⟨z135, k1⟩ := q135
        cases z135
        show zL zrx zi _ 302 40 [(3, _), (2, _), (0, _), (1, _)] [_, _] _ _ _
        refine zSdupx vr_302_40 rfl rfl ?_
        refine zLput vr_302_41 rfl (fun p137 k137 e137 t137 g137 => ?_)
        cases e137
        refine zSaret vr_302_44 rfl ?_
        exact ⟨_, rfl, grow_end hL k1.1 k1.2.1 k1.2.2.2.1 k1.2.2.2.2.1 k1.2.2.2.2.2 g137⟩
      · obtain ⟨z, -⟩ := q135
        cases z
    · obtain ⟨-, _, z⟩ := q129
      cases z
  · cases e121
    refine zSaload (m := 1) (k := 0) vr_302_10 rfl rfl rfl ?_
    refine zLget vr_302_11 rfl (fun p140 w140 e140 t140 g140 => ?_)
    cases e140
    first | (rw [hL] at g140; cases g140) | skip
    refine zScstV (v := .ref 4) vr_302_14 rfl rfl ?_
    refine zLacmEq (t := 45) vr_302_17 rfl rfl (fun a142 b142 e142 f142 q142 => ?_) (fun a142 b142 e142 f142 q142 => ?_)
    · cases e142
      cases f142
      refine zSaload (m := 1) (k := 0) vr_302_45 rfl rfl rfl ?_
      refine zSp0 (pc' := 48) (st' := .int (10) :: _) vr_302_46 rfl rfl ?_
      refine zSiload (m := 1) (k := 1) vr_302_48 rfl rfl rfl (fun x145 e145 => ?_)
      cases e145
      refine zScall vr_302_49 rfl rfl rfl (fun m146 _ => C_max _ _ _ _ _) (fun v146 h146 u146 q146 => ?_) (fun E146 h146 u146 q146 => ?_)
      · obtain ⟨eh146, z146⟩ := q146
        replace eh146 := eh146.symm
        subst eh146
        cases z146
        show zL zrx zi _ 302 52 [(2, _), (0, _), (1, _)] [_, _] _ _ _
        refine zLanew vr_302_52 rfl (fun m147 k147 u147 e147 n147 g147 => ?_)
        cases e147
        refine zSdupx vr_302_55 rfl rfl ?_
        refine zLput vr_302_56 rfl (fun p149 k149 e149 t149 g149 => ?_)
        cases e149
        refine zSaret vr_302_59 rfl ?_
        have hz : l = 0 := by
          have h1 := g118
          rw [hn] at h1
          cases h1
          have h2 := q121
          have h3 := (toNat_ofNat hl2).2
          simp only [decide_eq_true_eq, i32_lt] at h2
          have z0 : (0 : Int32).toInt = 0 := rfl
          omega
        exact ⟨_, rfl, grow_end hL g147.ext g147.len g147.cn.1 g147.cn.2 (fun k _ k2 => absurd k2 (by omega)) g149⟩
      · obtain ⟨-, z⟩ := q146
        cases z
    · cases e142
      cases f142
      refine zSiload (m := 1) (k := 2) vr_302_20 rfl rfl rfl (fun x151 e151 => ?_)
      cases e151
      refine zSiload (m := 1) (k := 1) vr_302_21 rfl rfl rfl (fun x152 e152 => ?_)
      cases e152
      refine zSiload (m := 1) (k := 2) vr_302_22 rfl rfl rfl (fun x153 e153 => ?_)
      cases e153
      refine zS2 (f := fun x y => .int (x - y)) vr_302_23 rfl rfl (fun x154 y154 e154 f154 => ?_)
      cases e154
      cases f154
      refine zSiload (m := 1) (k := 2) vr_302_24 rfl rfl rfl (fun x155 e155 => ?_)
      cases e155
      refine zSp0 (pc' := 26) (st' := .int (1) :: _) vr_302_25 rfl rfl ?_
      refine zS2 (f := fun x y => .int (x >>> (y &&& 31))) vr_302_26 rfl rfl (fun x157 y157 e157 f157 => ?_)
      cases e157
      cases f157
      refine zScall vr_302_27 rfl rfl rfl (fun m158 _ => C_newLen _ _ _ _ _ _) (fun v158 h158 u158 q158 => ?_) (fun E158 h158 u158 q158 => ?_)
      · obtain ⟨eh158, w158, z158⟩ := q158
        replace eh158 := eh158.symm
        subst eh158
        cases z158
        show zL zrx zi _ 302 30 [(2, _), (0, _), (1, _)] [_] _ _ _
        refine zSistore (m := 1) (k := 3) vr_302_30 rfl rfl (fun x159 e159 => ?_)
        cases e159
        show zL zrx zi _ 302 31 [(3, _), (2, _), (0, _), (1, _)] [] _ _ _
        refine zSaload (m := 1) (k := 0) vr_302_31 rfl rfl rfl ?_
        refine zSaload (m := 1) (k := 0) vr_302_32 rfl rfl rfl ?_
        refine zLget vr_302_33 rfl (fun p162 w162 e162 t162 g162 => ?_)
        cases e162
        first | (rw [hL] at g162; cases g162) | skip
        refine zSiload (m := 1) (k := 3) vr_302_36 rfl rfl rfl (fun x163 e163 => ?_)
        cases e163
        refine zScall vr_302_37 rfl rfl rfl (fun m164 _ => C_copy2 _ _ _ _ _ hn hl2) (fun v164 h164 u164 q164 => ?_) (fun E164 h164 u164 q164 => ?_)
        · obtain ⟨z164, k1⟩ := q164
          cases z164
          show zL zrx zi _ 302 40 [(3, _), (2, _), (0, _), (1, _)] [_, _] _ _ _
          refine zSdupx vr_302_40 rfl rfl ?_
          refine zLput vr_302_41 rfl (fun p166 k166 e166 t166 g166 => ?_)
          cases e166
          refine zSaret vr_302_44 rfl ?_
          exact ⟨_, rfl, grow_end hL k1.1 k1.2.1 k1.2.2.2.1 k1.2.2.2.2.1 k1.2.2.2.2.2 g166⟩
        · obtain ⟨z, -⟩ := q164
          cases z
      · obtain ⟨-, _, z⟩ := q158
        cases z
theorem C_grow1 (n : Nat) (L : Nat) (h : List zC) (u : Nat) {el l : Nat} (hL : gF h L 1 = some (.ref el)) (hn : gN h el = some l) (hl2 : l < 2147483648) : zL zrx zi n 303 0 [(0, .ref L)] [] h u (fun o h2 _ => ∃ r, o = .inl (some r) ∧ lGrow h h2 L el l r) := by
  refine zSaload (m := 1) (k := 0) vr_303_0 rfl rfl rfl ?_
  refine zSaload (m := 1) (k := 0) vr_303_1 rfl rfl rfl ?_
  refine zLget vr_303_2 rfl (fun p170 w170 e170 t170 g170 => ?_)
  cases e170
  refine zSp0 (pc' := 6) (st' := .int (1) :: _) vr_303_5 rfl rfl ?_
  refine zS2 (f := fun x y => .int (x + y)) vr_303_6 rfl rfl (fun x172 y172 e172 f172 => ?_)
  cases e172
  cases f172
  refine zScall vr_303_7 rfl rfl rfl (fun m173 _ => C_grow2 _ _ _ _ _ hL hn hl2) (fun v173 h173 u173 q173 => ?_) (fun E173 h173 u173 q173 => ?_)
  · obtain ⟨r173, z173, k1⟩ := q173
    cases z173
    show zL zrx zi _ 303 10 [(0, _)] [_] _ _ _
    refine zSaret vr_303_10 rfl ?_
    exact ⟨_, rfl, k1⟩
  · obtain ⟨r, z, -⟩ := q173
    cases z
theorem C_add3 (n : Nat) (L e el : Nat) (s : Int32) (h : List zC) (u : Nat) {l : Nat} (hL : gF h L 1 = some (.ref el)) (hn : gN h el = some l) (hl2 : l < 2147483648) (tE : ∃ t, gT h el = some t ∧ 93 ≤ t) : zL zrx zi n 308 0 [(0, .ref L), (1, .ref e), (2, .ref el), (3, .int s)] [] h u (fun o h2 _ => o = .inl none ∧ lAdd h h2 L el s e) := by
  refine zSiload (m := 1) (k := 3) vr_308_0 rfl rfl rfl (fun x175 e175 => ?_)
  cases e175
  refine zSaload (m := 1) (k := 2) vr_308_1 rfl rfl rfl ?_
  refine zLlen vr_308_2 rfl (fun p177 m177 e177 g177 => ?_)
  cases e177
  have hb := g177
  rw [hn] at hb
  cases hb
  refine zSb2 (f := fun x y => decide (¬ x = y)) (off := 8) (t := 11) vr_308_3 rfl rfl rfl (fun x178 y178 e178 f178 q178 => ?_) (fun x178 y178 e178 f178 q178 => ?_)
  · cases e178
    cases f178
    refine zSaload (m := 1) (k := 2) vr_308_11 rfl rfl rfl ?_
    refine zSiload (m := 1) (k := 3) vr_308_12 rfl rfl rfl (fun x180 e180 => ?_)
    cases e180
    refine zSaload (m := 1) (k := 1) vr_308_13 rfl rfl rfl ?_
    refine zLaast2 vr_308_14 rfl (fun p182 x182 z182 k182 e182 f182 d182 c182 t182 l182 g182 => ?_)
    cases e182
    cases f182
    cases d182
    refine zSaload (m := 1) (k := 0) vr_308_15 rfl rfl rfl ?_
    refine zSiload (m := 1) (k := 3) vr_308_16 rfl rfl rfl (fun x184 e184 => ?_)
    cases e184
    refine zSp0 (pc' := 18) (st' := .int (1) :: _) vr_308_17 rfl rfl ?_
    refine zS2 (f := fun x y => .int (x + y)) vr_308_18 rfl rfl (fun x186 y186 e186 f186 => ?_)
    cases e186
    cases f186
    refine zLput vr_308_19 rfl (fun p187 k187 e187 t187 g187 => ?_)
    cases e187
    refine zSvoid vr_308_22 rfl ?_
    first
      | exact ⟨rfl, add_end1 hL t187 t182 c182 g182 g187⟩
      | exact ⟨rfl, add_end2 hL hn hl2 (by simpa using q178) k1 t187 tE l182 c182 g182 g187⟩
  · cases e178
    cases f178
    refine zSaload (m := 1) (k := 0) vr_308_6 rfl rfl rfl ?_
    refine zScall vr_308_7 rfl rfl rfl (fun m190 _ => C_grow1 _ _ _ _ hL hn hl2) (fun v190 h190 u190 q190 => ?_) (fun E190 h190 u190 q190 => ?_)
    · obtain ⟨r190, z190, k1⟩ := q190
      cases z190
      obtain ⟨k2, k3, k4⟩ := k1
      cases k3
      have k1 : lGrow h _ L el l (.ref h.length) := ⟨k2, rfl, k4⟩
      show zL zrx zi _ 308 10 [(0, _), (1, _), (2, _), (3, _)] [_] _ _ _
      refine zSastore (m := 1) (k := 2) vr_308_10 rfl rfl ?_
      show zL zrx zi _ 308 11 [(2, _), (0, _), (1, _), (3, _)] [] _ _ _
      refine zSaload (m := 1) (k := 2) vr_308_11 rfl rfl rfl ?_
      refine zSiload (m := 1) (k := 3) vr_308_12 rfl rfl rfl (fun x193 e193 => ?_)
      cases e193
      refine zSaload (m := 1) (k := 1) vr_308_13 rfl rfl rfl ?_
      refine zLaast2 vr_308_14 rfl (fun p195 x195 z195 k195 e195 f195 d195 c195 t195 l195 g195 => ?_)
      cases e195
      cases f195
      cases d195
      refine zSaload (m := 1) (k := 0) vr_308_15 rfl rfl rfl ?_
      refine zSiload (m := 1) (k := 3) vr_308_16 rfl rfl rfl (fun x197 e197 => ?_)
      cases e197
      refine zSp0 (pc' := 18) (st' := .int (1) :: _) vr_308_17 rfl rfl ?_
      refine zS2 (f := fun x y => .int (x + y)) vr_308_18 rfl rfl (fun x199 y199 e199 f199 => ?_)
      cases e199
      cases f199
      refine zLput vr_308_19 rfl (fun p200 k200 e200 t200 g200 => ?_)
      cases e200
      refine zSvoid vr_308_22 rfl ?_
      first
        | exact ⟨rfl, add_end1 hL t200 t195 c195 g195 g200⟩
        | exact ⟨rfl, add_end2 hL hn hl2 (by simpa using q178) k1 t200 tE l195 c195 g195 g200⟩
    · obtain ⟨r, z, -⟩ := q190
      cases z
theorem C_add (n : Nat) (L e : Nat) (h : List zC) (u : Nat) {el l : Nat} {s : Int32} (hL : gF h L 1 = some (.ref el)) (hs : gF h L 2 = some (.int s)) (hn : gN h el = some l) (hl2 : l < 2147483648) (tE : ∃ t, gT h el = some t ∧ 93 ≤ t) : zL zrx zi n 309 0 [(0, .ref L), (1, .ref e)] [] h u (fun o h2 _ => o = .inl (some (.int 1)) ∧ lAdd h h2 L el s e) := by
  refine zSaload (m := 1) (k := 0) vr_309_0 rfl rfl rfl ?_
  refine zSdup vr_309_1 rfl ?_
  refine zLgmod vr_309_2 rfl (fun p204 w204 e204 t204 g204 => ?_)
  cases e204
  first | (rw [hL1] at g204; cases g204) | (rw [hs1] at g204; cases g204) | skip
  refine zSp0 (pc' := 6) (st' := .int (1) :: _) vr_309_5 rfl rfl ?_
  refine zS2 (f := fun x y => .int (x + y)) vr_309_6 rfl rfl (fun x206 y206 e206 f206 => ?_)
  cases e206
  cases f206
  refine zLpmod vr_309_7 rfl (fun p207 k207 e207 t207 g207 => ?_)
  cases e207
  have p0 := g207
  have hL1 := (p0.2.1 L 1).trans ((if_neg (by omega)).trans hL)
  have hs1 := (p0.2.1 L 2).trans ((if_neg (by omega)).trans hs)
  refine zSaload (m := 1) (k := 0) vr_309_10 rfl rfl rfl ?_
  refine zSaload (m := 1) (k := 1) vr_309_11 rfl rfl rfl ?_
  refine zSaload (m := 1) (k := 0) vr_309_12 rfl rfl rfl ?_
  refine zLget vr_309_13 rfl (fun p211 w211 e211 t211 g211 => ?_)
  cases e211
  first | (rw [hL1] at g211; cases g211) | (rw [hs1] at g211; cases g211) | skip
  refine zSaload (m := 1) (k := 0) vr_309_16 rfl rfl rfl ?_
  refine zLget vr_309_17 rfl (fun p213 w213 e213 t213 g213 => ?_)
  cases e213
  first | (rw [hL1] at g213; cases g213) | (rw [hs1] at g213; cases g213) | skip
  refine zScall vr_309_20 rfl rfl rfl (fun m214 _ => C_add3 _ _ _ _ _ _ _ hL1 ((p0.2.2.2 el).trans hn) hl2 (by rw [p0.2.2.1]; exact tE)) (fun v214 h214 u214 q214 => ?_) (fun E214 h214 u214 q214 => ?_)
  · obtain ⟨z214, k1⟩ := q214
    cases z214
    show zL zrx zi _ 309 23 [(0, _), (1, _)] [] _ _ _
    refine zSp0 (pc' := 24) (st' := .int (1) :: _) vr_309_23 rfl rfl ?_
    refine zLiret vr_309_24 rfl (fun x216 e216 => ?_)
    cases e216
    exact ⟨rfl, k1.pre p0⟩
  · obtain ⟨z, -⟩ := q214
    cases z
theorem C_lsize (n : Nat) (L : Nat) (h : List zC) (u : Nat) {s : Int32} (hs : gF h L 2 = some (.int s)) : zL zrx zi n 304 0 [(0, .ref L)] [] h u (fun o h2 _ => h2 = h ∧ o = .inl (some (.int s))) := by
  refine zSaload (m := 1) (k := 0) vr_304_0 rfl rfl rfl ?_
  refine zLget vr_304_1 rfl (fun p218 w218 e218 t218 g218 => ?_)
  cases e218
  first | (rw [hs] at g218; cases g218) | skip
  refine zLiret vr_304_4 rfl (fun x219 e219 => ?_)
  cases e219
  exact ⟨rfl, rfl⟩
theorem C_chk3 (n : Nat) (x y : Int32) (h : List zC) (u : Nat) : zL zrx zi n 319 0 [(0, .int x), (1, .int y), (2, .null)] [] h u (fun o h2 _ => h2 = h ∧ o = .inl (some (.int x))) := by
  refine zSiload (m := 1) (k := 0) vr_319_0 rfl rfl rfl (fun x220 e220 => ?_)
  cases e220
  refine zSb1 (f := fun x => decide (x < 0)) (off := 8) (t := 9) vr_319_1 rfl rfl rfl (fun x221 e221 q221 => ?_) (fun x221 e221 q221 => ?_)
  · cases e221
    refine zSaload (m := 1) (k := 2) vr_319_9 rfl rfl rfl ?_
    refine zSiload (m := 1) (k := 0) vr_319_10 rfl rfl rfl (fun x223 e223 => ?_)
    cases e223
    refine zSiload (m := 1) (k := 1) vr_319_11 rfl rfl rfl (fun x224 e224 => ?_)
    cases e224
    exact zLnone (by decide +kernel)
  · cases e221
    refine zSiload (m := 1) (k := 0) vr_319_4 rfl rfl rfl (fun x225 e225 => ?_)
    cases e225
    refine zSiload (m := 1) (k := 1) vr_319_5 rfl rfl rfl (fun x226 e226 => ?_)
    cases e226
    refine zSb2 (f := fun x y => decide (x < y)) (off := 10) (t := 16) vr_319_6 rfl rfl rfl (fun x227 y227 e227 f227 q227 => ?_) (fun x227 y227 e227 f227 q227 => ?_)
    · cases e227
      cases f227
      refine zSiload (m := 1) (k := 0) vr_319_16 rfl rfl rfl (fun x228 e228 => ?_)
      cases e228
      refine zLiret vr_319_17 rfl (fun x229 e229 => ?_)
      cases e229
      exact ⟨rfl, rfl⟩
    · cases e227
      cases f227
      refine zSaload (m := 1) (k := 2) vr_319_9 rfl rfl rfl ?_
      refine zSiload (m := 1) (k := 0) vr_319_10 rfl rfl rfl (fun x231 e231 => ?_)
      cases e231
      refine zSiload (m := 1) (k := 1) vr_319_11 rfl rfl rfl (fun x232 e232 => ?_)
      cases e232
      exact zLnone (by decide +kernel)
theorem C_chk2 (n : Nat) (x y : Int32) (h : List zC) (u : Nat) : zL zrx zi n 316 0 [(0, .int x), (1, .int y)] [] h u (fun o h2 _ => h2 = h ∧ o = .inl (some (.int x))) := by
  refine zSiload (m := 1) (k := 0) vr_316_0 rfl rfl rfl (fun x233 e233 => ?_)
  cases e233
  refine zSiload (m := 1) (k := 1) vr_316_1 rfl rfl rfl (fun x234 e234 => ?_)
  cases e234
  refine zSp0 vr_316_2 rfl rfl ?_
  refine zScall vr_316_3 rfl rfl rfl (fun m236 _ => C_chk3 _ _ _ _ _) (fun v236 h236 u236 q236 => ?_) (fun E236 h236 u236 q236 => ?_)
  · obtain ⟨eh236, z236⟩ := q236
    replace eh236 := eh236.symm
    subst eh236
    cases z236
    show zL zrx zi _ 316 6 [(0, _), (1, _)] [_] _ _ _
    refine zLiret vr_316_6 rfl (fun x237 e237 => ?_)
    cases e237
    exact ⟨rfl, rfl⟩
  · obtain ⟨-, z⟩ := q236
    cases z
theorem C_elem (n : Nat) (L : Nat) (k : Int32) (h : List zC) (u : Nat) {el : Nat} (hL : gF h L 1 = some (.ref el)) : zL zrx zi n 305 0 [(0, .ref L), (1, .int k)] [] h u (fun o h2 _ => h2 = h ∧ ¬ k < 0 ∧ ∃ w, o = .inl (some w) ∧ gF h el k.toNatClampNeg = some w) := by
  refine zSaload (m := 1) (k := 0) vr_305_0 rfl rfl rfl ?_
  refine zLget vr_305_1 rfl (fun p239 w239 e239 t239 g239 => ?_)
  cases e239
  first | (rw [hL] at g239; cases g239) | skip
  refine zSiload (m := 1) (k := 1) vr_305_4 rfl rfl rfl (fun x240 e240 => ?_)
  cases e240
  refine zLaald vr_305_5 rfl (fun p241 x241 w241 e241 f241 c241 t241 g241 => ?_)
  cases e241
  cases f241
  first | (rw [hL] at g241; cases g241) | skip
  refine zSaret vr_305_6 rfl ?_
  exact ⟨rfl, c241, _, rfl, g241⟩
theorem C_get (n : Nat) (L : Nat) (k : Int32) (h : List zC) (u : Nat) {el : Nat} {s : Int32} (hL : gF h L 1 = some (.ref el)) (hs : gF h L 2 = some (.int s)) : zL zrx zi n 306 0 [(0, .ref L), (1, .int k)] [] h u (fun o h2 _ => h2 = h ∧ ¬ k < 0 ∧ ∃ w, o = .inl (some w) ∧ gF h el k.toNatClampNeg = some w) := by
  refine zSiload (m := 1) (k := 1) vr_306_0 rfl rfl rfl (fun x243 e243 => ?_)
  cases e243
  refine zSaload (m := 1) (k := 0) vr_306_1 rfl rfl rfl ?_
  refine zLget vr_306_2 rfl (fun p245 w245 e245 t245 g245 => ?_)
  cases e245
  first | (rw [hs] at g245; cases g245) | skip
  refine zScall vr_306_5 rfl rfl rfl (fun m246 _ => C_chk2 _ _ _ _ _) (fun v246 h246 u246 q246 => ?_) (fun E246 h246 u246 q246 => ?_)
  · obtain ⟨eh246, z246⟩ := q246
    replace eh246 := eh246.symm
    subst eh246
    cases z246
    show zL zrx zi _ 306 8 [(0, _), (1, _)] [_] _ _ _
    refine zSpop vr_306_8 rfl ?_
    refine zSaload (m := 1) (k := 0) vr_306_9 rfl rfl rfl ?_
    refine zSiload (m := 1) (k := 1) vr_306_10 rfl rfl rfl (fun x249 e249 => ?_)
    cases e249
    refine zScall vr_306_11 rfl rfl rfl (fun m250 _ => C_elem _ _ _ _ _ hL) (fun v250 h250 u250 q250 => ?_) (fun E250 h250 u250 q250 => ?_)
    · obtain ⟨eh250, k1, w250, z250, k2⟩ := q250
      replace eh250 := eh250.symm
      subst eh250
      cases z250
      show zL zrx zi _ 306 14 [(0, _), (1, _)] [_] _ _ _
      refine zSaret vr_306_14 rfl ?_
      exact ⟨rfl, k1, _, rfl, k2⟩
    · obtain ⟨-, -, w, z, -⟩ := q250
      cases z
  · obtain ⟨-, z⟩ := q246
    cases z
theorem C_bits (n : Nat) (x : Int32) (h : List zC) (u : Nat) : zL zrx zi n 260 0 [(0, .int x)] [] h u (fun o h2 _ => h2 = h ∧ o = .inl (some (.int (bcO x)))) := by
  refine zSiload (m := 1) (k := 0) vr_260_0 rfl rfl rfl (fun x252 e252 => ?_)
  cases e252
  refine zSiload (m := 1) (k := 0) vr_260_1 rfl rfl rfl (fun x253 e253 => ?_)
  cases e253
  refine zSp0 (pc' := 3) (st' := .int (1) :: _) vr_260_2 rfl rfl ?_
  refine zS2 (f := fun x y => .int (x.toUInt32 >>> (y.toUInt32 &&& Int32.toUInt32 31)).toInt32) vr_260_3 rfl rfl (fun x255 y255 e255 f255 => ?_)
  cases e255
  cases f255
  refine zScstV (v := .int (Int32.ofNat 1431655765)) vr_260_4 rfl rfl ?_
  refine zS2 (f := fun x y => .int (x &&& y)) vr_260_7 rfl rfl (fun x257 y257 e257 f257 => ?_)
  cases e257
  cases f257
  refine zS2 (f := fun x y => .int (x - y)) vr_260_8 rfl rfl (fun x258 y258 e258 f258 => ?_)
  cases e258
  cases f258
  refine zSistore (m := 1) (k := 0) vr_260_9 rfl rfl (fun x259 e259 => ?_)
  cases e259
  show zL zrx zi _ 260 10 [(0, _)] [] _ _ _
  refine zSiload (m := 1) (k := 0) vr_260_10 rfl rfl rfl (fun x260 e260 => ?_)
  cases e260
  refine zScstV (v := .int (Int32.ofNat 858993459)) vr_260_11 rfl rfl ?_
  refine zS2 (f := fun x y => .int (x &&& y)) vr_260_14 rfl rfl (fun x262 y262 e262 f262 => ?_)
  cases e262
  cases f262
  refine zSiload (m := 1) (k := 0) vr_260_15 rfl rfl rfl (fun x263 e263 => ?_)
  cases e263
  refine zSp0 (pc' := 17) (st' := .int (2) :: _) vr_260_16 rfl rfl ?_
  refine zS2 (f := fun x y => .int (x.toUInt32 >>> (y.toUInt32 &&& Int32.toUInt32 31)).toInt32) vr_260_17 rfl rfl (fun x265 y265 e265 f265 => ?_)
  cases e265
  cases f265
  refine zScstV (v := .int (Int32.ofNat 858993459)) vr_260_18 rfl rfl ?_
  refine zS2 (f := fun x y => .int (x &&& y)) vr_260_21 rfl rfl (fun x267 y267 e267 f267 => ?_)
  cases e267
  cases f267
  refine zS2 (f := fun x y => .int (x + y)) vr_260_22 rfl rfl (fun x268 y268 e268 f268 => ?_)
  cases e268
  cases f268
  refine zSistore (m := 1) (k := 0) vr_260_23 rfl rfl (fun x269 e269 => ?_)
  cases e269
  show zL zrx zi _ 260 24 [(0, _)] [] _ _ _
  refine zSiload (m := 1) (k := 0) vr_260_24 rfl rfl rfl (fun x270 e270 => ?_)
  cases e270
  refine zSiload (m := 1) (k := 0) vr_260_25 rfl rfl rfl (fun x271 e271 => ?_)
  cases e271
  refine zSp0 (pc' := 27) (st' := .int (4) :: _) vr_260_26 rfl rfl ?_
  refine zS2 (f := fun x y => .int (x.toUInt32 >>> (y.toUInt32 &&& Int32.toUInt32 31)).toInt32) vr_260_27 rfl rfl (fun x273 y273 e273 f273 => ?_)
  cases e273
  cases f273
  refine zS2 (f := fun x y => .int (x + y)) vr_260_28 rfl rfl (fun x274 y274 e274 f274 => ?_)
  cases e274
  cases f274
  refine zScstV (v := .int (Int32.ofNat 252645135)) vr_260_29 rfl rfl ?_
  refine zS2 (f := fun x y => .int (x &&& y)) vr_260_32 rfl rfl (fun x276 y276 e276 f276 => ?_)
  cases e276
  cases f276
  refine zSistore (m := 1) (k := 0) vr_260_33 rfl rfl (fun x277 e277 => ?_)
  cases e277
  show zL zrx zi _ 260 34 [(0, _)] [] _ _ _
  refine zSiload (m := 1) (k := 0) vr_260_34 rfl rfl rfl (fun x278 e278 => ?_)
  cases e278
  refine zSiload (m := 1) (k := 0) vr_260_35 rfl rfl rfl (fun x279 e279 => ?_)
  cases e279
  refine zSp0 (pc' := 38) (st' := .int (8) :: _) vr_260_36 rfl rfl ?_
  refine zS2 (f := fun x y => .int (x.toUInt32 >>> (y.toUInt32 &&& Int32.toUInt32 31)).toInt32) vr_260_38 rfl rfl (fun x281 y281 e281 f281 => ?_)
  cases e281
  cases f281
  refine zS2 (f := fun x y => .int (x + y)) vr_260_39 rfl rfl (fun x282 y282 e282 f282 => ?_)
  cases e282
  cases f282
  refine zSistore (m := 1) (k := 0) vr_260_40 rfl rfl (fun x283 e283 => ?_)
  cases e283
  show zL zrx zi _ 260 41 [(0, _)] [] _ _ _
  refine zSiload (m := 1) (k := 0) vr_260_41 rfl rfl rfl (fun x284 e284 => ?_)
  cases e284
  refine zSiload (m := 1) (k := 0) vr_260_42 rfl rfl rfl (fun x285 e285 => ?_)
  cases e285
  refine zSp0 (pc' := 45) (st' := .int (16) :: _) vr_260_43 rfl rfl ?_
  refine zS2 (f := fun x y => .int (x.toUInt32 >>> (y.toUInt32 &&& Int32.toUInt32 31)).toInt32) vr_260_45 rfl rfl (fun x287 y287 e287 f287 => ?_)
  cases e287
  cases f287
  refine zS2 (f := fun x y => .int (x + y)) vr_260_46 rfl rfl (fun x288 y288 e288 f288 => ?_)
  cases e288
  cases f288
  refine zSistore (m := 1) (k := 0) vr_260_47 rfl rfl (fun x289 e289 => ?_)
  cases e289
  show zL zrx zi _ 260 48 [(0, _)] [] _ _ _
  refine zSiload (m := 1) (k := 0) vr_260_48 rfl rfl rfl (fun x290 e290 => ?_)
  cases e290
  refine zSp0 (pc' := 51) (st' := .int (63) :: _) vr_260_49 rfl rfl ?_
  refine zS2 (f := fun x y => .int (x &&& y)) vr_260_51 rfl rfl (fun x292 y292 e292 f292 => ?_)
  cases e292
  cases f292
  refine zLiret vr_260_52 rfl (fun x293 e293 => ?_)
  cases e293
  exact ⟨rfl, rfl⟩
theorem C_rule (n : Nat) (p m c a b s r : Int32) (h : List zC) (u : Nat) {cnt : Int32} (hS : Stc h) (hc : gF h 28 2 = some (.int cnt)) : zL zrx zi n 60 0 [(0, .ref 16), (1, .int p), (2, .int m), (3, .int c), (4, .int a), (5, .int b), (6, .int s), (7, .int r)] [] h u (fun o h2 _ => match o with
  | .inl v => okR p m c a b s r cnt ∧ (∃ x : Int32, v = some (.int x)) ∧ RM h h2 (31 + cnt.toNatClampNeg) cnt p m c a b s r
  | .inr E => (E = 0 ∨ E = 1 ∨ E = 2) ∧ hExt h h2 ∧ ¬ okR p m c a b s r cnt) := by
  refine zSiload (m := 1) (k := 1) vr_60_0 rfl rfl rfl (fun x294 e294 => ?_)
  cases e294
  refine zSp0 (pc' := 3) (st' := .int (6) :: _) vr_60_1 rfl rfl ?_
  refine zScall vr_60_3 rfl rfl rfl (fun m296 _ => C_num6 _ _ _ _ (m := 6) (by rfl)) (fun v296 h296 u296 q296 => ?_) (fun E296 h296 u296 q296 => ?_)
  · obtain ⟨eh296, rfl, r1⟩ := q296
    replace eh296 := eh296.symm
    subst eh296
    show zL zrx zi _ 60 6 [(0, _), (1, _), (2, _), (3, _), (4, _), (5, _), (6, _), (7, _)] [] _ _ _
    refine zSiload (m := 1) (k := 2) vr_60_6 rfl rfl rfl (fun x297 e297 => ?_)
    cases e297
    refine zSp0 (pc' := 8) (st' := .int (4) :: _) vr_60_7 rfl rfl ?_
    refine zScall vr_60_8 rfl rfl rfl (fun m299 _ => C_num6 _ _ _ _ (m := 4) (by rfl)) (fun v299 h299 u299 q299 => ?_) (fun E299 h299 u299 q299 => ?_)
    · obtain ⟨eh299, rfl, r2⟩ := q299
      replace eh299 := eh299.symm
      subst eh299
      show zL zrx zi _ 60 11 [(0, _), (1, _), (2, _), (3, _), (4, _), (5, _), (6, _), (7, _)] [] _ _ _
      refine zSiload (m := 1) (k := 3) vr_60_11 rfl rfl rfl (fun x300 e300 => ?_)
      cases e300
      refine zSp0 (pc' := 13) (st' := .int (1) :: _) vr_60_12 rfl rfl ?_
      refine zSp0 (pc' := 15) (st' := .int (15) :: _) vr_60_13 rfl rfl ?_
      refine zScall vr_60_15 rfl rfl rfl (fun m303 _ => C_val _ _ _ _ _ _) (fun v303 h303 u303 q303 => ?_) (fun E303 h303 u303 q303 => ?_)
      · obtain ⟨eh303, rfl, r3⟩ := q303
        replace eh303 := eh303.symm
        subst eh303
        show zL zrx zi _ 60 18 [(0, _), (1, _), (2, _), (3, _), (4, _), (5, _), (6, _), (7, _)] [] _ _ _
        refine zSiload (m := 2) (k := 4) vr_60_18 rfl rfl rfl (fun x304 e304 => ?_)
        cases e304
        refine zSp0 (pc' := 21) (st' := .int (0) :: _) vr_60_20 rfl rfl ?_
        refine zSp0 (pc' := 23) (st' := .int (63) :: _) vr_60_21 rfl rfl ?_
        refine zScall vr_60_23 rfl rfl rfl (fun m307 _ => C_val _ _ _ _ _ _) (fun v307 h307 u307 q307 => ?_) (fun E307 h307 u307 q307 => ?_)
        · obtain ⟨eh307, rfl, r4⟩ := q307
          replace eh307 := eh307.symm
          subst eh307
          show zL zrx zi _ 60 26 [(0, _), (1, _), (2, _), (3, _), (4, _), (5, _), (6, _), (7, _)] [] _ _ _
          refine zSiload (m := 2) (k := 5) vr_60_26 rfl rfl rfl (fun x308 e308 => ?_)
          cases e308
          refine zSp0 (pc' := 29) (st' := .int (0) :: _) vr_60_28 rfl rfl ?_
          refine zSp0 (pc' := 31) (st' := .int (63) :: _) vr_60_29 rfl rfl ?_
          refine zScall vr_60_31 rfl rfl rfl (fun m311 _ => C_val _ _ _ _ _ _) (fun v311 h311 u311 q311 => ?_) (fun E311 h311 u311 q311 => ?_)
          · obtain ⟨eh311, rfl, r5⟩ := q311
            replace eh311 := eh311.symm
            subst eh311
            show zL zrx zi _ 60 34 [(0, _), (1, _), (2, _), (3, _), (4, _), (5, _), (6, _), (7, _)] [] _ _ _
            refine zSiload (m := 2) (k := 4) vr_60_34 rfl rfl rfl (fun x312 e312 => ?_)
            cases e312
            refine zSiload (m := 2) (k := 5) vr_60_36 rfl rfl rfl (fun x313 e313 => ?_)
            cases e313
            refine zS2 (f := fun x y => .int (x &&& y)) vr_60_38 rfl rfl (fun x314 y314 e314 f314 => ?_)
            cases e314
            cases f314
            refine zSp0 (pc' := 40) (st' := .int (0) :: _) vr_60_39 rfl rfl ?_
            refine zSp0 (pc' := 41) (st' := .int (0) :: _) vr_60_40 rfl rfl ?_
            refine zScall vr_60_41 rfl rfl rfl (fun m317 _ => C_val _ _ _ _ _ _) (fun v317 h317 u317 q317 => ?_) (fun E317 h317 u317 q317 => ?_)
            · obtain ⟨eh317, rfl, r6⟩ := q317
              replace eh317 := eh317.symm
              subst eh317
              show zL zrx zi _ 60 44 [(0, _), (1, _), (2, _), (3, _), (4, _), (5, _), (6, _), (7, _)] [] _ _ _
              refine zSiload (m := 2) (k := 6) vr_60_44 rfl rfl rfl (fun x318 e318 => ?_)
              cases e318
              refine zSp0 (pc' := 47) (st' := .int (0) :: _) vr_60_46 rfl rfl ?_
              refine zSp0 (pc' := 49) (st' := .int (100) :: _) vr_60_47 rfl rfl ?_
              refine zScall vr_60_49 rfl rfl rfl (fun m321 _ => C_val _ _ _ _ _ _) (fun v321 h321 u321 q321 => ?_) (fun E321 h321 u321 q321 => ?_)
              · obtain ⟨eh321, rfl, r7⟩ := q321
                replace eh321 := eh321.symm
                subst eh321
                show zL zrx zi _ 60 52 [(0, _), (1, _), (2, _), (3, _), (4, _), (5, _), (6, _), (7, _)] [] _ _ _
                refine zSiload (m := 2) (k := 7) vr_60_52 rfl rfl rfl (fun x322 e322 => ?_)
                cases e322
                refine zSp0 (pc' := 55) (st' := .int (1) :: _) vr_60_54 rfl rfl ?_
                refine zSp0 (pc' := 56) (st' := .int (5) :: _) vr_60_55 rfl rfl ?_
                refine zScall vr_60_56 rfl rfl rfl (fun m325 _ => C_val _ _ _ _ _ _) (fun v325 h325 u325 q325 => ?_) (fun E325 h325 u325 q325 => ?_)
                · obtain ⟨eh325, rfl, r8⟩ := q325
                  replace eh325 := eh325.symm
                  subst eh325
                  show zL zrx zi _ 60 59 [(0, _), (1, _), (2, _), (3, _), (4, _), (5, _), (6, _), (7, _)] [] _ _ _
                  refine zSaload (m := 1) (k := 0) vr_60_59 rfl rfl rfl ?_
                  refine zLget vr_60_60 rfl (fun p327 w327 e327 t327 g327 => ?_)
                  cases e327
                  first | (rw [(st_16_9 hS)] at g327; cases g327) | (rw [(st_28_0 hS)] at g327; cases g327) | (rw [hc] at g327; cases g327) | (rw [(st_rule hS hk)] at g327; cases g327) | skip
                  refine zLget vr_60_63 rfl (fun p328 w328 e328 t328 g328 => ?_)
                  cases e328
                  first | (rw [(st_16_9 hS)] at g328; cases g328) | (rw [(st_28_0 hS)] at g328; cases g328) | (rw [hc] at g328; cases g328) | (rw [(st_rule hS hk)] at g328; cases g328) | skip
                  refine zSp0 (pc' := 68) (st' := .int (40) :: _) vr_60_66 rfl rfl ?_
                  refine zSb2 (f := fun x y => decide (y ≤ x)) (off := 7) (t := 75) vr_60_68 rfl rfl rfl (fun x330 y330 e330 f330 q330 => ?_) (fun x330 y330 e330 f330 q330 => ?_)
                  · cases e330
                    cases f330
                    refine zSp0 (pc' := 76) (st' := .int (0) :: _) vr_60_75 rfl rfl ?_
                    refine zScall vr_60_76 rfl rfl rfl (fun m _ => C_needState _ _ _ _) (fun v h u q => absurd rfl q.2.2) (fun E h3 u q => ?_)
                    obtain ⟨rfl, -, q2⟩ := q
                    rw [zCat_no vh_60_76_2]
                    refine ⟨Or.inr (Or.inr rfl), q2, fun z => ?_⟩
                    have y := q330
                    have z40 : (40 : Int32).toInt = 40 := rfl
                    simp only [decide_eq_true_eq, i32_le] at y
                    have := z.2.2
                    omega
                  · cases e330
                    cases f330
                    have hcn : cnt.toInt < 40 := by
                      have y := q330
                      have z40 : (40 : Int32).toInt = 40 := rfl
                      simp only [decide_eq_true_eq, i32_le] at y
                      omega
                    have hk := n40 hcn
                    refine zSp0 (pc' := 72) (st' := .int (1) :: _) vr_60_71 rfl rfl ?_
                    refine zSgo (t := 76) vr_60_72 rfl rfl ?_
                    refine zScall vr_60_76 rfl rfl rfl (fun m333 _ => C_needState _ _ _ _) (fun v333 h333 u333 q333 => ?_) (fun E333 h333 u333 q333 => ?_)
                    · obtain ⟨eh333, rfl, -⟩ := q333
                      replace eh333 := eh333.symm
                      subst eh333
                      show zL zrx zi _ 60 79 [(0, _), (1, _), (2, _), (3, _), (4, _), (5, _), (6, _), (7, _)] [] _ _ _
                      refine zSaload (m := 1) (k := 0) vr_60_79 rfl rfl rfl ?_
                      refine zLget vr_60_80 rfl (fun p335 w335 e335 t335 g335 => ?_)
                      cases e335
                      first | (rw [(st_16_9 hS)] at g335; cases g335) | (rw [(st_28_0 hS)] at g335; cases g335) | (rw [hc] at g335; cases g335) | (rw [(st_rule hS hk)] at g335; cases g335) | skip
                      refine zLget vr_60_83 rfl (fun p336 w336 e336 t336 g336 => ?_)
                      cases e336
                      first | (rw [(st_16_9 hS)] at g336; cases g336) | (rw [(st_28_0 hS)] at g336; cases g336) | (rw [hc] at g336; cases g336) | (rw [(st_rule hS hk)] at g336; cases g336) | skip
                      refine zSaload (m := 1) (k := 0) vr_60_86 rfl rfl rfl ?_
                      refine zLget vr_60_87 rfl (fun p338 w338 e338 t338 g338 => ?_)
                      cases e338
                      first | (rw [(st_16_9 hS)] at g338; cases g338) | (rw [(st_28_0 hS)] at g338; cases g338) | (rw [hc] at g338; cases g338) | (rw [(st_rule hS hk)] at g338; cases g338) | skip
                      refine zLget vr_60_90 rfl (fun p339 w339 e339 t339 g339 => ?_)
                      cases e339
                      first | (rw [(st_16_9 hS)] at g339; cases g339) | (rw [(st_28_0 hS)] at g339; cases g339) | (rw [hc] at g339; cases g339) | (rw [(st_rule hS hk)] at g339; cases g339) | skip
                      refine zLaald vr_60_93 rfl (fun p340 x340 w340 e340 f340 c340 t340 g340 => ?_)
                      cases e340
                      cases f340
                      first | (rw [(st_16_9 hS)] at g340; cases g340) | (rw [(st_28_0 hS)] at g340; cases g340) | (rw [hc] at g340; cases g340) | (rw [(st_rule hS hk)] at g340; cases g340) | skip
                      refine zSastore (m := 2) (k := 8) vr_60_94 rfl rfl ?_
                      show zL zrx zi _ 60 96 [(8, _), (0, _), (1, _), (2, _), (3, _), (4, _), (5, _), (6, _), (7, _)] [] _ _ _
                      refine zSaload (m := 2) (k := 8) vr_60_96 rfl rfl rfl ?_
                      refine zSiload (m := 1) (k := 1) vr_60_98 rfl rfl rfl (fun x343 e343 => ?_)
                      cases e343
                      refine zLput vr_60_99 rfl (fun p344 k344 e344 t344 g344 => ?_)
                      cases e344
                      refine zSaload (m := 2) (k := 8) vr_60_102 rfl rfl rfl ?_
                      refine zSiload (m := 1) (k := 2) vr_60_104 rfl rfl rfl (fun x346 e346 => ?_)
                      cases e346
                      refine zLput vr_60_105 rfl (fun p347 k347 e347 t347 g347 => ?_)
                      cases e347
                      refine zSaload (m := 2) (k := 8) vr_60_108 rfl rfl rfl ?_
                      refine zSiload (m := 1) (k := 3) vr_60_110 rfl rfl rfl (fun x349 e349 => ?_)
                      cases e349
                      refine zLput vr_60_111 rfl (fun p350 k350 e350 t350 g350 => ?_)
                      cases e350
                      refine zSaload (m := 2) (k := 8) vr_60_114 rfl rfl rfl ?_
                      refine zSiload (m := 2) (k := 4) vr_60_116 rfl rfl rfl (fun x352 e352 => ?_)
                      cases e352
                      refine zLput vr_60_118 rfl (fun p353 k353 e353 t353 g353 => ?_)
                      cases e353
                      refine zSaload (m := 2) (k := 8) vr_60_121 rfl rfl rfl ?_
                      refine zSiload (m := 2) (k := 5) vr_60_123 rfl rfl rfl (fun x355 e355 => ?_)
                      cases e355
                      refine zLput vr_60_125 rfl (fun p356 k356 e356 t356 g356 => ?_)
                      cases e356
                      refine zSaload (m := 2) (k := 8) vr_60_128 rfl rfl rfl ?_
                      refine zSiload (m := 2) (k := 6) vr_60_130 rfl rfl rfl (fun x358 e358 => ?_)
                      cases e358
                      refine zLput vr_60_132 rfl (fun p359 k359 e359 t359 g359 => ?_)
                      cases e359
                      refine zSaload (m := 2) (k := 8) vr_60_135 rfl rfl rfl ?_
                      refine zSiload (m := 2) (k := 7) vr_60_137 rfl rfl rfl (fun x361 e361 => ?_)
                      cases e361
                      refine zLput vr_60_139 rfl (fun p362 k362 e362 t362 g362 => ?_)
                      cases e362
                      refine zSaload (m := 2) (k := 8) vr_60_142 rfl rfl rfl ?_
                      refine zSp0 (pc' := 146) (st' := .int (10) :: _) vr_60_144 rfl rfl ?_
                      refine zSiload (m := 2) (k := 4) vr_60_146 rfl rfl rfl (fun x365 e365 => ?_)
                      cases e365
                      refine zSiload (m := 2) (k := 5) vr_60_148 rfl rfl rfl (fun x366 e366 => ?_)
                      cases e366
                      refine zS2 (f := fun x y => .int (x ||| y)) vr_60_150 rfl rfl (fun x367 y367 e367 f367 => ?_)
                      cases e367
                      cases f367
                      refine zScall vr_60_151 rfl rfl rfl (fun m368 _ => C_bits _ _ _ _) (fun v368 h368 u368 q368 => ?_) (fun E368 h368 u368 q368 => ?_)
                      · obtain ⟨eh368, z368⟩ := q368
                        replace eh368 := eh368.symm
                        subst eh368
                        cases z368
                        show zL zrx zi _ 60 154 [(8, _), (0, _), (1, _), (2, _), (3, _), (4, _), (5, _), (6, _), (7, _)] [_, _, _] _ _ _
                        refine zS2 (f := fun x y => .int (x * y)) vr_60_154 rfl rfl (fun x369 y369 e369 f369 => ?_)
                        cases e369
                        cases f369
                        refine zSiload (m := 2) (k := 7) vr_60_155 rfl rfl rfl (fun x370 e370 => ?_)
                        cases e370
                        refine zS2 (f := fun x y => .int (x + y)) vr_60_157 rfl rfl (fun x371 y371 e371 f371 => ?_)
                        cases e371
                        cases f371
                        refine zLput vr_60_158 rfl (fun p372 k372 e372 t372 g372 => ?_)
                        cases e372
                        have fr1 : ∀ q k, ¬ q = (31 + cnt.toNatClampNeg) → gF k372 q k = gF h q k := fun q k z => by
                          rw [g372.2.1, if_neg (fun y => z y.1), g362.2.1, if_neg (fun y => z y.1), g359.2.1, if_neg (fun y => z y.1), g356.2.1, if_neg (fun y => z y.1), g353.2.1, if_neg (fun y => z y.1), g350.2.1, if_neg (fun y => z y.1), g347.2.1, if_neg (fun y => z y.1), g344.2.1, if_neg (fun y => z y.1)]
                        refine zSaload (m := 2) (k := 8) vr_60_161 rfl rfl rfl ?_
                        refine zSaload (m := 1) (k := 0) vr_60_163 rfl rfl rfl ?_
                        refine zLget vr_60_164 rfl (fun p375 w375 e375 t375 g375 => ?_)
                        cases e375
                        first | (rw [((fr1 16 9 (by omega)).trans (st_16_9 hS))] at g375; cases g375) | skip
                        have gd := g375
                        rw [fr1 16 0 (by omega)] at gd
                        refine zLput vr_60_167 rfl (fun p376 k376 e376 t376 g376 => ?_)
                        cases e376
                        have fr2 : ∀ q k, ¬ q = (31 + cnt.toNatClampNeg) → gF k376 q k = gF h q k := fun q k z => by
                          rw [g376.2.1, if_neg (fun y => z y.1), g372.2.1, if_neg (fun y => z y.1), g362.2.1, if_neg (fun y => z y.1), g359.2.1, if_neg (fun y => z y.1), g356.2.1, if_neg (fun y => z y.1), g353.2.1, if_neg (fun y => z y.1), g350.2.1, if_neg (fun y => z y.1), g347.2.1, if_neg (fun y => z y.1), g344.2.1, if_neg (fun y => z y.1)]
                        refine zSaload (m := 1) (k := 0) vr_60_170 rfl rfl rfl ?_
                        refine zLget vr_60_171 rfl (fun p378 w378 e378 t378 g378 => ?_)
                        cases e378
                        first | (rw [((fr2 16 9 (by omega)).trans (st_16_9 hS))] at g378; cases g378) | (rw [((fr2 28 2 (by omega)).trans hc)] at g378; cases g378) | skip
                        refine zSdup vr_60_174 rfl ?_
                        refine zLget vr_60_175 rfl (fun p380 w380 e380 t380 g380 => ?_)
                        cases e380
                        first | (rw [((fr2 16 9 (by omega)).trans (st_16_9 hS))] at g380; cases g380) | (rw [((fr2 28 2 (by omega)).trans hc)] at g380; cases g380) | skip
                        refine zSp0 (pc' := 179) (st' := .int (1) :: _) vr_60_178 rfl rfl ?_
                        refine zS2 (f := fun x y => .int (x + y)) vr_60_179 rfl rfl (fun x382 y382 e382 f382 => ?_)
                        cases e382
                        cases f382
                        refine zLput vr_60_180 rfl (fun p383 k383 e383 t383 g383 => ?_)
                        cases e383
                        have fr3 : ∀ q k, ¬ q = (31 + cnt.toNatClampNeg) → ¬ (q = 28 ∧ k = 2) → gF k383 q k = gF h q k := fun q k z y => by
                          rw [g383.2.1, if_neg y, fr2 q k z]
                        have cn3 : gF k383 28 2 = some (.int (cnt + 1)) := by
                          rw [g383.2.1, if_pos ⟨rfl, rfl⟩]
                        refine zSaload (m := 1) (k := 0) vr_60_183 rfl rfl rfl ?_
                        refine zLget vr_60_184 rfl (fun p385 w385 e385 t385 g385 => ?_)
                        cases e385
                        first | (rw [((fr3 16 9 (by omega) (by omega)).trans (st_16_9 hS))] at g385; cases g385) | (rw [cn3] at g385; cases g385) | skip
                        refine zLget vr_60_187 rfl (fun p386 w386 e386 t386 g386 => ?_)
                        cases e386
                        first | (rw [((fr3 16 9 (by omega) (by omega)).trans (st_16_9 hS))] at g386; cases g386) | (rw [cn3] at g386; cases g386) | skip
                        refine zSp0 (pc' := 191) (st' := .int (1) :: _) vr_60_190 rfl rfl ?_
                        refine zS2 (f := fun x y => .int (x - y)) vr_60_191 rfl rfl (fun x388 y388 e388 f388 => ?_)
                        cases e388
                        cases f388
                        refine zLiret vr_60_192 rfl (fun x389 e389 => ?_)
                        cases e389
                        exact ⟨⟨⟨r1, r2⟩, ⟨r3, r4, r5, r6, r7, r8⟩, hcn⟩, ⟨_, rfl⟩, fr3, cn3, ⟨by rw [g383.2.1, if_neg (by omega), g376.2.1, if_neg (by omega), g372.2.1, if_neg (by omega), g362.2.1, if_neg (by omega), g359.2.1, if_neg (by omega), g356.2.1, if_neg (by omega), g353.2.1, if_neg (by omega), g350.2.1, if_neg (by omega), g347.2.1, if_neg (by omega), g344.2.1, if_pos ⟨rfl, rfl⟩], by rw [g383.2.1, if_neg (by omega), g376.2.1, if_neg (by omega), g372.2.1, if_neg (by omega), g362.2.1, if_neg (by omega), g359.2.1, if_neg (by omega), g356.2.1, if_neg (by omega), g353.2.1, if_neg (by omega), g350.2.1, if_neg (by omega), g347.2.1, if_pos ⟨rfl, rfl⟩], by rw [g383.2.1, if_neg (by omega), g376.2.1, if_neg (by omega), g372.2.1, if_neg (by omega), g362.2.1, if_neg (by omega), g359.2.1, if_neg (by omega), g356.2.1, if_neg (by omega), g353.2.1, if_neg (by omega), g350.2.1, if_pos ⟨rfl, rfl⟩], by rw [g383.2.1, if_neg (by omega), g376.2.1, if_neg (by omega), g372.2.1, if_neg (by omega), g362.2.1, if_neg (by omega), g359.2.1, if_neg (by omega), g356.2.1, if_neg (by omega), g353.2.1, if_pos ⟨rfl, rfl⟩], by rw [g383.2.1, if_neg (by omega), g376.2.1, if_neg (by omega), g372.2.1, if_neg (by omega), g362.2.1, if_neg (by omega), g359.2.1, if_neg (by omega), g356.2.1, if_pos ⟨rfl, rfl⟩], by rw [g383.2.1, if_neg (by omega), g376.2.1, if_neg (by omega), g372.2.1, if_neg (by omega), g362.2.1, if_neg (by omega), g359.2.1, if_pos ⟨rfl, rfl⟩], by rw [g383.2.1, if_neg (by omega), g376.2.1, if_neg (by omega), g372.2.1, if_neg (by omega), g362.2.1, if_pos ⟨rfl, rfl⟩]⟩, by rw [g383.2.1, if_neg (by omega), g376.2.1, if_neg (by omega), g372.2.1, if_pos ⟨rfl, rfl⟩], Eq.trans (by rw [g383.2.1, if_neg (by omega), g376.2.1, if_pos ⟨rfl, rfl⟩]) gd.symm, by rw [g383.2.1, if_neg (by omega), g376.2.1, if_neg (by omega), g372.2.1, if_neg (by omega), g362.2.1, if_neg (by omega), g359.2.1, if_neg (by omega), g356.2.1, if_neg (by omega), g353.2.1, if_neg (by omega), g350.2.1, if_neg (by omega), g347.2.1, if_neg (by omega), g344.2.1, if_neg (by omega)], by rw [g383.2.1, if_neg (by omega), g376.2.1, if_neg (by omega), g372.2.1, if_neg (by omega), g362.2.1, if_neg (by omega), g359.2.1, if_neg (by omega), g356.2.1, if_neg (by omega), g353.2.1, if_neg (by omega), g350.2.1, if_neg (by omega), g347.2.1, if_neg (by omega), g344.2.1, if_neg (by omega)], by rw [g383.1, g376.1, g372.1, g362.1, g359.1, g356.1, g353.1, g350.1, g347.1, g344.1], fun p => ⟨by rw [g383.2.2.1, g376.2.2.1, g372.2.2.1, g362.2.2.1, g359.2.2.1, g356.2.2.1, g353.2.2.1, g350.2.2.1, g347.2.2.1, g344.2.2.1], by rw [g383.2.2.2, g376.2.2.2, g372.2.2.2, g362.2.2.2, g359.2.2.2, g356.2.2.2, g353.2.2.2, g350.2.2.2, g347.2.2.2, g344.2.2.2]⟩⟩
                      · obtain ⟨-, z⟩ := q368
                        cases z
                    · obtain ⟨-, z, -⟩ := q333
                      exact absurd z (by decide)
                · obtain ⟨rfl, q1, q2⟩ := q325
                  rw [zCat_no vh_60_56_1]
                  exact ⟨Or.inr (Or.inl rfl), q2, fun z => q1 z.2.1.2.2.2.2.2⟩
              · obtain ⟨rfl, q1, q2⟩ := q321
                rw [zCat_no vh_60_49_1]
                exact ⟨Or.inr (Or.inl rfl), q2, fun z => q1 z.2.1.2.2.2.2.1⟩
            · obtain ⟨rfl, q1, q2⟩ := q317
              rw [zCat_no vh_60_41_1]
              exact ⟨Or.inr (Or.inl rfl), q2, fun z => q1 z.2.1.2.2.2.1⟩
          · obtain ⟨rfl, q1, q2⟩ := q311
            rw [zCat_no vh_60_31_1]
            exact ⟨Or.inr (Or.inl rfl), q2, fun z => q1 z.2.1.2.2.1⟩
        · obtain ⟨rfl, q1, q2⟩ := q307
          rw [zCat_no vh_60_23_1]
          exact ⟨Or.inr (Or.inl rfl), q2, fun z => q1 z.2.1.2.1⟩
      · obtain ⟨rfl, q1, q2⟩ := q303
        rw [zCat_no vh_60_15_1]
        exact ⟨Or.inr (Or.inl rfl), q2, fun z => q1 z.2.1.1⟩
    · obtain ⟨rfl, q1, q2⟩ := q299
      rw [zCat_no vh_60_8_0]
      exact ⟨Or.inl rfl, q2, fun z => q1 z.1.2⟩
  · obtain ⟨rfl, q1, q2⟩ := q296
    rw [zCat_no vh_60_3_0]
    exact ⟨Or.inl rfl, q2, fun z => q1 z.1.1⟩
abbrev Q_Lrule (cnt : Int32) (p m c a b s r : Int32) (h : List zC) : zK := fun o h2 _ => ∃ k : Int32, o = .inl (some (.int k)) ∧ ((k = 0 ∧ okR p m c a b s r cnt ∧ ∃ (h1 : List zC) (w : Value), RM h h1 (31 + cnt.toNatClampNeg) cnt p m c a b s r ∧ hPut h1 h2 238 0 w) ∨ (¬ k = 0 ∧ ¬ okR p m c a b s r cnt ∧ hExt h h2))
theorem C_Lrule (n : Nat) (p m c a b s r : Int32) (h : List zC) (u : Nat) {cnt : Int32} (hS : Stc h) (hc : gF h 28 2 = some (.int cnt)) : zL zrx zi n 211 0 [(0, .ref 16), (1, .int p), (2, .int m), (3, .int c), (4, .int a), (5, .int b), (6, .int s), (7, .int r), (8, .ref 238)] [] h u (Q_Lrule cnt p m c a b s r h) := by
  refine zSaload (m := 2) (k := 8) vr_211_0 rfl rfl rfl ?_
  refine zSaload (m := 1) (k := 0) vr_211_2 rfl rfl rfl ?_
  refine zSiload (m := 1) (k := 1) vr_211_3 rfl rfl rfl (fun x392 e392 => ?_)
  cases e392
  refine zSiload (m := 1) (k := 2) vr_211_4 rfl rfl rfl (fun x393 e393 => ?_)
  cases e393
  refine zSiload (m := 1) (k := 3) vr_211_5 rfl rfl rfl (fun x394 e394 => ?_)
  cases e394
  refine zSiload (m := 2) (k := 4) vr_211_6 rfl rfl rfl (fun x395 e395 => ?_)
  cases e395
  refine zSiload (m := 2) (k := 5) vr_211_8 rfl rfl rfl (fun x396 e396 => ?_)
  cases e396
  refine zSiload (m := 2) (k := 6) vr_211_10 rfl rfl rfl (fun x397 e397 => ?_)
  cases e397
  refine zSiload (m := 2) (k := 7) vr_211_12 rfl rfl rfl (fun x398 e398 => ?_)
  cases e398
  refine zScall vr_211_14 rfl rfl rfl (fun m399 _ => C_rule _ _ _ _ _ _ _ _ _ _ hS hc) (fun v399 h399 u399 q399 => ?_) (fun E399 h399 u399 q399 => ?_)
  · obtain ⟨k1, ⟨x399, rfl⟩, k2⟩ := q399
    show zL zrx zi _ 211 17 [(0, _), (1, _), (2, _), (3, _), (4, _), (5, _), (6, _), (7, _), (8, _)] [_, _] _ _ _
    refine zS1 (f := fun x => .long x.toInt64) vr_211_17 rfl rfl (fun x400 e400 => ?_)
    cases e400
    refine zLput vr_211_18 rfl (fun p401 k401 e401 t401 g401 => ?_)
    cases e401
    have gP := g401
    refine zSgo (t := 36) vr_211_21 rfl rfl ?_
    refine zSp0 (pc' := 37) (st' := .int (0) :: _) vr_211_36 rfl rfl ?_
    refine zLiret vr_211_37 rfl (fun x404 e404 => ?_)
    cases e404
    exact ⟨_, rfl, Or.inl ⟨rfl, k1, _, _, k2, gP⟩⟩
  · obtain ⟨e, q1, z⟩ := q399
    rcases e with rfl | rfl | rfl
    · rw [zCat_hit (k := 9) (m := 2) vh_211_14_0 vr_211_24 rfl (by decide)]
      show zL zrx zi _ 211 26 [(0, _), (1, _), (2, _), (3, _), (4, _), (5, _), (6, _), (7, _), (8, _)] [] _ _ _
      refine zSp0 (pc' := 27) (st' := .int (1) :: _) vr_211_26 rfl rfl ?_
      refine zLiret vr_211_27 rfl (fun x406 e406 => ?_)
      cases e406
      exact ⟨_, rfl, Or.inr ⟨by decide, z, q1⟩⟩
    · rw [zCat_hit (k := 9) (m := 2) vh_211_14_1 vr_211_28 rfl (by decide)]
      show zL zrx zi _ 211 30 [(0, _), (1, _), (2, _), (3, _), (4, _), (5, _), (6, _), (7, _), (8, _)] [] _ _ _
      refine zSp0 (pc' := 31) (st' := .int (2) :: _) vr_211_30 rfl rfl ?_
      refine zLiret vr_211_31 rfl (fun x408 e408 => ?_)
      cases e408
      exact ⟨_, rfl, Or.inr ⟨by decide, z, q1⟩⟩
    · rw [zCat_hit (k := 9) (m := 2) vh_211_14_2 vr_211_32 rfl (by decide)]
      show zL zrx zi _ 211 34 [(0, _), (1, _), (2, _), (3, _), (4, _), (5, _), (6, _), (7, _), (8, _)] [] _ _ _
      refine zSp0 (pc' := 35) (st' := .int (3) :: _) vr_211_34 rfl rfl ?_
      refine zLiret vr_211_35 rfl (fun x410 e410 => ?_)
      cases e410
      exact ⟨_, rfl, Or.inr ⟨by decide, z, q1⟩⟩
theorem C_irule (n : Nat) (q : Nat) (p m c a b s r d : Int32) (h : List zC) (u : Nat) : zL zrx zi n 126 0 [(0, .ref q), (1, .int p), (2, .int m), (3, .int c), (4, .int a), (5, .int b), (6, .int s), (7, .int r), (8, .int d)] [] h u (fun o h2 _ => o = .inl none ∧ IM h h2 q p m c a b s r d) := by
  refine zSaload (m := 1) (k := 0) vr_126_0 rfl rfl rfl ?_
  refine zSobj vr_126_1 rfl ?_
  refine zSaload (m := 1) (k := 0) vr_126_4 rfl rfl rfl ?_
  refine zSp0 (pc' := 8) (st' := .int (999) :: _) vr_126_5 rfl rfl ?_
  refine zLput vr_126_8 rfl (fun p415 k415 e415 t415 g415 => ?_)
  cases e415
  refine zSaload (m := 1) (k := 0) vr_126_11 rfl rfl rfl ?_
  refine zSiload (m := 1) (k := 1) vr_126_12 rfl rfl rfl (fun x417 e417 => ?_)
  cases e417
  refine zLput vr_126_13 rfl (fun p418 k418 e418 t418 g418 => ?_)
  cases e418
  refine zSaload (m := 1) (k := 0) vr_126_16 rfl rfl rfl ?_
  refine zSiload (m := 1) (k := 2) vr_126_17 rfl rfl rfl (fun x420 e420 => ?_)
  cases e420
  refine zLput vr_126_18 rfl (fun p421 k421 e421 t421 g421 => ?_)
  cases e421
  refine zSaload (m := 1) (k := 0) vr_126_21 rfl rfl rfl ?_
  refine zSiload (m := 1) (k := 3) vr_126_22 rfl rfl rfl (fun x423 e423 => ?_)
  cases e423
  refine zLput vr_126_23 rfl (fun p424 k424 e424 t424 g424 => ?_)
  cases e424
  refine zSaload (m := 1) (k := 0) vr_126_26 rfl rfl rfl ?_
  refine zSiload (m := 2) (k := 4) vr_126_27 rfl rfl rfl (fun x426 e426 => ?_)
  cases e426
  refine zLput vr_126_29 rfl (fun p427 k427 e427 t427 g427 => ?_)
  cases e427
  refine zSaload (m := 1) (k := 0) vr_126_32 rfl rfl rfl ?_
  refine zSiload (m := 2) (k := 5) vr_126_33 rfl rfl rfl (fun x429 e429 => ?_)
  cases e429
  refine zLput vr_126_35 rfl (fun p430 k430 e430 t430 g430 => ?_)
  cases e430
  refine zSaload (m := 1) (k := 0) vr_126_38 rfl rfl rfl ?_
  refine zSiload (m := 2) (k := 6) vr_126_39 rfl rfl rfl (fun x432 e432 => ?_)
  cases e432
  refine zLput vr_126_41 rfl (fun p433 k433 e433 t433 g433 => ?_)
  cases e433
  refine zSaload (m := 1) (k := 0) vr_126_44 rfl rfl rfl ?_
  refine zSiload (m := 2) (k := 7) vr_126_45 rfl rfl rfl (fun x435 e435 => ?_)
  cases e435
  refine zLput vr_126_47 rfl (fun p436 k436 e436 t436 g436 => ?_)
  cases e436
  refine zSaload (m := 1) (k := 0) vr_126_50 rfl rfl rfl ?_
  refine zSiload (m := 2) (k := 8) vr_126_51 rfl rfl rfl (fun x438 e438 => ?_)
  cases e438
  refine zLput vr_126_53 rfl (fun p439 k439 e439 t439 g439 => ?_)
  cases e439
  refine zSvoid vr_126_56 rfl ?_
  exact ⟨rfl, fun x k z => by rw [g439.2.1, if_neg (fun y => z y.1), g436.2.1, if_neg (fun y => z y.1), g433.2.1, if_neg (fun y => z y.1), g430.2.1, if_neg (fun y => z y.1), g427.2.1, if_neg (fun y => z y.1), g424.2.1, if_neg (fun y => z y.1), g421.2.1, if_neg (fun y => z y.1), g418.2.1, if_neg (fun y => z y.1), g415.2.1, if_neg (fun y => z y.1)], ⟨by rw [g439.2.1, if_neg (by omega), g436.2.1, if_neg (by omega), g433.2.1, if_neg (by omega), g430.2.1, if_neg (by omega), g427.2.1, if_neg (by omega), g424.2.1, if_neg (by omega), g421.2.1, if_neg (by omega), g418.2.1, if_pos ⟨rfl, rfl⟩], by rw [g439.2.1, if_neg (by omega), g436.2.1, if_neg (by omega), g433.2.1, if_neg (by omega), g430.2.1, if_neg (by omega), g427.2.1, if_neg (by omega), g424.2.1, if_neg (by omega), g421.2.1, if_pos ⟨rfl, rfl⟩], by rw [g439.2.1, if_neg (by omega), g436.2.1, if_neg (by omega), g433.2.1, if_neg (by omega), g430.2.1, if_neg (by omega), g427.2.1, if_neg (by omega), g424.2.1, if_pos ⟨rfl, rfl⟩], by rw [g439.2.1, if_neg (by omega), g436.2.1, if_neg (by omega), g433.2.1, if_neg (by omega), g430.2.1, if_neg (by omega), g427.2.1, if_pos ⟨rfl, rfl⟩], by rw [g439.2.1, if_neg (by omega), g436.2.1, if_neg (by omega), g433.2.1, if_neg (by omega), g430.2.1, if_pos ⟨rfl, rfl⟩], by rw [g439.2.1, if_neg (by omega), g436.2.1, if_neg (by omega), g433.2.1, if_pos ⟨rfl, rfl⟩], by rw [g439.2.1, if_neg (by omega), g436.2.1, if_pos ⟨rfl, rfl⟩], by rw [g439.2.1, if_pos ⟨rfl, rfl⟩]⟩, by rw [g439.2.1, if_neg (by omega), g436.2.1, if_neg (by omega), g433.2.1, if_neg (by omega), g430.2.1, if_neg (by omega), g427.2.1, if_neg (by omega), g424.2.1, if_neg (by omega), g421.2.1, if_neg (by omega), g418.2.1, if_neg (by omega), g415.2.1, if_neg (by omega)], by rw [g439.2.1, if_neg (by omega), g436.2.1, if_neg (by omega), g433.2.1, if_neg (by omega), g430.2.1, if_neg (by omega), g427.2.1, if_neg (by omega), g424.2.1, if_neg (by omega), g421.2.1, if_neg (by omega), g418.2.1, if_neg (by omega), g415.2.1, if_pos ⟨rfl, rfl⟩], by rw [g439.1, g436.1, g433.1, g430.1, g427.1, g424.1, g421.1, g418.1, g415.1], fun p => ⟨by rw [g439.2.2.1, g436.2.2.1, g433.2.2.1, g430.2.2.1, g427.2.2.1, g424.2.2.1, g421.2.2.1, g418.2.2.1, g415.2.2.1], by rw [g439.2.2.2, g436.2.2.2, g433.2.2.2, g430.2.2.2, g427.2.2.2, g424.2.2.2, g421.2.2.2, g418.2.2.2, g415.2.2.2]⟩⟩
abbrev Q_mrule (el : Nat) (cnt d : Int32) (p m c a b s r : Int32) (h : List zC) : zK := fun o h2 _ => ∃ (x : Int32) (h0 : List zC), o = .inl (some (.int x)) ∧ hPut h h0 213 0 (.int 0) ∧ ((okR p m c a b s r cnt ∧ MM h h2 el cnt p m c a b s r d) ∨ (¬ okR p m c a b s r cnt ∧ ∃ k : Int32, ¬ k = 0 ∧ hPut h0 h2 213 0 (.int k)))
theorem C_mrule (n : Nat) (p m c a b s r : Int32) (h : List zC) (u : Nat) {el l : Nat} {cnt : Int32} (hS : Stc h) (hs : gF h 223 2 = some (.int cnt)) (hL : gF h 223 1 = some (.ref el)) (hn : gN h el = some l) (hl2 : l < 2147483648) (tE : ∃ t, gT h el = some t ∧ 93 ≤ t) (h40 : cnt.toInt ≤ 40) (h213 : ¬ el = 213) {d : Int32} (hd : gF h 213 1 = some (.int d)) : zL zrx zi n 153 0 [(0, .ref 213), (1, .int p), (2, .int m), (3, .int c), (4, .int a), (5, .int b), (6, .int s), (7, .int r)] [] h u (Q_mrule el cnt d p m c a b s r h) := by
  refine zSaload (m := 1) (k := 0) vr_153_0 rfl rfl rfl ?_
  refine zSp0 (pc' := 2) (st' := .int (0) :: _) vr_153_1 rfl rfl ?_
  refine zLput vr_153_2 rfl (fun p443 k443 e443 t443 g443 => ?_)
  cases e443
  have t0 := g443
  have hS0 := hS.thr t0
  have f0 : ∀ q k, ¬ (q = 213 ∧ k = 0) → gF k443 q k = gF h q k := fun q k z => by rw [t0.2.1, if_neg z]
  have hs0 := (f0 223 2 (by omega)).trans hs
  refine zSiload (m := 1) (k := 1) vr_153_5 rfl rfl rfl (fun x444 e444 => ?_)
  cases e444
  refine zSp0 (pc' := 7) (st' := .int (0) :: _) vr_153_6 rfl rfl ?_
  refine zSp0 (pc' := 8) (st' := .int (5) :: _) vr_153_7 rfl rfl ?_
  refine zScall vr_153_8 rfl rfl rfl (fun m447 _ => C_in _ _ _ _ _ _) (fun v447 h447 u447 q447 => ?_) (fun E447 h447 u447 q447 => ?_)
  · obtain ⟨eh447, z447⟩ := q447
    replace eh447 := eh447.symm
    subst eh447
    cases z447
    show zL zrx zi _ 153 11 [(0, _), (1, _), (2, _), (3, _), (4, _), (5, _), (6, _), (7, _)] [_] _ _ _
    refine zSb1 (f := fun x => decide (x = 0)) (off := 12) (t := 23) vr_153_11 rfl rfl rfl (fun x448 e448 q448 => ?_) (fun x448 e448 q448 => ?_)
    · cases e448
      refine zSaload (m := 1) (k := 0) vr_153_23 rfl rfl rfl ?_
      refine zSp0 (pc' := 25) (st' := .int (1) :: _) vr_153_24 rfl rfl ?_
      refine zScall vr_153_25 rfl rfl rfl (fun m451 _ => C_no _ _ _ _ _) (fun v451 h451 u451 q451 => ?_) (fun E451 h451 u451 q451 => ?_)
      · obtain ⟨gn451, z451⟩ := q451
        cases z451
        show zL zrx zi _ 153 28 [(0, _), (1, _), (2, _), (3, _), (4, _), (5, _), (6, _), (7, _)] [_] _ _ _
        refine zLiret vr_153_28 rfl (fun x452 e452 => ?_)
        cases e452
        first
          | exact ⟨_, _, rfl, t0, Or.inr ⟨fun z => in_n (x := p) (hi := 5) (m := 6) (by decide) (of_decide_eq_true q448) z.1.1, _, by decide, gn451⟩⟩
          | exact ⟨_, _, rfl, t0, Or.inr ⟨fun z => in_n (x := m) (hi := 3) (m := 4) (by decide) (by simpa using q305) z.1.2, _, by decide, gn451⟩⟩
      · obtain ⟨-, z⟩ := q451
        cases z
    · cases e448
      refine zSiload (m := 1) (k := 2) vr_153_14 rfl rfl rfl (fun x453 e453 => ?_)
      cases e453
      refine zSp0 (pc' := 16) (st' := .int (0) :: _) vr_153_15 rfl rfl ?_
      refine zSp0 (pc' := 17) (st' := .int (3) :: _) vr_153_16 rfl rfl ?_
      refine zScall vr_153_17 rfl rfl rfl (fun m456 _ => C_in _ _ _ _ _ _) (fun v456 h456 u456 q456 => ?_) (fun E456 h456 u456 q456 => ?_)
      · obtain ⟨eh456, z456⟩ := q456
        replace eh456 := eh456.symm
        subst eh456
        cases z456
        show zL zrx zi _ 153 20 [(0, _), (1, _), (2, _), (3, _), (4, _), (5, _), (6, _), (7, _)] [_] _ _ _
        refine zSb1 (f := fun x => decide (¬ x = 0)) (off := 9) (t := 29) vr_153_20 rfl rfl rfl (fun x457 e457 q457 => ?_) (fun x457 e457 q457 => ?_)
        · cases e457
          refine zSiload (m := 1) (k := 3) vr_153_29 rfl rfl rfl (fun x458 e458 => ?_)
          cases e458
          refine zSp0 (pc' := 31) (st' := .int (1) :: _) vr_153_30 rfl rfl ?_
          refine zSp0 (pc' := 33) (st' := .int (15) :: _) vr_153_31 rfl rfl ?_
          refine zScall vr_153_33 rfl rfl rfl (fun m461 _ => C_in _ _ _ _ _ _) (fun v461 h461 u461 q461 => ?_) (fun E461 h461 u461 q461 => ?_)
          · obtain ⟨eh461, z461⟩ := q461
            replace eh461 := eh461.symm
            subst eh461
            cases z461
            show zL zrx zi _ 153 36 [(0, _), (1, _), (2, _), (3, _), (4, _), (5, _), (6, _), (7, _)] [_] _ _ _
            refine zSb1 (f := fun x => decide (x = 0)) (off := 54) (t := 90) vr_153_36 rfl rfl rfl (fun x462 e462 q462 => ?_) (fun x462 e462 q462 => ?_)
            · cases e462
              refine zSaload (m := 1) (k := 0) vr_153_90 rfl rfl rfl ?_
              refine zSp0 (pc' := 92) (st' := .int (2) :: _) vr_153_91 rfl rfl ?_
              refine zScall vr_153_92 rfl rfl rfl (fun m465 _ => C_no _ _ _ _ _) (fun v465 h465 u465 q465 => ?_) (fun E465 h465 u465 q465 => ?_)
              · obtain ⟨gn465, z465⟩ := q465
                cases z465
                show zL zrx zi _ 153 95 [(0, _), (1, _), (2, _), (3, _), (4, _), (5, _), (6, _), (7, _)] [_] _ _ _
                refine zLiret vr_153_95 rfl (fun x466 e466 => ?_)
                cases e466
                first
                  | exact ⟨_, _, rfl, t0, Or.inr ⟨fun z => inB_n (of_decide_eq_true q462) z.2.1.1, _, by decide, gn465⟩⟩
                  | exact ⟨_, _, rfl, t0, Or.inr ⟨fun z => inB_n (of_decide_eq_true q436) z.2.1.2.1, _, by decide, gn465⟩⟩
                  | exact ⟨_, _, rfl, t0, Or.inr ⟨fun z => inB_n (of_decide_eq_true q65) z.2.1.2.2.1, _, by decide, gn465⟩⟩
                  | exact ⟨_, _, rfl, t0, Or.inr ⟨fun z => (of_decide_eq_true q329) (rI0.mp z.2.1.2.2.2.1), _, by decide, gn465⟩⟩
                  | exact ⟨_, _, rfl, t0, Or.inr ⟨fun z => inB_n (of_decide_eq_true q0) z.2.1.2.2.2.2.1, _, by decide, gn465⟩⟩
                  | exact ⟨_, _, rfl, t0, Or.inr ⟨fun z => inB_n (by simpa using q338) z.2.1.2.2.2.2.2, _, by decide, gn465⟩⟩
              · obtain ⟨-, z⟩ := q465
                cases z
            · cases e462
              refine zSiload (m := 2) (k := 4) vr_153_39 rfl rfl rfl (fun x467 e467 => ?_)
              cases e467
              refine zSp0 (pc' := 42) (st' := .int (0) :: _) vr_153_41 rfl rfl ?_
              refine zSp0 (pc' := 44) (st' := .int (63) :: _) vr_153_42 rfl rfl ?_
              refine zScall vr_153_44 rfl rfl rfl (fun m470 _ => C_in _ _ _ _ _ _) (fun v470 h470 u470 q470 => ?_) (fun E470 h470 u470 q470 => ?_)
              · obtain ⟨eh470, z470⟩ := q470
                replace eh470 := eh470.symm
                subst eh470
                cases z470
                show zL zrx zi _ 153 47 [(0, _), (1, _), (2, _), (3, _), (4, _), (5, _), (6, _), (7, _)] [_] _ _ _
                refine zSb1 (f := fun x => decide (x = 0)) (off := 43) (t := 90) vr_153_47 rfl rfl rfl (fun x471 e471 q471 => ?_) (fun x471 e471 q471 => ?_)
                · cases e471
                  refine zSaload (m := 1) (k := 0) vr_153_90 rfl rfl rfl ?_
                  refine zSp0 (pc' := 92) (st' := .int (2) :: _) vr_153_91 rfl rfl ?_
                  refine zScall vr_153_92 rfl rfl rfl (fun m474 _ => C_no _ _ _ _ _) (fun v474 h474 u474 q474 => ?_) (fun E474 h474 u474 q474 => ?_)
                  · obtain ⟨gn474, z474⟩ := q474
                    cases z474
                    show zL zrx zi _ 153 95 [(0, _), (1, _), (2, _), (3, _), (4, _), (5, _), (6, _), (7, _)] [_] _ _ _
                    refine zLiret vr_153_95 rfl (fun x475 e475 => ?_)
                    cases e475
                    first
                      | exact ⟨_, _, rfl, t0, Or.inr ⟨fun z => inB_n (of_decide_eq_true q462) z.2.1.1, _, by decide, gn474⟩⟩
                      | exact ⟨_, _, rfl, t0, Or.inr ⟨fun z => inB_n (of_decide_eq_true q471) z.2.1.2.1, _, by decide, gn474⟩⟩
                      | exact ⟨_, _, rfl, t0, Or.inr ⟨fun z => inB_n (of_decide_eq_true q65) z.2.1.2.2.1, _, by decide, gn474⟩⟩
                      | exact ⟨_, _, rfl, t0, Or.inr ⟨fun z => (of_decide_eq_true q329) (rI0.mp z.2.1.2.2.2.1), _, by decide, gn474⟩⟩
                      | exact ⟨_, _, rfl, t0, Or.inr ⟨fun z => inB_n (of_decide_eq_true q0) z.2.1.2.2.2.2.1, _, by decide, gn474⟩⟩
                      | exact ⟨_, _, rfl, t0, Or.inr ⟨fun z => inB_n (by simpa using q338) z.2.1.2.2.2.2.2, _, by decide, gn474⟩⟩
                  · obtain ⟨-, z⟩ := q474
                    cases z
                · cases e471
                  refine zSiload (m := 2) (k := 5) vr_153_50 rfl rfl rfl (fun x476 e476 => ?_)
                  cases e476
                  refine zSp0 (pc' := 53) (st' := .int (0) :: _) vr_153_52 rfl rfl ?_
                  refine zSp0 (pc' := 55) (st' := .int (63) :: _) vr_153_53 rfl rfl ?_
                  refine zScall vr_153_55 rfl rfl rfl (fun m479 _ => C_in _ _ _ _ _ _) (fun v479 h479 u479 q479 => ?_) (fun E479 h479 u479 q479 => ?_)
                  · obtain ⟨eh479, z479⟩ := q479
                    replace eh479 := eh479.symm
                    subst eh479
                    cases z479
                    show zL zrx zi _ 153 58 [(0, _), (1, _), (2, _), (3, _), (4, _), (5, _), (6, _), (7, _)] [_] _ _ _
                    refine zSb1 (f := fun x => decide (x = 0)) (off := 32) (t := 90) vr_153_58 rfl rfl rfl (fun x480 e480 q480 => ?_) (fun x480 e480 q480 => ?_)
                    · cases e480
                      refine zSaload (m := 1) (k := 0) vr_153_90 rfl rfl rfl ?_
                      refine zSp0 (pc' := 92) (st' := .int (2) :: _) vr_153_91 rfl rfl ?_
                      refine zScall vr_153_92 rfl rfl rfl (fun m483 _ => C_no _ _ _ _ _) (fun v483 h483 u483 q483 => ?_) (fun E483 h483 u483 q483 => ?_)
                      · obtain ⟨gn483, z483⟩ := q483
                        cases z483
                        show zL zrx zi _ 153 95 [(0, _), (1, _), (2, _), (3, _), (4, _), (5, _), (6, _), (7, _)] [_] _ _ _
                        refine zLiret vr_153_95 rfl (fun x484 e484 => ?_)
                        cases e484
                        first
                          | exact ⟨_, _, rfl, t0, Or.inr ⟨fun z => inB_n (of_decide_eq_true q462) z.2.1.1, _, by decide, gn483⟩⟩
                          | exact ⟨_, _, rfl, t0, Or.inr ⟨fun z => inB_n (of_decide_eq_true q471) z.2.1.2.1, _, by decide, gn483⟩⟩
                          | exact ⟨_, _, rfl, t0, Or.inr ⟨fun z => inB_n (of_decide_eq_true q480) z.2.1.2.2.1, _, by decide, gn483⟩⟩
                          | exact ⟨_, _, rfl, t0, Or.inr ⟨fun z => (of_decide_eq_true q329) (rI0.mp z.2.1.2.2.2.1), _, by decide, gn483⟩⟩
                          | exact ⟨_, _, rfl, t0, Or.inr ⟨fun z => inB_n (of_decide_eq_true q0) z.2.1.2.2.2.2.1, _, by decide, gn483⟩⟩
                          | exact ⟨_, _, rfl, t0, Or.inr ⟨fun z => inB_n (by simpa using q338) z.2.1.2.2.2.2.2, _, by decide, gn483⟩⟩
                      · obtain ⟨-, z⟩ := q483
                        cases z
                    · cases e480
                      refine zSiload (m := 2) (k := 4) vr_153_61 rfl rfl rfl (fun x485 e485 => ?_)
                      cases e485
                      refine zSiload (m := 2) (k := 5) vr_153_63 rfl rfl rfl (fun x486 e486 => ?_)
                      cases e486
                      refine zS2 (f := fun x y => .int (x &&& y)) vr_153_65 rfl rfl (fun x487 y487 e487 f487 => ?_)
                      cases e487
                      cases f487
                      refine zSb1 (f := fun x => decide (¬ x = 0)) (off := 24) (t := 90) vr_153_66 rfl rfl rfl (fun x488 e488 q488 => ?_) (fun x488 e488 q488 => ?_)
                      · cases e488
                        refine zSaload (m := 1) (k := 0) vr_153_90 rfl rfl rfl ?_
                        refine zSp0 (pc' := 92) (st' := .int (2) :: _) vr_153_91 rfl rfl ?_
                        refine zScall vr_153_92 rfl rfl rfl (fun m491 _ => C_no _ _ _ _ _) (fun v491 h491 u491 q491 => ?_) (fun E491 h491 u491 q491 => ?_)
                        · obtain ⟨gn491, z491⟩ := q491
                          cases z491
                          show zL zrx zi _ 153 95 [(0, _), (1, _), (2, _), (3, _), (4, _), (5, _), (6, _), (7, _)] [_] _ _ _
                          refine zLiret vr_153_95 rfl (fun x492 e492 => ?_)
                          cases e492
                          first
                            | exact ⟨_, _, rfl, t0, Or.inr ⟨fun z => inB_n (of_decide_eq_true q462) z.2.1.1, _, by decide, gn491⟩⟩
                            | exact ⟨_, _, rfl, t0, Or.inr ⟨fun z => inB_n (of_decide_eq_true q471) z.2.1.2.1, _, by decide, gn491⟩⟩
                            | exact ⟨_, _, rfl, t0, Or.inr ⟨fun z => inB_n (of_decide_eq_true q480) z.2.1.2.2.1, _, by decide, gn491⟩⟩
                            | exact ⟨_, _, rfl, t0, Or.inr ⟨fun z => (of_decide_eq_true q488) (rI0.mp z.2.1.2.2.2.1), _, by decide, gn491⟩⟩
                            | exact ⟨_, _, rfl, t0, Or.inr ⟨fun z => inB_n (of_decide_eq_true q0) z.2.1.2.2.2.2.1, _, by decide, gn491⟩⟩
                            | exact ⟨_, _, rfl, t0, Or.inr ⟨fun z => inB_n (by simpa using q338) z.2.1.2.2.2.2.2, _, by decide, gn491⟩⟩
                        · obtain ⟨-, z⟩ := q491
                          cases z
                      · cases e488
                        refine zSiload (m := 2) (k := 6) vr_153_69 rfl rfl rfl (fun x493 e493 => ?_)
                        cases e493
                        refine zSp0 (pc' := 72) (st' := .int (0) :: _) vr_153_71 rfl rfl ?_
                        refine zSp0 (pc' := 74) (st' := .int (100) :: _) vr_153_72 rfl rfl ?_
                        refine zScall vr_153_74 rfl rfl rfl (fun m496 _ => C_in _ _ _ _ _ _) (fun v496 h496 u496 q496 => ?_) (fun E496 h496 u496 q496 => ?_)
                        · obtain ⟨eh496, z496⟩ := q496
                          replace eh496 := eh496.symm
                          subst eh496
                          cases z496
                          show zL zrx zi _ 153 77 [(0, _), (1, _), (2, _), (3, _), (4, _), (5, _), (6, _), (7, _)] [_] _ _ _
                          refine zSb1 (f := fun x => decide (x = 0)) (off := 13) (t := 90) vr_153_77 rfl rfl rfl (fun x497 e497 q497 => ?_) (fun x497 e497 q497 => ?_)
                          · cases e497
                            refine zSaload (m := 1) (k := 0) vr_153_90 rfl rfl rfl ?_
                            refine zSp0 (pc' := 92) (st' := .int (2) :: _) vr_153_91 rfl rfl ?_
                            refine zScall vr_153_92 rfl rfl rfl (fun m500 _ => C_no _ _ _ _ _) (fun v500 h500 u500 q500 => ?_) (fun E500 h500 u500 q500 => ?_)
                            · obtain ⟨gn500, z500⟩ := q500
                              cases z500
                              show zL zrx zi _ 153 95 [(0, _), (1, _), (2, _), (3, _), (4, _), (5, _), (6, _), (7, _)] [_] _ _ _
                              refine zLiret vr_153_95 rfl (fun x501 e501 => ?_)
                              cases e501
                              first
                                | exact ⟨_, _, rfl, t0, Or.inr ⟨fun z => inB_n (of_decide_eq_true q462) z.2.1.1, _, by decide, gn500⟩⟩
                                | exact ⟨_, _, rfl, t0, Or.inr ⟨fun z => inB_n (of_decide_eq_true q471) z.2.1.2.1, _, by decide, gn500⟩⟩
                                | exact ⟨_, _, rfl, t0, Or.inr ⟨fun z => inB_n (of_decide_eq_true q480) z.2.1.2.2.1, _, by decide, gn500⟩⟩
                                | exact ⟨_, _, rfl, t0, Or.inr ⟨fun z => (of_decide_eq_true q488) (rI0.mp z.2.1.2.2.2.1), _, by decide, gn500⟩⟩
                                | exact ⟨_, _, rfl, t0, Or.inr ⟨fun z => inB_n (of_decide_eq_true q497) z.2.1.2.2.2.2.1, _, by decide, gn500⟩⟩
                                | exact ⟨_, _, rfl, t0, Or.inr ⟨fun z => inB_n (by simpa using q338) z.2.1.2.2.2.2.2, _, by decide, gn500⟩⟩
                            · obtain ⟨-, z⟩ := q500
                              cases z
                          · cases e497
                            refine zSiload (m := 2) (k := 7) vr_153_80 rfl rfl rfl (fun x502 e502 => ?_)
                            cases e502
                            refine zSp0 (pc' := 83) (st' := .int (1) :: _) vr_153_82 rfl rfl ?_
                            refine zSp0 (pc' := 84) (st' := .int (5) :: _) vr_153_83 rfl rfl ?_
                            refine zScall vr_153_84 rfl rfl rfl (fun m505 _ => C_in _ _ _ _ _ _) (fun v505 h505 u505 q505 => ?_) (fun E505 h505 u505 q505 => ?_)
                            · obtain ⟨eh505, z505⟩ := q505
                              replace eh505 := eh505.symm
                              subst eh505
                              cases z505
                              show zL zrx zi _ 153 87 [(0, _), (1, _), (2, _), (3, _), (4, _), (5, _), (6, _), (7, _)] [_] _ _ _
                              refine zSb1 (f := fun x => decide (¬ x = 0)) (off := 9) (t := 96) vr_153_87 rfl rfl rfl (fun x506 e506 q506 => ?_) (fun x506 e506 q506 => ?_)
                              · cases e506
                                refine zSaload (m := 1) (k := 0) vr_153_96 rfl rfl rfl ?_
                                refine zLget vr_153_97 rfl (fun p508 w508 e508 t508 g508 => ?_)
                                cases e508
                                first | (rw [(st_213_7 hS0)] at g508; cases g508) | skip
                                refine zScall vr_153_100 rfl rfl rfl (fun m509 _ => C_lsize _ _ _ _ hs0) (fun v509 h509 u509 q509 => ?_) (fun E509 h509 u509 q509 => ?_)
                                · obtain ⟨eh509, z509⟩ := q509
                                  replace eh509 := eh509.symm
                                  subst eh509
                                  cases z509
                                  show zL zrx zi _ 153 105 [(0, _), (1, _), (2, _), (3, _), (4, _), (5, _), (6, _), (7, _)] [_] _ _ _
                                  refine zSp0 (pc' := 107) (st' := .int (40) :: _) vr_153_105 rfl rfl ?_
                                  refine zSb2 (f := fun x y => decide (¬ x = y)) (off := 9) (t := 116) vr_153_107 rfl rfl rfl (fun x511 y511 e511 f511 q511 => ?_) (fun x511 y511 e511 f511 q511 => ?_)
                                  · cases e511
                                    cases f511
                                    refine zSaload (m := 1) (k := 0) vr_153_116 rfl rfl rfl ?_
                                    refine zLget vr_153_117 rfl (fun p513 w513 e513 t513 g513 => ?_)
                                    cases e513
                                    first | (rw [(st_213_7 hS0)] at g513; cases g513) | skip
                                    refine zLnew2 vr_153_120 rfl (fun k514 u514 g514 => ?_)
                                    have hd1 : gF k514 213 1 = some (.int d) := by
                                      rw [g514.ext.fld (by have := hS0.1; omega), f0 213 1 (by omega)]
                                      exact hd
                                    refine zSdup vr_153_123 rfl ?_
                                    refine zSiload (m := 1) (k := 1) vr_153_124 rfl rfl rfl (fun x516 e516 => ?_)
                                    cases e516
                                    refine zSiload (m := 1) (k := 2) vr_153_125 rfl rfl rfl (fun x517 e517 => ?_)
                                    cases e517
                                    refine zSiload (m := 1) (k := 3) vr_153_126 rfl rfl rfl (fun x518 e518 => ?_)
                                    cases e518
                                    refine zSiload (m := 2) (k := 4) vr_153_127 rfl rfl rfl (fun x519 e519 => ?_)
                                    cases e519
                                    refine zSiload (m := 2) (k := 5) vr_153_129 rfl rfl rfl (fun x520 e520 => ?_)
                                    cases e520
                                    refine zSiload (m := 2) (k := 6) vr_153_131 rfl rfl rfl (fun x521 e521 => ?_)
                                    cases e521
                                    refine zSiload (m := 2) (k := 7) vr_153_133 rfl rfl rfl (fun x522 e522 => ?_)
                                    cases e522
                                    refine zSaload (m := 1) (k := 0) vr_153_135 rfl rfl rfl ?_
                                    refine zLget vr_153_136 rfl (fun p524 w524 e524 t524 g524 => ?_)
                                    cases e524
                                    first | (rw [hd1] at g524; cases g524) | skip
                                    refine zScall vr_153_139 rfl rfl rfl (fun m525 _ => C_irule _ _ _ _ _ _ _ _ _ _ _ _) (fun v525 h525 u525 q525 => ?_) (fun E525 h525 u525 q525 => ?_)
                                    · have z525 := q525.1
                                      cases z525
                                      show zL zrx zi _ 153 142 [(0, _), (1, _), (2, _), (3, _), (4, _), (5, _), (6, _), (7, _)] [_, _] _ _ _
                                      have im := q525.2
                                      have hel := gN_lt hn
                                      have lk : k443.length = h.length := t0.1
                                      have hh := hS.1
                                      have n1 : ∀ q, q < h.length → gT h525 q = gT h q ∧ gN h525 q = gN h q := fun q hq => by
                                        rw [(im.2.2.2.2.2 q).1, (im.2.2.2.2.2 q).2, (g514.ext.T (by omega)).1, (g514.ext.T (by omega)).2, t0.2.2.1, t0.2.2.2]
                                        exact ⟨rfl, rfl⟩
                                      have f1 : ∀ q k, q < h.length → ¬ (q = 213 ∧ k = 0) → gF h525 q k = gF h q k := fun q k hq z => by
                                        rw [im.1 q k (by omega), g514.ext.fld (by omega), f0 q k z]
                                      refine zScall vr_153_142 rfl rfl rfl (fun m526 _ => C_add _ _ _ _ _ ((f1 223 1 (by omega) (by omega)).trans hL) ((f1 223 2 (by omega) (by omega)).trans hs) ((n1 el hel).2.trans hn) hl2 (by rw [(n1 el hel).1]; exact tE)) (fun v526 h526 u526 q526 => ?_) (fun E526 h526 u526 q526 => ?_)
                                      · obtain ⟨z526, kA⟩ := q526
                                        cases z526
                                        show zL zrx zi _ 153 147 [(0, _), (1, _), (2, _), (3, _), (4, _), (5, _), (6, _), (7, _)] [_] _ _ _
                                        refine zSpop vr_153_147 rfl ?_
                                        have a7 := kA.2.2
                                        obtain ⟨ane, el2, b1, b2, b3, b4, b5, b6, b7⟩ := a7
                                        have f2 := (b6 213 (by rw [im.2.2.2.2.1, g514.len]; omega) (by omega) (fun z => h213 z.symm) 7).trans ((f1 213 7 (by omega) (by omega)).trans (st_213_7 hS))
                                        refine zSaload (m := 1) (k := 0) vr_153_148 rfl rfl rfl ?_
                                        refine zLget vr_153_149 rfl (fun p529 w529 e529 t529 g529 => ?_)
                                        cases e529
                                        first | (rw [f2] at g529; cases g529) | skip
                                        refine zScall vr_153_152 rfl rfl rfl (fun m530 _ => C_lsize _ _ _ _ b2) (fun v530 h530 u530 q530 => ?_) (fun E530 h530 u530 q530 => ?_)
                                        · obtain ⟨eh530, z530⟩ := q530
                                          replace eh530 := eh530.symm
                                          subst eh530
                                          cases z530
                                          show zL zrx zi _ 153 157 [(0, _), (1, _), (2, _), (3, _), (4, _), (5, _), (6, _), (7, _)] [_] _ _ _
                                          refine zSp0 (pc' := 158) (st' := .int (1) :: _) vr_153_157 rfl rfl ?_
                                          refine zS2 (f := fun x y => .int (x - y)) vr_153_158 rfl rfl (fun x532 y532 e532 f532 => ?_)
                                          cases e532
                                          cases f532
                                          refine zLiret vr_153_159 rfl (fun x533 e533 => ?_)
                                          cases e533
                                          have c40 : cnt.toInt < 40 := by
                                            have y := of_decide_eq_true q511
                                            have z40 : (40 : Int32).toInt = 40 := rfl
                                            have : ¬ cnt.toInt = 40 := fun z => y (Int32.toInt_inj.mp (by omega))
                                            omega
                                          exact ⟨_, _, rfl, t0, Or.inl ⟨⟨⟨in_y (x := p) (hi := 5) (m := 6) (by decide) (by simpa using q448), in_y (x := m) (hi := 3) (m := 4) (by decide) (of_decide_eq_true q457)⟩, ⟨(inB_y (by simpa using q462)), (inB_y (by simpa using q471)), (inB_y (by simpa using q480)), rI0.mpr (by simpa using q488), (inB_y (by simpa using q497)), (inB_y (of_decide_eq_true q506))⟩, c40⟩, mm_end hh hel h213 t0 g514 im kA⟩⟩
                                        · obtain ⟨-, z⟩ := q530
                                          cases z
                                      · obtain ⟨z, -⟩ := q526
                                        cases z
                                    · cases q525.1
                                  · cases e511
                                    cases f511
                                    refine zSaload (m := 1) (k := 0) vr_153_110 rfl rfl rfl ?_
                                    refine zSp0 (pc' := 112) (st' := .int (3) :: _) vr_153_111 rfl rfl ?_
                                    refine zScall vr_153_112 rfl rfl rfl (fun m536 _ => C_no _ _ _ _ _) (fun v536 h536 u536 q536 => ?_) (fun E536 h536 u536 q536 => ?_)
                                    · obtain ⟨gn536, z536⟩ := q536
                                      cases z536
                                      show zL zrx zi _ 153 115 [(0, _), (1, _), (2, _), (3, _), (4, _), (5, _), (6, _), (7, _)] [_] _ _ _
                                      refine zLiret vr_153_115 rfl (fun x537 e537 => ?_)
                                      cases e537
                                      exact ⟨_, _, rfl, t0, Or.inr ⟨fun z => absurd z.2.2 (by rw [show cnt = 40 by simpa using q511]; decide), _, by decide, gn536⟩⟩
                                    · obtain ⟨-, z⟩ := q536
                                      cases z
                                · obtain ⟨-, z⟩ := q509
                                  cases z
                              · cases e506
                                refine zSaload (m := 1) (k := 0) vr_153_90 rfl rfl rfl ?_
                                refine zSp0 (pc' := 92) (st' := .int (2) :: _) vr_153_91 rfl rfl ?_
                                refine zScall vr_153_92 rfl rfl rfl (fun m540 _ => C_no _ _ _ _ _) (fun v540 h540 u540 q540 => ?_) (fun E540 h540 u540 q540 => ?_)
                                · obtain ⟨gn540, z540⟩ := q540
                                  cases z540
                                  show zL zrx zi _ 153 95 [(0, _), (1, _), (2, _), (3, _), (4, _), (5, _), (6, _), (7, _)] [_] _ _ _
                                  refine zLiret vr_153_95 rfl (fun x541 e541 => ?_)
                                  cases e541
                                  first
                                    | exact ⟨_, _, rfl, t0, Or.inr ⟨fun z => inB_n (of_decide_eq_true q462) z.2.1.1, _, by decide, gn540⟩⟩
                                    | exact ⟨_, _, rfl, t0, Or.inr ⟨fun z => inB_n (of_decide_eq_true q471) z.2.1.2.1, _, by decide, gn540⟩⟩
                                    | exact ⟨_, _, rfl, t0, Or.inr ⟨fun z => inB_n (of_decide_eq_true q480) z.2.1.2.2.1, _, by decide, gn540⟩⟩
                                    | exact ⟨_, _, rfl, t0, Or.inr ⟨fun z => (of_decide_eq_true q488) (rI0.mp z.2.1.2.2.2.1), _, by decide, gn540⟩⟩
                                    | exact ⟨_, _, rfl, t0, Or.inr ⟨fun z => inB_n (of_decide_eq_true q497) z.2.1.2.2.2.2.1, _, by decide, gn540⟩⟩
                                    | exact ⟨_, _, rfl, t0, Or.inr ⟨fun z => inB_n (by simpa using q506) z.2.1.2.2.2.2.2, _, by decide, gn540⟩⟩
                                · obtain ⟨-, z⟩ := q540
                                  cases z
                            · obtain ⟨-, z⟩ := q505
                              cases z
                        · obtain ⟨-, z⟩ := q496
                          cases z
                  · obtain ⟨-, z⟩ := q479
                    cases z
              · obtain ⟨-, z⟩ := q470
                cases z
          · obtain ⟨-, z⟩ := q461
            cases z
        · cases e457
          refine zSaload (m := 1) (k := 0) vr_153_23 rfl rfl rfl ?_
          refine zSp0 (pc' := 25) (st' := .int (1) :: _) vr_153_24 rfl rfl ?_
          refine zScall vr_153_25 rfl rfl rfl (fun m544 _ => C_no _ _ _ _ _) (fun v544 h544 u544 q544 => ?_) (fun E544 h544 u544 q544 => ?_)
          · obtain ⟨gn544, z544⟩ := q544
            cases z544
            show zL zrx zi _ 153 28 [(0, _), (1, _), (2, _), (3, _), (4, _), (5, _), (6, _), (7, _)] [_] _ _ _
            refine zLiret vr_153_28 rfl (fun x545 e545 => ?_)
            cases e545
            first
              | exact ⟨_, _, rfl, t0, Or.inr ⟨fun z => in_n (x := p) (hi := 5) (m := 6) (by decide) (of_decide_eq_true q448) z.1.1, _, by decide, gn544⟩⟩
              | exact ⟨_, _, rfl, t0, Or.inr ⟨fun z => in_n (x := m) (hi := 3) (m := 4) (by decide) (by simpa using q457) z.1.2, _, by decide, gn544⟩⟩
          · obtain ⟨-, z⟩ := q544
            cases z
      · obtain ⟨-, z⟩ := q456
        cases z
  · obtain ⟨-, z⟩ := q447
    cases z
theorem C_limit (n : Nat) (x a b : Int32) (h : List zC) (u : Nat) {cnt : Int32} (hS : Stc h) (hc : gF h 28 2 = some (.int cnt)) (h40 : cnt.toInt ≤ 40) : zL zrx zi n 61 0 [(0, .ref 16), (1, .int x), (2, .int a), (3, .int b)] [] h u (fun o h2 _ => match o with
  | .inl v => (iN cnt.toInt x ∧ rI 0 999 a ∧ rI a 999 b) ∧ ∃ (s : Int32) (h1 : List zC), v = some (.int s) ∧ gF h (31 + x.toNatClampNeg) 10 = some (.int s) ∧ hPut h h1 (31 + x.toNatClampNeg) 7 (.int a) ∧ hPut h1 h2 (31 + x.toNatClampNeg) 8 (.int b)
  | .inr E => hExt h h2 ∧ ((E = 0 ∧ ¬ iN cnt.toInt x) ∨ (E = 1 ∧ iN cnt.toInt x ∧ ¬ (rI 0 999 a ∧ rI a 999 b)))) := by
  refine zSiload (m := 1) (k := 1) vr_61_0 rfl rfl rfl (fun x546 e546 => ?_)
  cases e546
  refine zSaload (m := 1) (k := 0) vr_61_1 rfl rfl rfl ?_
  refine zLget vr_61_2 rfl (fun p548 w548 e548 t548 g548 => ?_)
  cases e548
  first | (rw [(st_16_9 hS)] at g548; cases g548) | (rw [hc] at g548; cases g548) | (rw [(st_28_0 hS)] at g548; cases g548) | (rw [(st_rule hS hk)] at g548; cases g548) | skip
  refine zLget vr_61_5 rfl (fun p549 w549 e549 t549 g549 => ?_)
  cases e549
  first | (rw [(st_16_9 hS)] at g549; cases g549) | (rw [hc] at g549; cases g549) | (rw [(st_28_0 hS)] at g549; cases g549) | (rw [(st_rule hS hk)] at g549; cases g549) | skip
  refine zScall vr_61_8 rfl rfl rfl (fun m550 _ => C_num6 _ _ _ _ (m := cnt.toInt) rfl) (fun v550 h550 u550 q550 => ?_) (fun E550 h550 u550 q550 => ?_)
  · obtain ⟨eh550, rfl, r1⟩ := q550
    replace eh550 := eh550.symm
    subst eh550
    show zL zrx zi _ 61 11 [(0, _), (1, _), (2, _), (3, _)] [] _ _ _
    refine zSiload (m := 1) (k := 2) vr_61_11 rfl rfl rfl (fun x551 e551 => ?_)
    cases e551
    refine zSp0 (pc' := 13) (st' := .int (0) :: _) vr_61_12 rfl rfl ?_
    refine zSp0 (pc' := 16) (st' := .int (999) :: _) vr_61_13 rfl rfl ?_
    refine zScall vr_61_16 rfl rfl rfl (fun m554 _ => C_val _ _ _ _ _ _) (fun v554 h554 u554 q554 => ?_) (fun E554 h554 u554 q554 => ?_)
    · obtain ⟨eh554, rfl, r2⟩ := q554
      replace eh554 := eh554.symm
      subst eh554
      show zL zrx zi _ 61 19 [(0, _), (1, _), (2, _), (3, _)] [] _ _ _
      refine zSiload (m := 1) (k := 3) vr_61_19 rfl rfl rfl (fun x555 e555 => ?_)
      cases e555
      refine zSiload (m := 1) (k := 2) vr_61_20 rfl rfl rfl (fun x556 e556 => ?_)
      cases e556
      refine zSp0 (pc' := 24) (st' := .int (999) :: _) vr_61_21 rfl rfl ?_
      refine zScall vr_61_24 rfl rfl rfl (fun m558 _ => C_val _ _ _ _ _ _) (fun v558 h558 u558 q558 => ?_) (fun E558 h558 u558 q558 => ?_)
      · obtain ⟨eh558, rfl, r3⟩ := q558
        replace eh558 := eh558.symm
        subst eh558
        show zL zrx zi _ 61 27 [(0, _), (1, _), (2, _), (3, _)] [] _ _ _
        have hk : x.toNatClampNeg < 40 := n40 (by have := r1.2; omega)
        refine zSaload (m := 1) (k := 0) vr_61_27 rfl rfl rfl ?_
        refine zLget vr_61_28 rfl (fun p560 w560 e560 t560 g560 => ?_)
        cases e560
        first | (rw [(st_16_9 hS)] at g560; cases g560) | (rw [hc] at g560; cases g560) | (rw [(st_28_0 hS)] at g560; cases g560) | (rw [(st_rule hS hk)] at g560; cases g560) | skip
        refine zLget vr_61_31 rfl (fun p561 w561 e561 t561 g561 => ?_)
        cases e561
        first | (rw [(st_16_9 hS)] at g561; cases g561) | (rw [hc] at g561; cases g561) | (rw [(st_28_0 hS)] at g561; cases g561) | (rw [(st_rule hS hk)] at g561; cases g561) | skip
        refine zSiload (m := 1) (k := 1) vr_61_34 rfl rfl rfl (fun x562 e562 => ?_)
        cases e562
        refine zLaald vr_61_35 rfl (fun p563 x563 w563 e563 f563 c563 t563 g563 => ?_)
        cases e563
        cases f563
        first | (rw [(st_16_9 hS)] at g563; cases g563) | (rw [hc] at g563; cases g563) | (rw [(st_28_0 hS)] at g563; cases g563) | (rw [(st_rule hS hk)] at g563; cases g563) | skip
        refine zSiload (m := 1) (k := 2) vr_61_36 rfl rfl rfl (fun x564 e564 => ?_)
        cases e564
        refine zLput vr_61_37 rfl (fun p565 k565 e565 t565 g565 => ?_)
        cases e565
        have f1 : ∀ q k, ¬ q = (31 + x.toNatClampNeg) → gF k565 q k = gF h q k := fun q k z => by rw [g565.2.1, if_neg (fun y => z y.1)]
        refine zSaload (m := 1) (k := 0) vr_61_40 rfl rfl rfl ?_
        refine zLget vr_61_41 rfl (fun p567 w567 e567 t567 g567 => ?_)
        cases e567
        first | (rw [((f1 16 9 (by omega)).trans (st_16_9 hS))] at g567; cases g567) | (rw [((f1 28 0 (by omega)).trans (st_28_0 hS))] at g567; cases g567) | (rw [((f1 29 _ (by omega)).trans (st_rule hS hk))] at g567; cases g567) | skip
        refine zLget vr_61_44 rfl (fun p568 w568 e568 t568 g568 => ?_)
        cases e568
        first | (rw [((f1 16 9 (by omega)).trans (st_16_9 hS))] at g568; cases g568) | (rw [((f1 28 0 (by omega)).trans (st_28_0 hS))] at g568; cases g568) | (rw [((f1 29 _ (by omega)).trans (st_rule hS hk))] at g568; cases g568) | skip
        refine zSiload (m := 1) (k := 1) vr_61_47 rfl rfl rfl (fun x569 e569 => ?_)
        cases e569
        refine zLaald vr_61_48 rfl (fun p570 x570 w570 e570 f570 c570 t570 g570 => ?_)
        cases e570
        cases f570
        first | (rw [((f1 16 9 (by omega)).trans (st_16_9 hS))] at g570; cases g570) | (rw [((f1 28 0 (by omega)).trans (st_28_0 hS))] at g570; cases g570) | (rw [((f1 29 _ (by omega)).trans (st_rule hS hk))] at g570; cases g570) | skip
        refine zSiload (m := 1) (k := 3) vr_61_49 rfl rfl rfl (fun x571 e571 => ?_)
        cases e571
        refine zLput vr_61_50 rfl (fun p572 k572 e572 t572 g572 => ?_)
        cases e572
        have f2 : ∀ q k, ¬ q = (31 + x.toNatClampNeg) → gF k572 q k = gF h q k := fun q k z => by rw [g572.2.1, if_neg (fun y => z y.1), f1 q k z]
        refine zSaload (m := 1) (k := 0) vr_61_53 rfl rfl rfl ?_
        refine zLget vr_61_54 rfl (fun p574 w574 e574 t574 g574 => ?_)
        cases e574
        first | (rw [((f2 16 9 (by omega)).trans (st_16_9 hS))] at g574; cases g574) | (rw [((f2 28 0 (by omega)).trans (st_28_0 hS))] at g574; cases g574) | (rw [((f2 29 _ (by omega)).trans (st_rule hS hk))] at g574; cases g574) | skip
        refine zLget vr_61_57 rfl (fun p575 w575 e575 t575 g575 => ?_)
        cases e575
        first | (rw [((f2 16 9 (by omega)).trans (st_16_9 hS))] at g575; cases g575) | (rw [((f2 28 0 (by omega)).trans (st_28_0 hS))] at g575; cases g575) | (rw [((f2 29 _ (by omega)).trans (st_rule hS hk))] at g575; cases g575) | skip
        refine zSiload (m := 1) (k := 1) vr_61_60 rfl rfl rfl (fun x576 e576 => ?_)
        cases e576
        refine zLaald vr_61_61 rfl (fun p577 x577 w577 e577 f577 c577 t577 g577 => ?_)
        cases e577
        cases f577
        first | (rw [((f2 16 9 (by omega)).trans (st_16_9 hS))] at g577; cases g577) | (rw [((f2 28 0 (by omega)).trans (st_28_0 hS))] at g577; cases g577) | (rw [((f2 29 _ (by omega)).trans (st_rule hS hk))] at g577; cases g577) | skip
        refine zLget vr_61_62 rfl (fun p578 w578 e578 t578 g578 => ?_)
        cases e578
        first | (rw [((f2 16 9 (by omega)).trans (st_16_9 hS))] at g578; cases g578) | (rw [((f2 28 0 (by omega)).trans (st_28_0 hS))] at g578; cases g578) | (rw [((f2 29 _ (by omega)).trans (st_rule hS hk))] at g578; cases g578) | skip
        have g6 := g578
        rw [g572.2.1, if_neg (by omega), g565.2.1, if_neg (by omega)] at g6
        refine zLiret vr_61_65 rfl (fun x579 e579 => ?_)
        cases e579
        exact ⟨⟨r1, r2, r3⟩, _, _, rfl, g6, g565, g572⟩
      · obtain ⟨rfl, q1, q2⟩ := q558
        rw [zCat_no vh_61_24_1]
        exact ⟨q2, Or.inr ⟨rfl, r1, fun z => q1 z.2⟩⟩
    · obtain ⟨rfl, q1, q2⟩ := q554
      rw [zCat_no vh_61_16_1]
      exact ⟨q2, Or.inr ⟨rfl, r1, fun z => q1 z.1⟩⟩
  · obtain ⟨rfl, q1, q2⟩ := q550
    rw [zCat_no vh_61_8_0]
    exact ⟨q2, Or.inl ⟨rfl, q1⟩⟩
abbrev Q_Llimit (cnt : Int32) (x a b : Int32) (h : List zC) : zK := fun o h2 _ => ∃ k : Int32, o = .inl (some (.int k)) ∧
  ((k = 0 ∧ (iN cnt.toInt x ∧ rI 0 999 a ∧ rI a 999 b) ∧ ∃ (s : Int32) (h0 h1 : List zC), gF h (31 + x.toNatClampNeg) 10 = some (.int s) ∧ hPut h h0 (31 + x.toNatClampNeg) 7 (.int a) ∧ hPut h0 h1 (31 + x.toNatClampNeg) 8 (.int b) ∧ hPut h1 h2 238 0 (.long s.toInt64)) ∨ (k = 1 ∧ ¬ iN cnt.toInt x ∧ hExt h h2) ∨ (k = 2 ∧ iN cnt.toInt x ∧ ¬ (rI 0 999 a ∧ rI a 999 b) ∧ hExt h h2))
theorem C_Llimit (n : Nat) (x a b : Int32) (h : List zC) (u : Nat) {cnt : Int32} (hS : Stc h) (hc : gF h 28 2 = some (.int cnt)) (h40 : cnt.toInt ≤ 40) : zL zrx zi n 212 0 [(0, .ref 16), (1, .int x), (2, .int a), (3, .int b), (4, .ref 238)] [] h u (Q_Llimit cnt x a b h) := by
  refine zSaload (m := 2) (k := 4) vr_212_0 rfl rfl rfl ?_
  refine zSaload (m := 1) (k := 0) vr_212_2 rfl rfl rfl ?_
  refine zSiload (m := 1) (k := 1) vr_212_3 rfl rfl rfl (fun x582 e582 => ?_)
  cases e582
  refine zSiload (m := 1) (k := 2) vr_212_4 rfl rfl rfl (fun x583 e583 => ?_)
  cases e583
  refine zSiload (m := 1) (k := 3) vr_212_5 rfl rfl rfl (fun x584 e584 => ?_)
  cases e584
  refine zScall vr_212_6 rfl rfl rfl (fun m585 _ => C_limit _ _ _ _ _ _ hS hc h40) (fun v585 h585 u585 q585 => ?_) (fun E585 h585 u585 q585 => ?_)
  · obtain ⟨k1, s585, i585, rfl, k2, k3, k4⟩ := q585
    show zL zrx zi _ 212 9 [(0, _), (1, _), (2, _), (3, _), (4, _)] [_, _] _ _ _
    refine zS1 (f := fun x => .long x.toInt64) vr_212_9 rfl rfl (fun x586 e586 => ?_)
    cases e586
    refine zLput vr_212_10 rfl (fun p587 k587 e587 t587 g587 => ?_)
    cases e587
    have gP := g587
    refine zSgo (t := 24) vr_212_13 rfl rfl ?_
    refine zSp0 (pc' := 25) (st' := .int (0) :: _) vr_212_24 rfl rfl ?_
    refine zLiret vr_212_25 rfl (fun x590 e590 => ?_)
    cases e590
    exact ⟨_, rfl, Or.inl ⟨rfl, k1, _, _, _, k2, k3, k4, gP⟩⟩
  · obtain ⟨q1, ⟨rfl, z⟩ | ⟨rfl, z⟩⟩ := q585
    · rw [zCat_hit (k := 5) (m := 2) vh_212_6_0 vr_212_16 rfl (by decide)]
      show zL zrx zi _ 212 18 [(0, _), (1, _), (2, _), (3, _), (4, _)] [] _ _ _
      refine zSp0 (pc' := 19) (st' := .int (1) :: _) vr_212_18 rfl rfl ?_
      refine zLiret vr_212_19 rfl (fun x592 e592 => ?_)
      cases e592
      exact ⟨_, rfl, Or.inr (Or.inl ⟨rfl, z, q1⟩)⟩
    · rw [zCat_hit (k := 5) (m := 2) vh_212_6_1 vr_212_20 rfl (by decide)]
      show zL zrx zi _ 212 22 [(0, _), (1, _), (2, _), (3, _), (4, _)] [] _ _ _
      refine zSp0 (pc' := 23) (st' := .int (2) :: _) vr_212_22 rfl rfl ?_
      refine zLiret vr_212_23 rfl (fun x594 e594 => ?_)
      cases e594
      exact ⟨_, rfl, Or.inr (Or.inr ⟨rfl, z.1, z.2, q1⟩)⟩
theorem C_size_loop : ∀ (n : Nat) (x m l : Int32) (h : List zC) (u : Nat), zL zrx zi n 134 4 [(2, .int l), (1, .int m), (0, .int x)] [] h u (fun o h2 _ => h2 = h ∧ ∃ s, Psz l s ∧ o = .inl (some (.int (m + s))))
  | 0, _, _, _, _, _ => trivial
  | n + 1, x, m, l, h, u => by
    refine zLp vr_134_4 rfl rfl ?_
    refine zSb1 (f := fun x => decide (x ≤ 0)) (off := 16) (t := 21) vr_134_5 rfl rfl rfl (fun x595 e595 q595 => ?_) (fun x595 e595 q595 => ?_)
    · cases e595
      refine zSiload (m := 1) (k := 1) vr_134_21 rfl rfl rfl (fun x596 e596 => ?_)
      cases e596
      refine zLiret vr_134_22 rfl (fun x597 e597 => ?_)
      cases e597
      refine ⟨rfl, 0, Psz0 ?_, ?_⟩
      · simpa using q595
      · rw [Int32.add_zero]
    · cases e595
      refine zSiload (m := 1) (k := 1) vr_134_8 rfl rfl rfl (fun x598 e598 => ?_)
      cases e598
      refine zSiload (m := 1) (k := 2) vr_134_9 rfl rfl rfl (fun x599 e599 => ?_)
      cases e599
      refine zSp0 (pc' := 11) (st' := .int (2) :: _) vr_134_10 rfl rfl ?_
      refine zSrem vr_134_11 rfl (fun x601 y601 e601 f601 g601 => ?_)
      cases e601
      cases f601
      refine zS2 (f := fun x y => .int (x + y)) vr_134_12 rfl rfl (fun x602 y602 e602 f602 => ?_)
      cases e602
      cases f602
      refine zSistore (m := 1) (k := 1) vr_134_13 rfl rfl (fun x603 e603 => ?_)
      cases e603
      show zL zrx zi _ 134 14 [(1, _), (2, _), (0, _)] [] _ _ _
      refine zSiload (m := 1) (k := 2) vr_134_14 rfl rfl rfl (fun x604 e604 => ?_)
      cases e604
      refine zSp0 (pc' := 16) (st' := .int (2) :: _) vr_134_15 rfl rfl ?_
      refine zSdiv vr_134_16 rfl (fun x606 y606 e606 f606 g606 => ?_)
      cases e606
      cases f606
      refine zSistore (m := 1) (k := 2) vr_134_17 rfl rfl (fun x607 e607 => ?_)
      cases e607
      show zL zrx zi _ 134 18 [(2, _), (1, _), (0, _)] [] _ _ _
      refine zSgo (t := 4) vr_134_18 rfl rfl ?_
      refine zL_K _ _ _ _ _ _ _ _ _ (C_size_loop n _ _ _ _ _) (fun o h2 u2 q => ?_)
      obtain ⟨z1, s, z2, z3⟩ := q
      refine ⟨z1, _, PszS ?_ z2, ?_⟩
      · simpa using q595
      · rw [z3, Int32.add_assoc]
theorem C_size (n : Nat) (x : Int32) (h : List zC) (u : Nat) : zL zrx zi n 134 0 [(0, .int x)] [] h u (fun o h2 _ => h2 = h ∧ ∃ s, Psz x s ∧ o = .inl (some (.int s))) := by
  refine zSp0 (pc' := 1) (st' := .int (0) :: _) vr_134_0 rfl rfl ?_
  refine zSistore (m := 1) (k := 1) vr_134_1 rfl rfl (fun x610 e610 => ?_)
  cases e610
  show zL zrx zi _ 134 2 [(1, _), (0, _)] [] _ _ _
  refine zSiload (m := 1) (k := 0) vr_134_2 rfl rfl rfl (fun x611 e611 => ?_)
  cases e611
  refine zSistore (m := 1) (k := 2) vr_134_3 rfl rfl (fun x612 e612 => ?_)
  cases e612
  show zL zrx zi _ 134 4 [(2, _), (1, _), (0, _)] [] _ _ _
  refine zL_K _ _ _ _ _ _ _ _ _ (C_size_loop _ _ _ _ _ _) (fun o h2 u2 q => ?_)
  obtain ⟨q1, s, q2, q3⟩ := q
  exact ⟨q1, s, q2, by rw [q3, Int32.zero_add]⟩
theorem C_strength (n : Nat) (p : Nat) (h : List zC) (u : Nat) {a b c : Int32} (h3 : gF h p 3 = some (.int a)) (h4 : gF h p 4 = some (.int b)) (h6 : gF h p 6 = some (.int c)) : zL zrx zi n 127 0 [(0, .ref p)] [] h u (fun o h2 _ => h2 = h ∧ ∃ s t : Int32, Psz a s ∧ Psz b t ∧ o = .inl (some (.int (10 * (s + t) + c)))) := by
  refine zSp0 (pc' := 2) (st' := .int (10) :: _) vr_127_0 rfl rfl ?_
  refine zSaload (m := 1) (k := 0) vr_127_2 rfl rfl rfl ?_
  refine zLget vr_127_3 rfl (fun p615 w615 e615 t615 g615 => ?_)
  cases e615
  first | (rw [h3] at g615; cases g615) | (rw [h4] at g615; cases g615) | (rw [h6] at g615; cases g615) | skip
  refine zScall vr_127_6 rfl rfl rfl (fun m616 _ => C_size _ _ _ _) (fun v616 h616 u616 q616 => ?_) (fun E616 h616 u616 q616 => ?_)
  · obtain ⟨eh616, s616, a616, z616⟩ := q616
    replace eh616 := eh616.symm
    subst eh616
    cases z616
    show zL zrx zi _ 127 9 [(0, _)] [_, _] _ _ _
    refine zSaload (m := 1) (k := 0) vr_127_9 rfl rfl rfl ?_
    refine zLget vr_127_10 rfl (fun p618 w618 e618 t618 g618 => ?_)
    cases e618
    first | (rw [h3] at g618; cases g618) | (rw [h4] at g618; cases g618) | (rw [h6] at g618; cases g618) | skip
    refine zScall vr_127_13 rfl rfl rfl (fun m619 _ => C_size _ _ _ _) (fun v619 h619 u619 q619 => ?_) (fun E619 h619 u619 q619 => ?_)
    · obtain ⟨eh619, s619, a619, z619⟩ := q619
      replace eh619 := eh619.symm
      subst eh619
      cases z619
      show zL zrx zi _ 127 16 [(0, _)] [_, _, _] _ _ _
      refine zS2 (f := fun x y => .int (x + y)) vr_127_16 rfl rfl (fun x620 y620 e620 f620 => ?_)
      cases e620
      cases f620
      refine zS2 (f := fun x y => .int (x * y)) vr_127_17 rfl rfl (fun x621 y621 e621 f621 => ?_)
      cases e621
      cases f621
      refine zSaload (m := 1) (k := 0) vr_127_18 rfl rfl rfl ?_
      refine zLget vr_127_19 rfl (fun p623 w623 e623 t623 g623 => ?_)
      cases e623
      first | (rw [h3] at g623; cases g623) | (rw [h4] at g623; cases g623) | (rw [h6] at g623; cases g623) | skip
      refine zS2 (f := fun x y => .int (x + y)) vr_127_22 rfl rfl (fun x624 y624 e624 f624 => ?_)
      cases e624
      cases f624
      refine zLiret vr_127_23 rfl (fun x625 e625 => ?_)
      cases e625
      refine ⟨rfl, _, _, ?_, ?_, rfl⟩ <;> assumption
    · obtain ⟨-, _, -, z⟩ := q619
      cases z
  · obtain ⟨-, _, -, z⟩ := q616
    cases z
theorem C_isRule (n : Nat) (x : Int32) (h : List zC) (u : Nat) {cnt : Int32} (hS : Stc h) (hs : gF h 223 2 = some (.int cnt)) : zL zrx zi n 154 0 [(0, .ref 213), (1, .int x)] [] h u (fun o h2 _ => h2 = h ∧ o = .inl (some (.int (inB x 0 (cnt - 1))))) := by
  refine zSiload (m := 1) (k := 1) vr_154_0 rfl rfl rfl (fun x626 e626 => ?_)
  cases e626
  refine zSp0 (pc' := 2) (st' := .int (0) :: _) vr_154_1 rfl rfl ?_
  refine zSaload (m := 1) (k := 0) vr_154_2 rfl rfl rfl ?_
  refine zLget vr_154_3 rfl (fun p629 w629 e629 t629 g629 => ?_)
  cases e629
  first | (rw [(st_213_7 hS)] at g629; cases g629) | skip
  refine zScall vr_154_6 rfl rfl rfl (fun m630 _ => C_lsize _ _ _ _ hs) (fun v630 h630 u630 q630 => ?_) (fun E630 h630 u630 q630 => ?_)
  · obtain ⟨eh630, z630⟩ := q630
    replace eh630 := eh630.symm
    subst eh630
    cases z630
    show zL zrx zi _ 154 11 [(0, _), (1, _)] [_, _, _] _ _ _
    refine zSp0 (pc' := 12) (st' := .int (1) :: _) vr_154_11 rfl rfl ?_
    refine zS2 (f := fun x y => .int (x - y)) vr_154_12 rfl rfl (fun x632 y632 e632 f632 => ?_)
    cases e632
    cases f632
    refine zScall vr_154_13 rfl rfl rfl (fun m633 _ => C_in _ _ _ _ _ _) (fun v633 h633 u633 q633 => ?_) (fun E633 h633 u633 q633 => ?_)
    · obtain ⟨eh633, z633⟩ := q633
      replace eh633 := eh633.symm
      subst eh633
      cases z633
      show zL zrx zi _ 154 16 [(0, _), (1, _)] [_] _ _ _
      refine zLiret vr_154_16 rfl (fun x634 e634 => ?_)
      cases e634
      exact ⟨rfl, rfl⟩
    · obtain ⟨-, z⟩ := q633
      cases z
  · obtain ⟨-, z⟩ := q630
    cases z
abbrev Q_mlimit (el : Nat) (cnt : Int32) (x a b : Int32) (h : List zC) : zK := fun o h2 _ => ∃ (r : Int32) (h0 : List zC), o = .inl (some (.int r)) ∧ hPut h h0 213 0 (.int 0) ∧
  (((iN cnt.toInt x ∧ rI 0 999 a ∧ rI a 999 b) ∧ ∃ (q : Nat) (h1 : List zC) (fa fb fc s t : Int32), gF h el x.toNatClampNeg = some (.ref q) ∧ gT h q = some 17 ∧ hPut h0 h1 q 8 (.int a) ∧ hPut h1 h2 q 9 (.int b) ∧ gF h q 3 = some (.int fa) ∧ gF h q 4 = some (.int fb) ∧ gF h q 6 = some (.int fc) ∧ Psz fa s ∧ Psz fb t ∧ r = 10 * (s + t) + fc) ∨ (¬ iN cnt.toInt x ∧ hPut h0 h2 213 0 (.int 1)) ∨ (iN cnt.toInt x ∧ ¬ (rI 0 999 a ∧ rI a 999 b) ∧ hPut h0 h2 213 0 (.int 2)))
theorem C_mlimit (n : Nat) (x a b : Int32) (h : List zC) (u : Nat) {el : Nat} {cnt : Int32} (hS : Stc h) (hs : gF h 223 2 = some (.int cnt)) (hL : gF h 223 1 = some (.ref el)) (tE : ∃ t, gT h el = some t ∧ 93 ≤ t) (h213 : ¬ el = 213) (hT : gT h 213 = some 18) (hT2 : gT h 223 = some 2) (h0c : 0 ≤ cnt.toInt) (hq : iN cnt.toInt x → ∀ q : Nat, gF h el x.toNatClampNeg = some (.ref q) → ∃ fa fb fc : Int32, gF h q 3 = some (.int fa) ∧ gF h q 4 = some (.int fb) ∧ gF h q 6 = some (.int fc)) : zL zrx zi n 155 0 [(0, .ref 213), (1, .int x), (2, .int a), (3, .int b)] [] h u (Q_mlimit el cnt x a b h) := by
  refine zSaload (m := 1) (k := 0) vr_155_0 rfl rfl rfl ?_
  refine zSp0 (pc' := 2) (st' := .int (0) :: _) vr_155_1 rfl rfl ?_
  refine zLput vr_155_2 rfl (fun p637 k637 e637 t637 g637 => ?_)
  cases e637
  have t0 := g637
  have hS0 := hS.thr t0
  have f0 : ∀ q k, ¬ (q = 213 ∧ k = 0) → gF k637 q k = gF h q k := fun q k z => by rw [t0.2.1, if_neg z]
  have hs0 := (f0 223 2 (by omega)).trans hs
  have hL0 := (f0 223 1 (by omega)).trans hL
  refine zSaload (m := 1) (k := 0) vr_155_5 rfl rfl rfl ?_
  refine zSiload (m := 1) (k := 1) vr_155_6 rfl rfl rfl (fun x639 e639 => ?_)
  cases e639
  refine zScall vr_155_7 rfl rfl rfl (fun m640 _ => C_isRule _ _ _ _ hS0 hs0) (fun v640 h640 u640 q640 => ?_) (fun E640 h640 u640 q640 => ?_)
  · obtain ⟨eh640, z640⟩ := q640
    replace eh640 := eh640.symm
    subst eh640
    cases z640
    show zL zrx zi _ 155 10 [(0, _), (1, _), (2, _), (3, _)] [_] _ _ _
    refine zSb1 (f := fun x => decide (¬ x = 0)) (off := 9) (t := 19) vr_155_10 rfl rfl rfl (fun x641 e641 q641 => ?_) (fun x641 e641 q641 => ?_)
    · cases e641
      refine zSiload (m := 1) (k := 2) vr_155_19 rfl rfl rfl (fun x642 e642 => ?_)
      cases e642
      refine zSp0 (pc' := 21) (st' := .int (0) :: _) vr_155_20 rfl rfl ?_
      refine zSp0 (pc' := 24) (st' := .int (999) :: _) vr_155_21 rfl rfl ?_
      refine zScall vr_155_24 rfl rfl rfl (fun m645 _ => C_in _ _ _ _ _ _) (fun v645 h645 u645 q645 => ?_) (fun E645 h645 u645 q645 => ?_)
      · obtain ⟨eh645, z645⟩ := q645
        replace eh645 := eh645.symm
        subst eh645
        cases z645
        show zL zrx zi _ 155 27 [(0, _), (1, _), (2, _), (3, _)] [_] _ _ _
        refine zSb1 (f := fun x => decide (x = 0)) (off := 14) (t := 41) vr_155_27 rfl rfl rfl (fun x646 e646 q646 => ?_) (fun x646 e646 q646 => ?_)
        · cases e646
          refine zSaload (m := 1) (k := 0) vr_155_41 rfl rfl rfl ?_
          refine zSp0 (pc' := 43) (st' := .int (2) :: _) vr_155_42 rfl rfl ?_
          refine zScall vr_155_43 rfl rfl rfl (fun m649 _ => C_no _ _ _ _ _) (fun v649 h649 u649 q649 => ?_) (fun E649 h649 u649 q649 => ?_)
          · obtain ⟨gn649, z649⟩ := q649
            cases z649
            show zL zrx zi _ 155 46 [(0, _), (1, _), (2, _), (3, _)] [_] _ _ _
            refine zLiret vr_155_46 rfl (fun x650 e650 => ?_)
            cases e650
            first
              | exact ⟨_, _, rfl, t0, Or.inr (Or.inr ⟨isr_y h0c (of_decide_eq_true q641), fun z => inB_n (of_decide_eq_true q646) z.1, gn649⟩)⟩
              | exact ⟨_, _, rfl, t0, Or.inr (Or.inr ⟨isr_y h0c (of_decide_eq_true q641), fun z => inB_n (by simpa using q431) z.2, gn649⟩)⟩
          · obtain ⟨-, z⟩ := q649
            cases z
        · cases e646
          refine zSiload (m := 1) (k := 3) vr_155_30 rfl rfl rfl (fun x651 e651 => ?_)
          cases e651
          refine zSiload (m := 1) (k := 2) vr_155_31 rfl rfl rfl (fun x652 e652 => ?_)
          cases e652
          refine zSp0 (pc' := 35) (st' := .int (999) :: _) vr_155_32 rfl rfl ?_
          refine zScall vr_155_35 rfl rfl rfl (fun m654 _ => C_in _ _ _ _ _ _) (fun v654 h654 u654 q654 => ?_) (fun E654 h654 u654 q654 => ?_)
          · obtain ⟨eh654, z654⟩ := q654
            replace eh654 := eh654.symm
            subst eh654
            cases z654
            show zL zrx zi _ 155 38 [(0, _), (1, _), (2, _), (3, _)] [_] _ _ _
            refine zSb1 (f := fun x => decide (¬ x = 0)) (off := 9) (t := 47) vr_155_38 rfl rfl rfl (fun x655 e655 q655 => ?_) (fun x655 e655 q655 => ?_)
            · cases e655
              refine zSaload (m := 1) (k := 0) vr_155_47 rfl rfl rfl ?_
              refine zLget vr_155_48 rfl (fun p657 w657 e657 t657 g657 => ?_)
              cases e657
              first | (rw [(st_213_7 hS0)] at g657; cases g657) | skip
              refine zSiload (m := 1) (k := 1) vr_155_51 rfl rfl rfl (fun x658 e658 => ?_)
              cases e658
              refine zScall vr_155_52 rfl rfl rfl (fun m659 _ => C_get _ _ _ _ _ hL0 hs0) (fun v659 h659 u659 q659 => ?_) (fun E659 h659 u659 q659 => ?_)
              · obtain ⟨eh659, y659, w659, z659, k659⟩ := q659
                replace eh659 := eh659.symm
                subst eh659
                cases z659
                show zL zrx zi _ 155 57 [(0, _), (1, _), (2, _), (3, _)] [_] _ _ _
                refine zLcst vr_155_57 rfl (fun p660 e660 => ?_)
                cases e660
                have e1 : gF k637 el x.toNatClampNeg = some (.ref p660) := k659
                refine zSiload (m := 1) (k := 2) vr_155_60 rfl rfl rfl (fun x661 e661 => ?_)
                cases e661
                refine zLput vr_155_61 rfl (fun p662 k662 e662 t662 g662 => ?_)
                cases e662
                have nel : ¬ p660 = el := fun z => by
                  obtain ⟨t, t1, t2⟩ := tE
                  have y := t662
                  rw [t0.2.2.1, z, t1] at y
                  cases y
                  omega
                have n213 : ¬ p660 = 213 := fun z => by
                  have y := t662
                  rw [t0.2.2.1, z, hT] at y
                  cases y
                have n223 : ¬ p660 = 223 := fun z => by
                  have y := t662
                  rw [t0.2.2.1, z, hT2] at y
                  cases y
                have f1 : ∀ q k, ¬ q = p660 → gF k662 q k = gF k637 q k := fun q k z => by rw [g662.2.1, if_neg (fun y => z y.1)]
                have hL1 := (f1 223 1 (fun z => n223 z.symm)).trans hL0
                have hs1 := (f1 223 2 (fun z => n223 z.symm)).trans hs0
                refine zSaload (m := 1) (k := 0) vr_155_64 rfl rfl rfl ?_
                refine zLget vr_155_65 rfl (fun p664 w664 e664 t664 g664 => ?_)
                cases e664
                first | (rw [((f1 213 7 (fun z => n213 z.symm)).trans (st_213_7 hS0))] at g664; cases g664) | skip
                refine zSiload (m := 1) (k := 1) vr_155_68 rfl rfl rfl (fun x665 e665 => ?_)
                cases e665
                refine zScall vr_155_69 rfl rfl rfl (fun m666 _ => C_get _ _ _ _ _ hL1 hs1) (fun v666 h666 u666 q666 => ?_) (fun E666 h666 u666 q666 => ?_)
                · obtain ⟨eh666, y666, w666, z666, k666⟩ := q666
                  replace eh666 := eh666.symm
                  subst eh666
                  cases z666
                  show zL zrx zi _ 155 74 [(0, _), (1, _), (2, _), (3, _)] [_] _ _ _
                  refine zLcst vr_155_74 rfl (fun p667 e667 => ?_)
                  cases e667
                  have e2 := k666
                  rw [f1 el _ (fun z => nel z.symm), e1] at e2
                  cases e2
                  refine zSiload (m := 1) (k := 3) vr_155_77 rfl rfl rfl (fun x668 e668 => ?_)
                  cases e668
                  refine zLput vr_155_78 rfl (fun p669 k669 e669 t669 g669 => ?_)
                  cases e669
                  have f2 : ∀ q k, ¬ q = p660 → gF k669 q k = gF k637 q k := fun q k z => by rw [g669.2.1, if_neg (fun y => z y.1), f1 q k z]
                  have hL2 := (f2 223 1 (fun z => n223 z.symm)).trans hL0
                  have hs2 := (f2 223 2 (fun z => n223 z.symm)).trans hs0
                  refine zSaload (m := 1) (k := 0) vr_155_81 rfl rfl rfl ?_
                  refine zLget vr_155_82 rfl (fun p671 w671 e671 t671 g671 => ?_)
                  cases e671
                  first | (rw [((f2 213 7 (fun z => n213 z.symm)).trans (st_213_7 hS0))] at g671; cases g671) | skip
                  refine zSiload (m := 1) (k := 1) vr_155_85 rfl rfl rfl (fun x672 e672 => ?_)
                  cases e672
                  refine zScall vr_155_86 rfl rfl rfl (fun m673 _ => C_get _ _ _ _ _ hL2 hs2) (fun v673 h673 u673 q673 => ?_) (fun E673 h673 u673 q673 => ?_)
                  · obtain ⟨eh673, y673, w673, z673, k673⟩ := q673
                    replace eh673 := eh673.symm
                    subst eh673
                    cases z673
                    show zL zrx zi _ 155 91 [(0, _), (1, _), (2, _), (3, _)] [_] _ _ _
                    refine zLcst vr_155_91 rfl (fun p674 e674 => ?_)
                    cases e674
                    have e3 := k673
                    rw [f2 el _ (fun z => nel z.symm), e1] at e3
                    cases e3
                    have e4 : gF h el x.toNatClampNeg = some (.ref p660) := by
                      rw [← f0 el _ (fun z => h213 z.1)]
                      exact e1
                    obtain ⟨fa, fb, fc, fa1, fb1, fc1⟩ := hq (isr_y h0c (of_decide_eq_true q641)) _ e4
                    have ga : ∀ k, ¬ k = 8 → ¬ k = 9 → gF k669 p660 k = gF h p660 k := fun k z1 z2 => by
                      rw [g669.2.1, if_neg (fun y => z2 y.2), g662.2.1, if_neg (fun y => z1 y.2), f0 _ _ (fun y => n213 y.1)]
                    refine zScall vr_155_94 rfl rfl rfl (fun m675 _ => C_strength _ _ _ _ ((ga 3 (by decide) (by decide)).trans fa1) ((ga 4 (by decide) (by decide)).trans fb1) ((ga 6 (by decide) (by decide)).trans fc1)) (fun v675 h675 u675 q675 => ?_) (fun E675 h675 u675 q675 => ?_)
                    · obtain ⟨eh675, s675, t675, ps1, ps2, z675⟩ := q675
                      replace eh675 := eh675.symm
                      subst eh675
                      cases z675
                      show zL zrx zi _ 155 97 [(0, _), (1, _), (2, _), (3, _)] [_] _ _ _
                      refine zLiret vr_155_97 rfl (fun x676 e676 => ?_)
                      cases e676
                      exact ⟨_, _, rfl, t0, Or.inl ⟨⟨isr_y h0c (of_decide_eq_true q641), inB_y (by simpa using q646), inB_y (of_decide_eq_true q655)⟩, _, _, _, _, _, _, _, e4, (t0.2.2.1 _).symm.trans t662, g662, g669, fa1, fb1, fc1, ps1, ps2, rfl⟩⟩
                    · obtain ⟨-, _, _, -, -, z⟩ := q675
                      cases z
                  · obtain ⟨-, -, w, z, -⟩ := q673
                    cases z
                · obtain ⟨-, -, w, z, -⟩ := q666
                  cases z
              · obtain ⟨-, -, w, z, -⟩ := q659
                cases z
            · cases e655
              refine zSaload (m := 1) (k := 0) vr_155_41 rfl rfl rfl ?_
              refine zSp0 (pc' := 43) (st' := .int (2) :: _) vr_155_42 rfl rfl ?_
              refine zScall vr_155_43 rfl rfl rfl (fun m679 _ => C_no _ _ _ _ _) (fun v679 h679 u679 q679 => ?_) (fun E679 h679 u679 q679 => ?_)
              · obtain ⟨gn679, z679⟩ := q679
                cases z679
                show zL zrx zi _ 155 46 [(0, _), (1, _), (2, _), (3, _)] [_] _ _ _
                refine zLiret vr_155_46 rfl (fun x680 e680 => ?_)
                cases e680
                first
                  | exact ⟨_, _, rfl, t0, Or.inr (Or.inr ⟨isr_y h0c (of_decide_eq_true q641), fun z => inB_n (of_decide_eq_true q646) z.1, gn679⟩)⟩
                  | exact ⟨_, _, rfl, t0, Or.inr (Or.inr ⟨isr_y h0c (of_decide_eq_true q641), fun z => inB_n (by simpa using q655) z.2, gn679⟩)⟩
              · obtain ⟨-, z⟩ := q679
                cases z
          · obtain ⟨-, z⟩ := q654
            cases z
      · obtain ⟨-, z⟩ := q645
        cases z
    · cases e641
      refine zSaload (m := 1) (k := 0) vr_155_13 rfl rfl rfl ?_
      refine zSp0 (pc' := 15) (st' := .int (1) :: _) vr_155_14 rfl rfl ?_
      refine zScall vr_155_15 rfl rfl rfl (fun m683 _ => C_no _ _ _ _ _) (fun v683 h683 u683 q683 => ?_) (fun E683 h683 u683 q683 => ?_)
      · obtain ⟨gn683, z683⟩ := q683
        cases z683
        show zL zrx zi _ 155 18 [(0, _), (1, _), (2, _), (3, _)] [_] _ _ _
        refine zLiret vr_155_18 rfl (fun x684 e684 => ?_)
        cases e684
        exact ⟨_, _, rfl, t0, Or.inr (Or.inl ⟨isr_n h0c (by simpa using q641), gn683⟩)⟩
      · obtain ⟨-, z⟩ := q683
        cases z
  · obtain ⟨-, z⟩ := q640
    cases z
