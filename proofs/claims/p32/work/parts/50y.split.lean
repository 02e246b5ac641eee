/-! ===== a method's check in pieces ===== -/
def cFst (zr : zRow) (zi : Nat → zI) (W : tWd) (ro tg : Nat → Nat → Nat) (Cs : List cCon) (f : Nat) (Hs : List mHead) (c : cCon) : Bool :=
  chk zr zi W ro tg Cs c.2.2.2.1 c.2.2.2.2.1 c.2.2.2.2.2.1 c.2.2.1.1.length f false Hs none c.2.1 c.1 0 c.2.2.1 (cEndB c.2.2.1.1.length c.2.2.2.2.2.2)
def cHdB (zr : zRow) (zi : Nat → zI) (W : tWd) (ro tg : Nat → Nat → Nat) (Cs : List cCon) (f n : Nat) (Hs : List mHead) (c : cCon) (x : mHead) : Bool :=
  x.2.2.length == n && chk zr zi W ro tg Cs c.2.2.2.1 c.2.2.2.2.1 c.2.2.2.2.2.1 c.2.2.1.1.length f true Hs (some x.2.2) c.2.1 c.1 x.1 x.2.1 (cEndB c.2.2.1.1.length c.2.2.2.2.2.2)
theorem cSplit {zr : zRow} {zi : Nat → zI} {W : tWd} {ro tg : Nat → Nat → Nat} {Cs : List cCon} {f n : Nat} {Hs : List mHead} {c : cCon} (h1 : cFst zr zi W ro tg Cs f Hs c = true) (h2 : Hs.all (cHdB zr zi W ro tg Cs f n Hs c) = true) : cCheck zr zi W ro tg Cs f n Hs c = true := by
  unfold cCheck
  exact Bool.and_eq_true_iff.mpr ⟨h1, h2⟩
theorem allChunk {α : Type} {p : α → Bool} (k : Nat) : ∀ (n : Nat) (l : List α), l.length ≤ k * n → (∀ i : Nat, i < n → ((l.drop (k * i)).take k).all p = true) → l.all p = true
  | 0, l, hl, _ => by
    have e : l = [] := List.eq_nil_of_length_eq_zero (by omega)
    subst e
    rfl
  | n + 1, l, hl, h => by
    rw [← List.take_append_drop k l, List.all_append]
    refine Bool.and_eq_true_iff.mpr ⟨?_, allChunk k n (l.drop k) ?_ (fun i hi => ?_)⟩
    · have h0 := h 0 (by omega)
      rwa [Nat.mul_zero, List.drop_zero] at h0
    · rw [List.length_drop]
      rw [Nat.mul_succ] at hl
      omega
    · have h0 := h (i + 1) (by omega)
      have e : k * (i + 1) = k + k * i := by rw [Nat.mul_succ, Nat.add_comm]
      rw [e, ← List.drop_drop] at h0
      exact h0
