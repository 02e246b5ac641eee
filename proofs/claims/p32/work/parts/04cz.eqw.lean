/-! ===== the check of long methods' words: bytes as lists ===== -/
def zEqw (a b : Cond) : Bool := match a, b with
  | .code y c m r, .code y2 c2 m2 r2 => decide (y = y2) && (decide (c.data.toList = c2.data.toList) && (decide (m = m2) && decide (r = r2)))
  | .codeWith y c m r t, .codeWith y2 c2 m2 r2 t2 => decide (y = y2) && (decide (c.data.toList = c2.data.toList) && (decide (m = m2) && (decide (r = r2) && decide (t = t2))))
  | a, b => decide (a = b)
theorem zByte_eq {a b : ByteArray} (h : a.data.toList = b.data.toList) : a = b := by
  cases a
  cases b
  congr 1
  exact Array.toList_inj.mp h
theorem zEqw_ok {a b : Cond} (h : zEqw a b = true) : a = b := by
  unfold zEqw at h
  split at h
  · obtain ⟨h1, h⟩ := Bool.and_eq_true_iff.mp h
    obtain ⟨h2, h⟩ := Bool.and_eq_true_iff.mp h
    obtain ⟨h3, h4⟩ := Bool.and_eq_true_iff.mp h
    rw [of_decide_eq_true h1, zByte_eq (of_decide_eq_true h2), of_decide_eq_true h3, of_decide_eq_true h4]
  · obtain ⟨h1, h⟩ := Bool.and_eq_true_iff.mp h
    obtain ⟨h2, h⟩ := Bool.and_eq_true_iff.mp h
    obtain ⟨h3, h⟩ := Bool.and_eq_true_iff.mp h
    obtain ⟨h4, h5⟩ := Bool.and_eq_true_iff.mp h
    rw [of_decide_eq_true h1, zByte_eq (of_decide_eq_true h2), of_decide_eq_true h3, of_decide_eq_true h4, of_decide_eq_true h5]
  · exact of_decide_eq_true h
def zEqs : List Cond → List Cond → Bool
  | [], [] => true
  | a :: as, b :: bs => zEqw a b && zEqs as bs
  | _, _ => false
theorem zEqs_ok : ∀ {a b : List Cond}, zEqs a b = true → a = b
  | [], [], _ => rfl
  | a :: as, b :: bs, h => by
    unfold zEqs at h
    obtain ⟨h1, h2⟩ := Bool.and_eq_true_iff.mp h
    rw [zEqw_ok h1, zEqs_ok h2]
  | [], _ :: _, h => by cases h
  | _ :: _, [], h => by cases h
theorem zPls_ok2 {l : List Cond} (ps : List Nat) (h1 : zEqs l (zPls ps) = true) (h2 : l.all (fun w => goodWord w || zxw w) = true) : ∀ w ∈ l, zWd w := zPls_ok ps (zEqs_ok h1) h2
