/-! ===== the abstract machine: its pure instructions are right ===== -/
theorem iMx_ok (a b : Int) : a ≤ iMx a b ∧ b ≤ iMx a b ∧ (iMx a b = a ∨ iMx a b = b) := by
  unfold iMx
  split <;> omega
theorem iMn_ok (a b : Int) : iMn a b ≤ a ∧ iMn a b ≤ b ∧ (iMn a b = a ∨ iMn a b = b) := by
  unfold iMn
  split <;> omega
theorem cSix {op : Nat} (ho : op < 6) : op = 0 ∨ op = 1 ∨ op = 2 ∨ op = 3 ∨ op = 4 ∨ op = 5 := by omega
theorem cLearn_ok {op : Nat} (ho : op < 6) {xl xh lo hi x y : Int} (h : cHold op x y) (h1 : xl ≤ x) (h2 : x ≤ xh) (h3 : lo ≤ y) (h4 : y ≤ hi) : (cLearn op xl xh lo hi).1 ≤ x ∧ x ≤ (cLearn op xl xh lo hi).2 := by
  rcases cSix ho with rfl | rfl | rfl | rfl | rfl | rfl
  · show iMx xl lo ≤ x ∧ x ≤ iMn xh hi
    have h : x = y := h
    have := iMx_ok xl lo
    have := iMn_ok xh hi
    omega
  · show (if lo = hi then (if xl = lo then xl + 1 else xl, if xh = lo then xh - 1 else xh) else (xl, xh)).1 ≤ x ∧ x ≤ (if lo = hi then (if xl = lo then xl + 1 else xl, if xh = lo then xh - 1 else xh) else (xl, xh)).2
    have h : x ≠ y := h
    split
    · show (if xl = lo then xl + 1 else xl) ≤ x ∧ x ≤ (if xh = lo then xh - 1 else xh)
      constructor
      · split <;> omega
      · split <;> omega
    · exact ⟨h1, h2⟩
  · show xl ≤ x ∧ x ≤ iMn xh (hi - 1)
    have h : x < y := h
    have := iMn_ok xh (hi - 1)
    omega
  · show iMx xl lo ≤ x ∧ x ≤ xh
    have h : y ≤ x := h
    have := iMx_ok xl lo
    omega
  · show iMx xl (lo + 1) ≤ x ∧ x ≤ xh
    have h : y < x := h
    have := iMx_ok xl (lo + 1)
    omega
  · show xl ≤ x ∧ x ≤ iMn xh hi
    have h : x ≤ y := h
    have := iMn_ok xh hi
    omega
theorem cSwap_ok {op : Nat} (ho : op < 6) {x y : Int} (h : cHold op x y) : cHold (cSwap op) y x := by
  rcases cSix ho with rfl | rfl | rfl | rfl | rfl | rfl
  · exact (show x = y from h).symm
  · exact fun q => (show x ≠ y from h) q.symm
  · exact h
  · exact h
  · exact h
  · exact h
theorem cNeg_ok {op : Nat} (ho : op < 6) {x y : Int} (h : ¬ cHold op x y) : cHold (cNeg op) x y := by
  rcases cSix ho with rfl | rfl | rfl | rfl | rfl | rfl
  · exact h
  · exact (Decidable.of_not_not (show ¬ ¬ x = y from h) : x = y)
  · exact Int.not_lt.mp (show ¬ x < y from h)
  · exact Int.not_le.mp (show ¬ y ≤ x from h)
  · exact Int.not_lt.mp (show ¬ y < x from h)
  · exact Int.not_le.mp (show ¬ x ≤ y from h)
theorem cSwap_lt {op : Nat} (ho : op < 6) : cSwap op < 6 := by
  rcases cSix ho with rfl | rfl | rfl | rfl | rfl | rfl <;> decide
theorem cNeg_lt {op : Nat} (ho : op < 6) : cNeg op < 6 := by
  rcases cSix ho with rfl | rfl | rfl | rfl | rfl | rfl <;> decide
theorem tBnd (x : Int32) : tMin ≤ x.toInt ∧ x.toInt ≤ tMax := by
  have h1 := x.le_toInt
  have h2 := x.toInt_lt
  unfold tMin tMax
  constructor <;> omega
theorem tBmod {n : Int} (h1 : tMin ≤ n) (h2 : n ≤ tMax) : n.bmod (2 ^ 32) = n := by
  unfold tMin at h1
  unfold tMax at h2
  exact Int.bmod_eq_of_le (by show -(4294967296 / 2 : Int) ≤ n; omega) (by show n < (4294967296 + 1) / 2; omega)
theorem tOfInt {n : Int} (h1 : tMin ≤ n) (h2 : n ≤ tMax) : (Int32.ofInt n).toInt = n := Int32.toInt_ofInt_of_le (by unfold tMin at h1; omega) (by unfold tMax at h2; omega)
theorem tFull {ρ : List Nat} (x : Int32) : tHas ρ tFl (.int x) := ⟨x, rfl, tBnd x⟩
theorem tRng_ok {ρ : List Nat} {lo hi n : Int} {x : Int32} (h1 : lo ≤ n) (h2 : n ≤ hi) (hx : x.toInt = n.bmod (2 ^ 32)) : tHas ρ (tRng lo hi) (.int x) := by
  unfold tRng
  split
  · rename_i h
    rw [tBmod (by omega) (by omega)] at hx
    exact ⟨x, rfl, by dsimp only; omega, by dsimp only; omega⟩
  · exact tFull x
theorem tAnd_nn (x y : Int32) (h : 0 ≤ y.toInt) : 0 ≤ (x &&& y).toInt ∧ (x &&& y).toInt ≤ y.toInt := by
  have e : (x &&& y).toInt = (x.toBitVec &&& y.toBitVec).toInt := rfl
  have e2 : y.toInt = y.toBitVec.toInt := rfl
  have h3 : (x.toBitVec &&& y.toBitVec).toNat ≤ y.toBitVec.toNat := by rw [BitVec.toNat_and]; exact Nat.and_le_right
  have h4 := y.toBitVec.isLt
  rw [e2] at h ⊢
  rw [e]
  rw [BitVec.toInt_eq_toNat_cond] at h ⊢
  rw [BitVec.toInt_eq_toNat_cond]
  split at h
  · rename_i q
    rw [if_pos q, if_pos (by omega)]
    omega
  · omega
section sPok
variable {hb ub : Nat} {ρ : List Nat} {ν : List Value} {S : sS} {lv : List (Nat × Value)} {st : List Value} {h : List zC} {u : Nat} {succ : List (Nat × sS)} {pc : Nat}
def sGd (hb ub : Nat) (ρ : List Nat) (ν : List Value) (h : List zC) (u : Nat) (succ : List (Nat × sS)) (z : zO) : Prop := ∃ pc' lv' st', z = some (pc', lv', st') ∧ ∃ ν' S', (pc', S') ∈ succ ∧ nExt ν ν' ∧ gA hb ub ρ ν' S' lv' st' h u
abbrev tIn (t : tT) (x : Int32) : Prop := t.2.1 ≤ x.toInt ∧ x.toInt ≤ t.2.2
theorem sPush_ok {pc' : Nat} {t : tT} {T : List Nat} {st' : List Value} {g : List sF} {v : Value} (ha : sPush S pc' t T g = some succ) (hA : gA hb ub ρ ν S lv st h u) (hT : gSt ν T st') (hv : tHas ρ t v) (hg : ∀ f ∈ g, fHold hb (ν ++ [v]) h f) : sGd hb ub ρ ν h u succ (some (pc', lv, v :: st')) := by
  unfold sPush at ha
  cases ha
  exact ⟨_, _, _, rfl, ν ++ [v], _, List.mem_cons_self, nExt_app _ _, hA.push hv hg (hA.2.1.ext (nExt_app _ _)) (gSt.cons (hA.new v) (hT.ext (nExt_app _ _)))⟩
theorem sBin_ok {t : tT → tT → tT} {g : Nat → Nat → List sF} {f : Int32 → Int32 → Value} (ha : sBin pc S t g = some succ) (hA : gA hb ub ρ ν S lv st h u)
    (hf : ∀ (x y : Nat) (a b : Int32), ν[x]? = some (.int a) → ν[y]? = some (.int b) → tIn (sGet S.1 x) a → tIn (sGet S.1 y) b → tHas ρ (t (sGet S.1 x) (sGet S.1 y)) (f a b) ∧ ∀ q ∈ g x y, fHold hb (ν ++ [f a b]) h q) : sGd hb ub ρ ν h u succ (z2 pc lv st f) := by
  unfold sBin at ha
  split at ha
  · rename_i y x r hs
    split at ha
    · rename_i hc
      have hT0 := hA.2.2.1
      rw [hs] at hT0
      obtain ⟨vy, st1, rfl, ey, hT1⟩ := hT0.inv
      obtain ⟨vx, st2, rfl, ex, hT⟩ := hT1.inv
      obtain ⟨b, rfl, hb1, hb2⟩ := hA.int ey hc.2
      obtain ⟨a, rfl, ha1, ha2⟩ := hA.int ex hc.1
      obtain ⟨q1, q2⟩ := hf x y a b ex ey ⟨ha1, ha2⟩ ⟨hb1, hb2⟩
      exact sPush_ok ha hA hT q1 q2
    · cases ha
  · cases ha
theorem sBin2_ok {t : Nat → Nat → tT} {g : Nat → Nat → List sF} {f : Int32 → Int32 → Value} (ha : sBin2 pc S t g = some succ) (hA : gA hb ub ρ ν S lv st h u)
    (hf : ∀ (x y : Nat) (a b : Int32), ν[x]? = some (.int a) → ν[y]? = some (.int b) → tIn (sGet S.1 x) a → tIn (sGet S.1 y) b → tHas ρ (t x y) (f a b) ∧ ∀ q ∈ g x y, fHold hb (ν ++ [f a b]) h q) : sGd hb ub ρ ν h u succ (z2 pc lv st f) := by
  unfold sBin2 at ha
  split at ha
  · rename_i y x r hs
    split at ha
    · rename_i hc
      have hT0 := hA.2.2.1
      rw [hs] at hT0
      obtain ⟨vy, st1, rfl, ey, hT1⟩ := hT0.inv
      obtain ⟨vx, st2, rfl, ex, hT⟩ := hT1.inv
      obtain ⟨b, rfl, hb1, hb2⟩ := hA.int ey hc.2
      obtain ⟨a, rfl, ha1, ha2⟩ := hA.int ex hc.1
      obtain ⟨q1, q2⟩ := hf x y a b ex ey ⟨ha1, ha2⟩ ⟨hb1, hb2⟩
      exact sPush_ok ha hA hT q1 q2
    · cases ha
  · cases ha
theorem sUn_int {t : tT → tT} {g : Nat → List sF} {f : Int32 → Value} (ha : sUn pc S 0 t g = some succ) (hA : gA hb ub ρ ν S lv st h u)
    (hf : ∀ (x : Nat) (a : Int32), ν[x]? = some (.int a) → tIn (sGet S.1 x) a → tHas ρ (t (sGet S.1 x)) (f a) ∧ ∀ q ∈ g x, fHold hb (ν ++ [f a]) h q) : sGd hb ub ρ ν h u succ (z1 pc lv st f) := by
  unfold sUn at ha
  split at ha
  · rename_i x r hs
    split at ha
    · rename_i hc
      have hT0 := hA.2.2.1
      rw [hs] at hT0
      obtain ⟨vx, st2, rfl, ex, hT⟩ := hT0.inv
      obtain ⟨a, rfl, ha1, ha2⟩ := hA.int ex hc
      obtain ⟨q1, q2⟩ := hf x a ex ⟨ha1, ha2⟩
      exact sPush_ok ha hA hT q1 q2
    · cases ha
  · cases ha
theorem sUn_double {t : tT} {f : UInt64 → Value} (ha : sUn pc S 2 (fun _ => t) (fun _ => []) = some succ) (hA : gA hb ub ρ ν S lv st h u) (hf : ∀ x, tHas ρ t (f x)) : sGd hb ub ρ ν h u succ (zd1 pc lv st f) := by
  unfold sUn at ha
  split at ha
  · rename_i x r hs
    split at ha
    · rename_i hc
      have hT0 := hA.2.2.1
      rw [hs] at hT0
      obtain ⟨vx, st2, rfl, ex, hT⟩ := hT0.inv
      obtain ⟨a, rfl⟩ := tHas_double (hA.1.2 _ _ ex) hc
      exact sPush_ok ha hA hT (hf a) (fun q hq => by cases hq)
    · cases ha
  · cases ha
theorem sBinK_long {t : tT} {f : Int64 → Int64 → Value} (ha : sBinK pc S 1 t = some succ) (hA : gA hb ub ρ ν S lv st h u) (hf : ∀ x y, tHas ρ t (f x y)) : sGd hb ub ρ ν h u succ (zl2 pc lv st f) := by
  unfold sBinK at ha
  split at ha
  · rename_i y x r hs
    split at ha
    · rename_i hc
      have hT0 := hA.2.2.1
      rw [hs] at hT0
      obtain ⟨vy, st1, rfl, ey, hT1⟩ := hT0.inv
      obtain ⟨vx, st2, rfl, ex, hT⟩ := hT1.inv
      obtain ⟨b, rfl⟩ := tHas_long (hA.1.2 _ _ ey) hc.2
      obtain ⟨a, rfl⟩ := tHas_long (hA.1.2 _ _ ex) hc.1
      exact sPush_ok ha hA hT (hf a b) (fun q hq => by cases hq)
    · cases ha
  · cases ha
theorem sBinK_double {t : tT} {f : UInt64 → UInt64 → Value} (ha : sBinK pc S 2 t = some succ) (hA : gA hb ub ρ ν S lv st h u) (hf : ∀ x y, tHas ρ t (f x y)) : sGd hb ub ρ ν h u succ (zd2 pc lv st f) := by
  unfold sBinK at ha
  split at ha
  · rename_i y x r hs
    split at ha
    · rename_i hc
      have hT0 := hA.2.2.1
      rw [hs] at hT0
      obtain ⟨vy, st1, rfl, ey, hT1⟩ := hT0.inv
      obtain ⟨vx, st2, rfl, ex, hT⟩ := hT1.inv
      obtain ⟨b, rfl⟩ := tHas_double (hA.1.2 _ _ ey) hc.2
      obtain ⟨a, rfl⟩ := tHas_double (hA.1.2 _ _ ex) hc.1
      exact sPush_ok ha hA hT (hf a b) (fun q hq => by cases hq)
    · cases ha
  · cases ha
theorem sLook_mem : ∀ {L : List (Nat × Nat)} {i s : Nat}, sLook L i = some s → (i, s) ∈ L
  | [], _, _, h => by cases h
  | q :: r, i, s, h => by
    unfold sLook at h
    split at h
    · rename_i e
      cases h
      rw [← e]
      exact List.mem_cons_self
    · exact List.mem_cons_of_mem _ (sLook_mem h)
theorem sLd_get {ok : tT → Bool} {n i : Nat} (ha : sLd pc S ok n i = some succ) (hA : gA hb ub ρ ν S lv st h u) : ∃ v t, zld lv i = some v ∧ tHas ρ t v ∧ ok t = true ∧ sGd hb ub ρ ν h u succ (some (pc + n, lv, v :: st)) := by
  unfold sLd at ha
  split at ha
  · rename_i s hl
    split at ha
    · rename_i hc
      cases ha
      obtain ⟨v, q1, q2⟩ := hA.2.1 _ (sLook_mem hl)
      exact ⟨v, _, q1, hA.1.2 _ _ q2, hc, _, _, _, rfl, ν, _, List.mem_cons_self, nExt.refl ν, hA.1, hA.2.1, gSt.cons q2 hA.2.2.1, hA.2.2.2⟩
    · cases ha
  · cases ha
theorem sLd_zLI {n i : Nat} (ha : sLd pc S (fun t => t.1 == 0) n i = some succ) (hA : gA hb ub ρ ν S lv st h u) : sGd hb ub ρ ν h u succ (zLI pc lv st n i) := by
  obtain ⟨v, t, q1, q2, q3, q4⟩ := sLd_get ha hA
  obtain ⟨x, rfl, -⟩ := tHas_int q2 (by simpa using q3)
  unfold zLI
  rw [q1]
  exact q4
theorem sLd_zLL {n i : Nat} (ha : sLd pc S (fun t => t.1 == 1) n i = some succ) (hA : gA hb ub ρ ν S lv st h u) : sGd hb ub ρ ν h u succ (zLL pc lv st n i) := by
  obtain ⟨v, t, q1, q2, q3, q4⟩ := sLd_get ha hA
  obtain ⟨x, rfl⟩ := tHas_long q2 (by simpa using q3)
  unfold zLL
  rw [q1]
  exact q4
theorem sLd_zLD {n i : Nat} (ha : sLd pc S (fun t => t.1 == 2) n i = some succ) (hA : gA hb ub ρ ν S lv st h u) : sGd hb ub ρ ν h u succ (zLD pc lv st n i) := by
  obtain ⟨v, t, q1, q2, q3, q4⟩ := sLd_get ha hA
  obtain ⟨x, rfl⟩ := tHas_double q2 (by simpa using q3)
  unfold zLD
  rw [q1]
  exact q4
theorem sLd_zLA {n i : Nat} (ha : sLd pc S tIsR n i = some succ) (hA : gA hb ub ρ ν S lv st h u) : sGd hb ub ρ ν h u succ (zLA pc lv st n i) := by
  obtain ⟨v, t, q1, q2, q3, q4⟩ := sLd_get ha hA
  unfold zLA
  rw [q1]
  rcases tHas_refs q2 q3 with rfl | ⟨x, rfl⟩ <;> exact q4
theorem zld_filter {f : Nat → Nat → Bool} {k : Nat} {w : Value} (hf : f k w.category = true) : ∀ {lv : List (Nat × Value)}, zld lv k = some w → zld (lv.filter (fun q => f q.1 q.2.category)) k = some w
  | [], hh => by cases hh
  | q :: r, hh => by
    unfold zld at hh
    by_cases e : q.1 = k
    · rw [if_pos e] at hh
      cases hh
      rw [List.filter_cons, if_pos (by rw [e]; exact hf)]
      unfold zld
      rw [if_pos e]
    · rw [if_neg e] at hh
      rw [List.filter_cons]
      split
      · unfold zld
        rw [if_neg e]
        exact zld_filter hf hh
      · exact zld_filter hf hh
theorem gLo_s1 {E : List tT} {L : List (Nat × Nat)} {i s : Nat} {v : Value} (hE : gEn ρ ν E) (hL : gLo ν lv L) (hv : ν[s]? = some v) : gLo ν (zs1 lv i v) ((i, s) :: sDel1 E L i) := by
  intro e he
  rcases List.mem_cons.mp he with rfl | he
  · refine ⟨v, ?_, hv⟩
    unfold zs1 zld
    rw [if_pos rfl]
  · unfold sDel1 at he
    rw [List.mem_filter] at he
    obtain ⟨he, hf⟩ := he
    obtain ⟨w, q1, q2⟩ := hL e he
    refine ⟨w, ?_, q2⟩
    obtain ⟨f1, f2⟩ := Bool.and_eq_true_iff.mp hf
    have f1 : ¬ e.1 = i := by simpa using f1
    unfold zs1 zld
    rw [if_neg (fun q => f1 q.symm)]
    refine zld_filter (f := fun a b => !(a == i) && !(a + 1 == i && b == 2)) ?_ q1
    have g1 : (!(e.1 == i)) = true := by simpa using f1
    rw [g1, Bool.true_and]
    rcases Bool.or_eq_true_iff.mp f2 with f2 | f2
    · have f2 : ¬ e.1 + 1 = i := by simpa using f2
      simp [f2]
    · have := tHas_narr (hE.2 _ _ q2) f2
      simp [this]
theorem gLo_s2 {E : List tT} {L : List (Nat × Nat)} {i s : Nat} {v : Value} (hE : gEn ρ ν E) (hL : gLo ν lv L) (hv : ν[s]? = some v) : gLo ν (zs2 lv i v) ((i, s) :: sDel2 E L i) := by
  intro e he
  rcases List.mem_cons.mp he with rfl | he
  · refine ⟨v, ?_, hv⟩
    unfold zs2 zld
    rw [if_pos rfl]
  · unfold sDel2 at he
    rw [List.mem_filter] at he
    obtain ⟨he, hf⟩ := he
    obtain ⟨w, q1, q2⟩ := hL e he
    refine ⟨w, ?_, q2⟩
    obtain ⟨f1, f2⟩ := Bool.and_eq_true_iff.mp hf
    obtain ⟨f3, f2⟩ := Bool.and_eq_true_iff.mp f2
    have f1 : ¬ e.1 = i := by simpa using f1
    have f3 : ¬ e.1 = i + 1 := by simpa using f3
    unfold zs2 zld
    rw [if_neg (fun q => f1 q.symm)]
    refine zld_filter (f := fun a b => !(a == i) && (!(a == i + 1) && !(a + 1 == i && b == 2))) ?_ q1
    have g1 : (!(e.1 == i)) = true := by simpa using f1
    have g3 : (!(e.1 == i + 1)) = true := by simpa using f3
    rw [g1, g3, Bool.true_and, Bool.true_and]
    rcases Bool.or_eq_true_iff.mp f2 with f2 | f2
    · have f2 : ¬ e.1 + 1 = i := by simpa using f2
      simp [f2]
    · have := tHas_narr (hE.2 _ _ q2) f2
      simp [this]
theorem sSt1_get {ok : tT → Bool} {nL n i : Nat} (ha : sSt1 pc S ok nL n i = some succ) (hA : gA hb ub ρ ν S lv st h u) : ∃ v t st', st = v :: st' ∧ tHas ρ t v ∧ ok t = true ∧ i < nL ∧ sGd hb ub ρ ν h u succ (some (pc + n, zs1 lv i v, st')) := by
  unfold sSt1 at ha
  split at ha
  · rename_i x r hs
    split at ha
    · rename_i hc
      cases ha
      have hT0 := hA.2.2.1
      rw [hs] at hT0
      obtain ⟨vx, st2, rfl, ex, hT⟩ := hT0.inv
      exact ⟨vx, _, st2, rfl, hA.1.2 _ _ ex, hc.1, hc.2, _, _, _, rfl, ν, _, List.mem_cons_self, nExt.refl ν, hA.1, gLo_s1 hA.1 hA.2.1 ex, hT, hA.2.2.2⟩
    · cases ha
  · cases ha
theorem sSt1_zSI {nL n i : Nat} (ha : sSt1 pc S (fun t => t.1 == 0) nL n i = some succ) (hA : gA hb ub ρ ν S lv st h u) : sGd hb ub ρ ν h u succ (zSI pc lv st nL n i) := by
  obtain ⟨v, t, st', rfl, q1, q2, q3, q4⟩ := sSt1_get ha hA
  obtain ⟨x, rfl, -⟩ := tHas_int q1 (by simpa using q2)
  unfold zSI
  dsimp only
  rw [if_pos q3]
  exact q4
theorem sSt1_zSA {nL n i : Nat} (ha : sSt1 pc S tIsR nL n i = some succ) (hA : gA hb ub ρ ν S lv st h u) : sGd hb ub ρ ν h u succ (zSA pc lv st nL n i) := by
  obtain ⟨v, t, st', rfl, q1, q2, q3, q4⟩ := sSt1_get ha hA
  unfold zSA
  rcases tHas_refs q1 q2 with rfl | ⟨x, rfl⟩
  · dsimp only
    rw [if_pos q3]
    exact q4
  · dsimp only
    rw [if_pos q3]
    exact q4
theorem sSt2_get {k nL n i : Nat} (ha : sSt2 pc S k nL n i = some succ) (hA : gA hb ub ρ ν S lv st h u) : ∃ v t st', st = v :: st' ∧ tHas ρ t v ∧ t.1 = k ∧ i + 1 < nL ∧ sGd hb ub ρ ν h u succ (some (pc + n, zs2 lv i v, st')) := by
  unfold sSt2 at ha
  split at ha
  · rename_i x r hs
    split at ha
    · rename_i hc
      cases ha
      have hT0 := hA.2.2.1
      rw [hs] at hT0
      obtain ⟨vx, st2, rfl, ex, hT⟩ := hT0.inv
      exact ⟨vx, _, st2, rfl, hA.1.2 _ _ ex, hc.1, hc.2, _, _, _, rfl, ν, _, List.mem_cons_self, nExt.refl ν, hA.1, gLo_s2 hA.1 hA.2.1 ex, hT, hA.2.2.2⟩
    · cases ha
  · cases ha
theorem sSt2_zSL {nL n i : Nat} (ha : sSt2 pc S 1 nL n i = some succ) (hA : gA hb ub ρ ν S lv st h u) : sGd hb ub ρ ν h u succ (zSL pc lv st nL n i) := by
  obtain ⟨v, t, st', rfl, q1, q2, q3, q4⟩ := sSt2_get ha hA
  obtain ⟨x, rfl⟩ := tHas_long q1 q2
  unfold zSL
  dsimp only
  rw [if_pos q3]
  exact q4
theorem sSt2_zSD {nL n i : Nat} (ha : sSt2 pc S 2 nL n i = some succ) (hA : gA hb ub ρ ν S lv st h u) : sGd hb ub ρ ν h u succ (zSD pc lv st nL n i) := by
  obtain ⟨v, t, st', rfl, q1, q2, q3, q4⟩ := sSt2_get ha hA
  obtain ⟨x, rfl⟩ := tHas_double q1 q2
  unfold zSD
  dsimp only
  rw [if_pos q3]
  exact q4
/-- a and b, told by number in ν: a is at most b + n -/
theorem fLe {ν : List Value} {x y : Nat} {a b : Int32} {k : Nat} {n : Int} (ex : ν[x]? = some (.int a)) (ey : ν[y]? = some (.int b)) (hle : a.toInt ≤ b.toInt + n) : fHold hb ν h (0, x, y, k, n) := ⟨a, b, ex, ey, hle⟩
theorem sInc_lo {E : List tT} {L : List (Nat × Nat)} {i s : Nat} {v w : Value} (hE : gEn ρ ν E) (hL : gLo ν lv L) (hs : ν[s]? = some v) (hn : (ν ++ [w])[E.length]? = some w) : gLo (ν ++ [w]) (zs1 lv i w) ((i, E.length) :: sDel1 E L i) := by
  have hL2 := gLo_s1 (i := i) hE hL hs
  intro z hz
  rcases List.mem_cons.mp hz with rfl | hz
  · refine ⟨_, ?_, hn⟩
    unfold zs1 zld
    rw [if_pos rfl]
  · obtain ⟨x, w1, w2⟩ := hL2 z (List.mem_cons_of_mem _ hz)
    refine ⟨x, ?_, nExt_app _ _ _ _ w2⟩
    have hne : ¬ i = z.1 := fun q => by
      unfold sDel1 at hz
      have := (List.mem_filter.mp hz).2
      simp [q] at this
    unfold zs1 zld at w1 ⊢
    rw [if_neg hne] at w1 ⊢
    exact w1
theorem sInc_ok {nL i : Nat} {n : Int} (ha : sInc pc S nL i n = some succ) (hA : gA hb ub ρ ν S lv st h u) : sGd hb ub ρ ν h u succ (zinc pc lv st nL i n) := by
  unfold sInc at ha
  split at ha
  · rename_i s hl
    split at ha
    · rename_i hc
      obtain ⟨c1, c2⟩ := hc
      obtain ⟨v, q1, q2⟩ := hA.2.1 _ (sLook_mem hl)
      have q2 : ν[s]? = some v := q2
      obtain ⟨x, rfl, x1, x2⟩ := hA.int q2 c1
      unfold zinc
      rw [show zld lv i = some (.int x) from q1]
      dsimp only
      rw [if_pos c2]
      have hx := nExt_app ν [.int (x + Int32.ofInt n)] _ _ q2
      have hn := hA.new (.int (x + Int32.ofInt n))
      have hL := sInc_lo (i := i) hA.1 hA.2.1 q2 hn
      split at ha
      · rename_i hd
        obtain ⟨c3, c4, c5, c6⟩ := hd
        cases ha
        have e : (x + Int32.ofInt n).toInt = x.toInt + n := by
          rw [Int32.toInt_add, tOfInt c5 c6, tBmod (by omega) (by omega)]
        have hE := hA.1.push (t := (0, (sGet S.1 s).2.1 + n, (sGet S.1 s).2.2 + n)) (v := .int (x + Int32.ofInt n)) ⟨_, rfl, by dsimp only; omega, by dsimp only; omega⟩
        refine ⟨_, _, _, rfl, ν ++ [.int (x + Int32.ofInt n)], _, List.mem_cons_self, nExt_app _ _, hE, hL, hA.2.2.1.ext (nExt_app _ _), ?_, hA.2.2.2.2.ext (nExt_app _ _)⟩
        intro f hf
        rcases List.mem_append.mp hf with hf | hf
        · simp only [List.mem_cons, List.not_mem_nil, or_false] at hf
          rcases hf with rfl | rfl
          · exact fLe hn hx (by omega)
          · exact fLe hx hn (by omega)
        · exact (hA.2.2.2.1 f hf).mono (nExt_app _ _)
      · cases ha
        have hE := hA.1.push (t := tFl) (v := .int (x + Int32.ofInt n)) (tFull _)
        exact ⟨_, _, _, rfl, ν ++ [.int (x + Int32.ofInt n)], _, List.mem_cons_self, nExt_app _ _, hE, hL, hA.2.2.1.ext (nExt_app _ _), fun f hf => (hA.2.2.2.1 f hf).mono (nExt_app _ _), hA.2.2.2.2.ext (nExt_app _ _)⟩
    · cases ha
  · cases ha
theorem sGo_ok {off : Int} (ha : sGo pc S off = some succ) (hA : gA hb ub ρ ν S lv st h u) : sGd hb ub ρ ν h u succ (zgo pc lv st off) := by
  unfold sGo at ha
  split at ha
  · rename_i hc
    cases ha
    unfold zgo
    rw [if_pos hc]
    exact ⟨_, _, _, rfl, ν, _, List.mem_cons_self, nExt.refl ν, hA⟩
  · cases ha
theorem gEn.setInt {E : List tT} {s : Nat} {a : Int32} {r : Int × Int} (hE : gEn ρ ν E) (hs : ν[s]? = some (.int a)) (hr : r.1 ≤ a.toInt ∧ a.toInt ≤ r.2) : gEn ρ ν (E.set s (0, r)) := hE.set (fun v hv => by
  rw [hs] at hv
  cases hv
  exact ⟨a, rfl, hr.1, hr.2⟩)
theorem cFacts_ok {op x y k : Nat} {a b : Int32} (ex : ν[x]? = some (.int a)) (ey : ν[y]? = some (.int b)) (hc : cHold op a.toInt b.toInt) : ∀ f ∈ cFacts op x y, fHold hb ν h f := by
  intro f hf
  unfold cFacts at hf
  unfold cHold at hc
  split at hf
  · simp only [List.mem_cons, List.not_mem_nil, or_false] at hf
    have hc : a.toInt = b.toInt := hc
    rcases hf with rfl | rfl
    · exact fLe ex ey (by omega)
    · exact fLe ey ex (by omega)
  · simp only [List.mem_cons, List.not_mem_nil, or_false] at hf
    have hc : a.toInt < b.toInt := hc
    subst hf
    exact fLe ex ey (by omega)
  · simp only [List.mem_cons, List.not_mem_nil, or_false] at hf
    have hc : b.toInt ≤ a.toInt := hc
    subst hf
    exact fLe ey ex (by omega)
  · simp only [List.mem_cons, List.not_mem_nil, or_false] at hf
    have hc : b.toInt < a.toInt := hc
    subst hf
    exact fLe ey ex (by omega)
  · simp only [List.mem_cons, List.not_mem_nil, or_false] at hf
    have hc : a.toInt ≤ b.toInt := hc
    subst hf
    exact fLe ex ey (by omega)
  · cases hf
theorem sK_ok {x y : Nat} {a b : Int32} {c : Int} (hA : gA hb ub ρ ν S lv st h u) (ex : ν[x]? = some (.int a)) (ey : ν[y]? = some (.int b)) (hk : sK S x y c = true) : a.toInt ≤ b.toInt + c := by
  unfold sK at hk
  rcases Bool.or_eq_true_iff.mp hk with hk | hn
  · rcases Bool.or_eq_true_iff.mp hk with hk | hn
    · obtain ⟨h1, h2⟩ := Bool.and_eq_true_iff.mp hk
      have h1 : x = y := by simpa using h1
      have h2 := of_decide_eq_true h2
      subst h1
      rw [ex] at ey
      cases ey
      omega
    · obtain ⟨g, hg, hn⟩ := List.any_eq_true.mp hn
      obtain ⟨h1, hn⟩ := Bool.and_eq_true_iff.mp hn
      obtain ⟨h2, hn⟩ := Bool.and_eq_true_iff.mp hn
      have G := hA.2.2.2.1 g hg
      unfold fHold at G
      rw [show g.1 = 12 by simpa using h1] at G
      obtain ⟨t, x2, y2, e1, e2, e3, e4⟩ := G
      rw [show g.2.2.1 = y by simpa using h2, ey] at e2
      cases e2
      rcases Bool.or_eq_true_iff.mp hn with hn | hn
      · obtain ⟨h3, hn⟩ := Bool.and_eq_true_iff.mp hn
        obtain ⟨h4, h5⟩ := Bool.and_eq_true_iff.mp hn
        have h5 := of_decide_eq_true h5
        rw [show g.2.1 = x by simpa using h3, ex] at e1
        cases e1
        obtain ⟨z, z1, z2, -⟩ := hA.int e3 (by simpa using h4)
        cases z1
        omega
      · obtain ⟨h3, hn⟩ := Bool.and_eq_true_iff.mp hn
        obtain ⟨h4, h5⟩ := Bool.and_eq_true_iff.mp hn
        have h5 := of_decide_eq_true h5
        rw [show g.2.2.2.1 = x by simpa using h3, ex] at e3
        cases e3
        obtain ⟨z, z1, z2, -⟩ := hA.int e1 (by simpa using h4)
        cases z1
        omega
  · obtain ⟨g, hg, hn⟩ := List.any_eq_true.mp hn
    obtain ⟨h1, hn⟩ := Bool.and_eq_true_iff.mp hn
    obtain ⟨h2, hn⟩ := Bool.and_eq_true_iff.mp hn
    have G := hA.2.2.2.1 g hg
    unfold fHold at G
    rw [show g.1 = 0 by simpa using h1] at G
    obtain ⟨p, q, q1, q2, q3⟩ := G
    rw [show g.2.1 = x by simpa using h2, ex] at q1
    cases q1
    rcases Bool.or_eq_true_iff.mp hn with hn | hn
    · obtain ⟨h3, h4⟩ := Bool.and_eq_true_iff.mp hn
      have h4 := of_decide_eq_true h4
      rw [show g.2.2.1 = y by simpa using h3, ey] at q2
      cases q2
      omega
    · obtain ⟨g2, hg2, hn⟩ := List.any_eq_true.mp hn
      obtain ⟨i1, hn⟩ := Bool.and_eq_true_iff.mp hn
      obtain ⟨i2, hn⟩ := Bool.and_eq_true_iff.mp hn
      have G2 := hA.2.2.2.1 g2 hg2
      unfold fHold at G2
      rw [show g2.1 = 0 by simpa using i1] at G2
      obtain ⟨p2, q5, q6, q7, q8⟩ := G2
      rw [show g2.2.1 = g.2.2.1 by simpa using i2, q2] at q6
      cases q6
      rcases Bool.or_eq_true_iff.mp hn with hn | hn
      · obtain ⟨i3, i4⟩ := Bool.and_eq_true_iff.mp hn
        have i4 := of_decide_eq_true i4
        rw [show g2.2.2.1 = y by simpa using i3, ey] at q7
        cases q7
        omega
      · obtain ⟨g3, hg3, hn⟩ := List.any_eq_true.mp hn
        obtain ⟨j1, hn⟩ := Bool.and_eq_true_iff.mp hn
        obtain ⟨j2, hn⟩ := Bool.and_eq_true_iff.mp hn
        obtain ⟨j3, j4⟩ := Bool.and_eq_true_iff.mp hn
        have j4 := of_decide_eq_true j4
        have G3 := hA.2.2.2.1 g3 hg3
        unfold fHold at G3
        rw [show g3.1 = 0 by simpa using j1] at G3
        obtain ⟨p3, q9, r1, r2, r3⟩ := G3
        rw [show g3.2.1 = g2.2.2.1 by simpa using j2, q7] at r1
        rw [show g3.2.2.1 = y by simpa using j3, ey] at r2
        cases r1
        cases r2
        omega
theorem kHi_ok {x y : Nat} {a b : Int32} {hi : Int} (hA : gA hb ub ρ ν S lv st h u) (ex : ν[x]? = some (.int a)) (ey : ν[y]? = some (.int b)) (h0 : a.toInt - b.toInt ≤ hi) : a.toInt - b.toInt ≤ kHi S x y hi := by
  unfold kHi
  obtain ⟨-, -, q1⟩ := iMn_ok hi (-1)
  obtain ⟨-, -, q2⟩ := iMn_ok hi 0
  obtain ⟨-, -, q3⟩ := iMn_ok hi 1
  split
  · rename_i k
    have := sK_ok hA ex ey k
    omega
  · split
    · rename_i k
      have := sK_ok hA ex ey k
      omega
    · split
      · rename_i k
        have := sK_ok hA ex ey k
        omega
      · exact h0
theorem tNar_ok {x y : Nat} {a b : Int32} (hA : gA hb ub ρ ν S lv st h u) (ex : ν[x]? = some (.int a)) (ey : ν[y]? = some (.int b)) (hx : tIn (sGet S.1 x) a) (hy : tIn (sGet S.1 y) b) : tHas ρ (tNar S x y) (.int (a - b)) := by
  unfold tNar
  obtain ⟨x1, x2⟩ := hx
  obtain ⟨y1, y2⟩ := hy
  split
  · rename_i c
    have e : (a - b).toInt = a.toInt - b.toInt := by rw [Int32.toInt_sub, tBmod (by omega) (by omega)]
    have h1 := kHi_ok hA ex ey (hi := (sGet S.1 x).2.2 - (sGet S.1 y).2.1) (by omega)
    have h2 := kHi_ok hA ey ex (hi := -((sGet S.1 x).2.1 - (sGet S.1 y).2.2)) (by omega)
    exact ⟨a - b, rfl, by rw [e]; dsimp only; omega, by rw [e]; dsimp only; omega⟩
  · exact tFull _
theorem cNe_ok {x y : Nat} {a b : Int32} (hA : gA hb ub ρ ν S lv st h u) (ex : ν[x]? = some (.int a)) (ey : ν[y]? = some (.int b)) (hc : a.toInt ≠ b.toInt) : ∀ f ∈ cNe S x y, fHold hb ν h f := by
  intro f hf
  unfold cNe at hf
  rcases List.mem_append.mp hf with hf | hf
  · split at hf
    · rename_i hn
      have := sK_ok hA ex ey hn
      simp only [List.mem_cons, List.not_mem_nil, or_false] at hf
      subst hf
      exact fLe ex ey (by omega)
    · cases hf
  · split at hf
    · rename_i hn
      have := sK_ok hA ey ex hn
      simp only [List.mem_cons, List.not_mem_nil, or_false] at hf
      subst hf
      exact fLe ey ex (by omega)
    · cases hf
theorem sNo_ok {op x y : Nat} {a b : Int32} (ho : op < 6) (hA : gA hb ub ρ ν S lv st h u) (ex : ν[x]? = some (.int a)) (ey : ν[y]? = some (.int b)) (hc : cHold op a.toInt b.toInt) : ¬ sNo S op x y = true := by
  intro hn
  rcases cSix ho with rfl | rfl | rfl | rfl | rfl | rfl
  · have hc : a.toInt = b.toInt := hc
    rcases Bool.or_eq_true_iff.mp (show (sK S x y (-1) || sK S y x (-1)) = true from hn) with hn | hn
    · have := sK_ok hA ex ey hn
      omega
    · have := sK_ok hA ey ex hn
      omega
  · have hc : a.toInt ≠ b.toInt := hc
    obtain ⟨h1, h2⟩ := Bool.and_eq_true_iff.mp (show (sK S x y 0 && sK S y x 0) = true from hn)
    have := sK_ok hA ex ey h1
    have := sK_ok hA ey ex h2
    omega
  · have hc : a.toInt < b.toInt := hc
    have := sK_ok hA ey ex (show sK S y x 0 = true from hn)
    omega
  · have hc : b.toInt ≤ a.toInt := hc
    have := sK_ok hA ex ey (show sK S x y (-1) = true from hn)
    omega
  · have hc : b.toInt < a.toInt := hc
    have := sK_ok hA ex ey (show sK S x y 0 = true from hn)
    omega
  · have hc : a.toInt ≤ b.toInt := hc
    have := sK_ok hA ey ex (show sK S y x (-1) = true from hn)
    omega
theorem sCut_ok {E : List tT} {y : Nat} {lo hi : Int} {b : Int32} (hE : gEn ρ ν E) (ey : ν[y]? = some (.int b)) (h1 : lo ≤ b.toInt) (h2 : b.toInt ≤ hi) : gEn ρ ν (sCut E y lo hi) := by
  unfold sCut
  split
  · rename_i k
    obtain ⟨b2, e, b3, b4⟩ := tHas_int (hE.2 _ _ ey) k
    cases e
    obtain ⟨-, -, q1⟩ := iMx_ok (sGet E y).2.1 lo
    obtain ⟨-, -, q2⟩ := iMn_ok (sGet E y).2.2 hi
    exact hE.setInt (r := (iMx (sGet E y).2.1 lo, iMn (sGet E y).2.2 hi)) ey ⟨by dsimp only; omega, by dsimp only; omega⟩
  · exact hE
theorem sPrD_ok {x : Nat} {G : List sF} (hG : ∀ f ∈ G, fHold hb ν h f) : ∀ {F : List sF} {E : List tT}, gEn ρ ν E → (∀ f ∈ F, fHold hb ν h f) → gEn ρ ν (sPrD E x G F)
  | [], _, hE, _ => hE
  | f :: r, E, hE, hF => by
    unfold sPrD
    refine sPrD_ok hG ?_ (fun g hg => hF g (List.mem_cons_of_mem _ hg))
    split
    · rename_i c
      have F := hF f List.mem_cons_self
      unfold fHold at F
      rw [c.1] at F
      obtain ⟨p, q, e1, e2, e3⟩ := F
      split
      · rename_i d
        rw [d] at e2
        obtain ⟨q2, z, z1, z2⟩ := tHas_int (hE.2 _ _ e2) c.2
        cases z
        exact sCut_ok hE e1 (by have := p.le_toInt; unfold tMin; omega) (by omega)
      · split
        · rename_i d
          rw [d] at e1
          obtain ⟨p2, z, z1, z2⟩ := tHas_int (hE.2 _ _ e1) c.2
          cases z
          exact sCut_ok hE e2 (by omega) (by have := q.toInt_lt; unfold tMax; omega)
        · exact hE
    · split
      · rename_i d
        split
        · rename_i g hg
          have hm := List.mem_of_find?_eq_some hg
          have hp := List.find?_some hg
          obtain ⟨p1, p2⟩ := Bool.and_eq_true_iff.mp hp
          have F := hF f List.mem_cons_self
          have K := hG g hm
          unfold fHold at F K
          rw [d.1] at F
          rw [show g.1 = 15 by simpa using p1] at K
          obtain ⟨a, c, x2, y, e1, e2, e3, e4, e5, e6⟩ := F
          obtain ⟨a2, c2, k1, k2, k3⟩ := K
          rw [show g.2.1 = f.2.1 by simpa using p2, e1] at k1
          cases k1
          rw [e2] at k2
          cases k2
          have := zcnt_take c.2 x2.toInt.toNat
          exact sCut_ok hE e4 (by omega) (by omega)
        · exact hE
      · exact hE
theorem sPrA_ok : ∀ {F : List sF} {E : List tT}, gEn ρ ν E → (∀ f ∈ F, fHold hb ν h f) → gEn ρ ν (sPrA E F)
  | [], _, hE, _ => hE
  | f :: r, E, hE, hF => by
    unfold sPrA
    refine sPrA_ok ?_ (fun g hg => hF g (List.mem_cons_of_mem _ hg))
    split
    · rename_i c
      have F := hF f List.mem_cons_self
      unfold fHold at F
      rw [c.1] at F
      obtain ⟨p, q, e1, e2, e3⟩ := F
      obtain ⟨p2, z, z1, z2⟩ := tHas_int (hE.2 _ _ e1) c.2.1
      cases z
      obtain ⟨q2, z, z3, z4⟩ := tHas_int (hE.2 _ _ e2) c.2.2
      cases z
      exact sCut_ok (sCut_ok hE e1 (by have := p.le_toInt; unfold tMin; omega) (by omega)) e2 (by omega) (by have := q.toInt_lt; unfold tMax; omega)
    · exact hE
theorem sRef_ok {op x y : Nat} {a b : Int32} (ho : op < 6) (hA : gA hb ub ρ ν S lv st h u) (kx : (sGet S.1 x).1 = 0) (ky : (sGet S.1 y).1 = 0) (ex : ν[x]? = some (.int a)) (ey : ν[y]? = some (.int b)) (hc : cHold op a.toInt b.toInt) : ∃ S', sRef S op x y = some S' ∧ gA hb ub ρ ν S' lv st h u := by
  obtain ⟨a2, e1, a3, a4⟩ := hA.int ex kx
  cases e1
  obtain ⟨b2, e2, b3, b4⟩ := hA.int ey ky
  cases e2
  have l1 := cLearn_ok ho hc a3 a4 b3 b4
  have l2 := cLearn_ok (cSwap_lt ho) (cSwap_ok ho hc) b3 b4 a3 a4
  unfold sRef
  rw [if_neg (fun q => by
    rcases q with q | q | q
    · omega
    · omega
    · exact sNo_ok ho hA ex ey hc q)]
  refine ⟨_, rfl, sPrD_ok hA.2.2.2.1 (sPrD_ok hA.2.2.2.1 ((hA.1.setInt ex l1).setInt ey l2) hA.2.2.2.1) hA.2.2.2.1, hA.2.1, hA.2.2.1, fun f hf => ?_, hA.2.2.2.2⟩
  rcases List.mem_append.mp hf with hg | hf
  · split at hg
    · rename_i e1
      subst e1
      exact cNe_ok hA ex ey hc f hg
    · cases hg
  rcases List.mem_append.mp hf with hf | hf
  · split at hf
    · cases hf
    · exact cFacts_ok (k := 0) ex ey hc f hf
  · exact hA.2.2.2.1 f hf
theorem sProp_ok {E : List tT} {t : Nat} (hE : gEn ρ ν E) : ∀ {F : List sF}, (∀ f ∈ F, fHold hb ν h f) → gEn ρ ν (sProp E t F)
  | [], _ => hE
  | f :: r, hF => by
    unfold sProp
    split
    · rename_i c
      split
      · rename_i k
        obtain ⟨k1, k2, k3⟩ := k
        have F := hF f List.mem_cons_self
        unfold fHold at F
        rw [c.1] at F
        obtain ⟨a, x, y, e1, e2, e3, e4⟩ := F
        rw [c.2] at e1
        obtain ⟨a2, z1, a3, a4⟩ := tHas_int (hE.2 _ _ e1) k1
        cases z1
        obtain ⟨x2, z2, x3, x4⟩ := tHas_int (hE.2 _ _ e2) k2
        cases z2
        obtain ⟨y2, z3, y3, y4⟩ := tHas_int (hE.2 _ _ e3) k3
        cases z3
        exact sCut_ok (sCut_ok hE e3 (by omega) (by omega)) e2 (by omega) (by omega)
      · exact hE
    · exact sProp_ok hE (fun g hg => hF g (List.mem_cons_of_mem _ hg))
theorem sRef0_ok {op x : Nat} {a : Int32} (ho : op < 6) (hA : gA hb ub ρ ν S lv st h u) (kx : (sGet S.1 x).1 = 0) (ex : ν[x]? = some (.int a)) (hc : cHold op a.toInt 0) : ∃ S', sRef0 S op x = some S' ∧ gA hb ub ρ ν S' lv st h u := by
  obtain ⟨a2, e1, a3, a4⟩ := hA.int ex kx
  cases e1
  have l1 := cLearn_ok ho hc a3 a4 (Int.le_refl 0) (Int.le_refl 0)
  unfold sRef0
  rw [if_neg (by omega)]
  refine ⟨_, rfl, sPrD_ok hA.2.2.2.1 (sProp_ok (hA.1.setInt ex l1) hA.2.2.2.1) hA.2.2.2.1, hA.2.1, hA.2.2.1, fun f hf => ?_, hA.2.2.2.2⟩
  rcases List.mem_append.mp hf with hg | hf
  · split at hg
    · rename_i e1
      obtain ⟨rfl, -⟩ := e1
      simp only [List.mem_cons, List.not_mem_nil, or_false] at hg
      subst hg
      exact ⟨a, ex, hc⟩
    · cases hg
  · exact hA.2.2.2.1 f hf
theorem sB2_ok {op : Nat} {off : Int} {f : Int32 → Int32 → Bool} (ho : op < 6) (hf : ∀ x y, f x y = true ↔ cHold op x.toInt y.toInt) (ha : sB2 pc S op off = some succ) (hA : gA hb ub ρ ν S lv st h u) : sGd hb ub ρ ν h u succ (zb2 pc lv st f off) := by
  unfold sB2 at ha
  split at ha
  · rename_i y x r hs
    split at ha
    · rename_i hc
      obtain ⟨c1, c2, c3⟩ := hc
      cases ha
      have hT0 := hA.2.2.1
      rw [hs] at hT0
      obtain ⟨vy, st1, rfl, ey, hT1⟩ := hT0.inv
      obtain ⟨vx, st2, rfl, ex, hT⟩ := hT1.inv
      obtain ⟨b, rfl, -⟩ := hA.int ey c2
      obtain ⟨a, rfl, -⟩ := hA.int ex c1
      have hA2 : gA hb ub ρ ν (S.1, S.2.1, r, S.2.2.2) lv st2 h u := ⟨hA.1, hA.2.1, hT, hA.2.2.2⟩
      unfold zb2
      dsimp only
      rw [if_pos c3]
      by_cases q : f a b = true
      · rw [if_pos q]
        obtain ⟨S', e1, e2⟩ := sRef_ok ho hA2 c1 c2 ex ey ((hf a b).mp q)
        refine ⟨_, _, _, rfl, ν, S', ?_, nExt.refl ν, e2⟩
        rw [e1]
        exact List.mem_append_left _ List.mem_cons_self
      · rw [if_neg q]
        obtain ⟨S', e1, e2⟩ := sRef_ok (cNeg_lt ho) hA2 c1 c2 ex ey (cNeg_ok ho (fun z => q ((hf a b).mpr z)))
        refine ⟨_, _, _, rfl, ν, S', ?_, nExt.refl ν, e2⟩
        rw [e1]
        exact List.mem_append_right _ List.mem_cons_self
    · cases ha
  · cases ha
theorem sB1_ok {op : Nat} {off : Int} {f : Int32 → Bool} (ho : op < 6) (hf : ∀ x, f x = true ↔ cHold op x.toInt 0) (ha : sB1 pc S op off = some succ) (hA : gA hb ub ρ ν S lv st h u) : sGd hb ub ρ ν h u succ (zb1 pc lv st f off) := by
  unfold sB1 at ha
  split at ha
  · rename_i x r hs
    split at ha
    · rename_i hc
      obtain ⟨c1, c3⟩ := hc
      cases ha
      have hT0 := hA.2.2.1
      rw [hs] at hT0
      obtain ⟨vx, st2, rfl, ex, hT⟩ := hT0.inv
      obtain ⟨a, rfl, -⟩ := hA.int ex c1
      have hA2 : gA hb ub ρ ν (S.1, S.2.1, r, S.2.2.2) lv st2 h u := ⟨hA.1, hA.2.1, hT, hA.2.2.2⟩
      unfold zb1
      dsimp only
      rw [if_pos c3]
      by_cases q : f a = true
      · rw [if_pos q]
        obtain ⟨S', e1, e2⟩ := sRef0_ok (op := op) ho hA2 c1 ex ((hf a).mp q)
        refine ⟨_, _, _, rfl, ν, S', ?_, nExt.refl ν, e2⟩
        rw [e1]
        exact List.mem_append_left _ List.mem_cons_self
      · rw [if_neg q]
        obtain ⟨S', e1, e2⟩ := sRef0_ok (op := cNeg op) (cNeg_lt ho) hA2 c1 ex (cNeg_ok ho (fun z => q ((hf a).mpr z)))
        refine ⟨_, _, _, rfl, ν, S', ?_, nExt.refl ν, e2⟩
        rw [e1]
        exact List.mem_append_right _ List.mem_cons_self
    · cases ha
  · cases ha
theorem sArms_ok {x : Nat} {r : List Nat} {a : Int32} (hA : gA hb ub ρ ν S lv st h u) (ex : ν[x]? = some (.int a)) (hx : tIn (sGet S.1 x) a) {st2 : List Value} (hT : gSt ν r st2) : ∀ (offs : List Int) (n : Int) (o : Int), n ≤ a.toInt → offs[(a.toInt - n).toNat]? = some o → ∃ S', (((pc : Int) + o).toNat, S') ∈ sArms pc S x r n offs ∧ gA hb ub ρ ν S' lv st2 h u
  | [], n, o, _, ho => by simp at ho
  | p :: ps, n, o, hn, ho => by
    unfold sArms
    by_cases e : n = a.toInt
    · rw [if_pos (by omega)]
      rw [show (a.toInt - n).toNat = 0 by omega] at ho
      cases ho
      exact ⟨_, List.mem_cons_self, hA.1.setInt ex ⟨by dsimp only; omega, by dsimp only; omega⟩, hA.2.1, hT, hA.2.2.2⟩
    · rw [show (a.toInt - n).toNat = (a.toInt - (n + 1)).toNat + 1 by omega] at ho
      obtain ⟨S', q1, q2⟩ := sArms_ok hA ex hx hT ps (n + 1) o (by omega) ho
      split
      · exact ⟨S', List.mem_cons_of_mem _ q1, q2⟩
      · exact ⟨S', q1, q2⟩
theorem sSw_ok {d lo hi : Int} {offs : Array Int} (ha : sSw pc S d lo hi offs = some succ) (hA : gA hb ub ρ ν S lv st h u) : sGd hb ub ρ ν h u succ (zsw pc lv st d lo hi offs) := by
  unfold sSw at ha
  split at ha
  · rename_i x r hs
    split at ha
    · rename_i hc
      obtain ⟨c1, c2, c3, c4⟩ := hc
      cases ha
      have hT0 := hA.2.2.1
      rw [hs] at hT0
      obtain ⟨vx, st2, rfl, ex, hT⟩ := hT0.inv
      obtain ⟨a, rfl, a1, a2⟩ := hA.int ex c1
      unfold zsw
      dsimp only
      by_cases q : a.toInt < lo ∨ hi < a.toInt
      · rw [if_pos q]
        unfold zgo
        rw [if_pos c2]
        refine ⟨_, _, _, rfl, ν, (S.1, S.2.1, r, S.2.2.2), ?_, nExt.refl ν, hA.1, hA.2.1, hT, hA.2.2.2⟩
        rw [if_neg (by omega)]
        exact List.mem_append_left _ List.mem_cons_self
      · rw [if_neg q]
        have hlt : (a.toInt - lo).toNat < offs.size := by omega
        rw [Array.getElem?_eq_getElem hlt]
        dsimp only
        have hm : offs[(a.toInt - lo).toNat] ∈ offs.toList := Array.getElem_mem_toList hlt
        have c5 := of_decide_eq_true (List.all_eq_true.mp c3 _ hm)
        unfold zgo
        rw [if_pos c5]
        obtain ⟨S', q1, q2⟩ := sArms_ok (pc := pc) hA ex ⟨a1, a2⟩ hT offs.toList lo offs[(a.toInt - lo).toNat] (by omega) (by rw [Array.getElem?_toList, Array.getElem?_eq_getElem hlt])
        exact ⟨_, _, _, rfl, ν, S', List.mem_append_right _ q1, nExt.refl ν, q2⟩
    · cases ha
  · cases ha
theorem sDup_ok (ha : sDup pc S = some succ) (hA : gA hb ub ρ ν S lv st h u) : sGd hb ub ρ ν h u succ (zdup pc lv st) := by
  unfold sDup at ha
  split at ha
  · rename_i x r hs
    split at ha
    · rename_i hc
      cases ha
      have hT0 := hA.2.2.1
      rw [hs] at hT0
      obtain ⟨vx, st2, rfl, ex, hT⟩ := hT0.inv
      unfold zdup
      dsimp only
      rw [if_pos (tHas_narr (hA.1.2 _ _ ex) hc)]
      exact ⟨_, _, _, rfl, ν, _, List.mem_cons_self, nExt.refl ν, hA.1, hA.2.1, gSt.cons ex (gSt.cons ex hT), hA.2.2.2⟩
    · cases ha
  · cases ha
theorem sPop_ok (ha : sPop pc S = some succ) (hA : gA hb ub ρ ν S lv st h u) : sGd hb ub ρ ν h u succ (zpop pc lv st) := by
  unfold sPop at ha
  split at ha
  · rename_i x r hs
    split at ha
    · rename_i hc
      cases ha
      have hT0 := hA.2.2.1
      rw [hs] at hT0
      obtain ⟨vx, st2, rfl, ex, hT⟩ := hT0.inv
      unfold zpop
      dsimp only
      rw [if_pos (tHas_narr (hA.1.2 _ _ ex) hc)]
      exact ⟨_, _, _, rfl, ν, _, List.mem_cons_self, nExt.refl ν, hA.1, hA.2.1, hT, hA.2.2.2⟩
    · cases ha
  · cases ha
theorem sDupx_ok (ha : sDupx pc S = some succ) (hA : gA hb ub ρ ν S lv st h u) : sGd hb ub ρ ν h u succ (zdupx1 pc lv st) := by
  unfold sDupx at ha
  split at ha
  · rename_i x y r hs
    split at ha
    · rename_i hc
      cases ha
      have hT0 := hA.2.2.1
      rw [hs] at hT0
      obtain ⟨vx, st1, rfl, ex, hT1⟩ := hT0.inv
      obtain ⟨vy, st2, rfl, ey, hT⟩ := hT1.inv
      unfold zdupx1
      dsimp only
      rw [if_pos ⟨tHas_narr (hA.1.2 _ _ ex) hc.1, tHas_narr (hA.1.2 _ _ ey) hc.2⟩]
      exact ⟨_, _, _, rfl, ν, _, List.mem_cons_self, nExt.refl ν, hA.1, hA.2.1, gSt.cons ex (gSt.cons ey (gSt.cons ex hT)), hA.2.2.2⟩
    · cases ha
  · cases ha
theorem sDup2_ok (ha : sDup2 pc S = some succ) (hA : gA hb ub ρ ν S lv st h u) : sGd hb ub ρ ν h u succ (zdup2 pc lv st) := by
  unfold sDup2 at ha
  split at ha
  · rename_i x y r hs
    split at ha
    · rename_i hc
      cases ha
      have hT0 := hA.2.2.1
      rw [hs] at hT0
      obtain ⟨vx, st1, rfl, ex, hT1⟩ := hT0.inv
      obtain ⟨vy, st2, rfl, ey, hT⟩ := hT1.inv
      have q1 := tHas_narr (hA.1.2 _ _ ex) hc.1
      have q2 := tHas_narr (hA.1.2 _ _ ey) hc.2
      unfold zdup2
      dsimp only
      rw [if_neg (by omega), if_pos ⟨q1, q2⟩]
      exact ⟨_, _, _, rfl, ν, _, List.mem_cons_self, nExt.refl ν, hA.1, hA.2.1, gSt.cons ex (gSt.cons ey (gSt.cons ex (gSt.cons ey hT))), hA.2.2.2⟩
    · cases ha
  · cases ha
theorem sPop2_ok (ha : sPop2 pc S = some succ) (hA : gA hb ub ρ ν S lv st h u) : sGd hb ub ρ ν h u succ (zpop2 pc lv st) := by
  unfold sPop2 at ha
  split at ha
  · rename_i x r hs
    split at ha
    · rename_i hc
      cases ha
      have hT0 := hA.2.2.1
      rw [hs] at hT0
      obtain ⟨vx, st1, rfl, ex, hT⟩ := hT0.inv
      unfold zpop2
      dsimp only
      rw [if_pos (tHas_wide (hA.1.2 _ _ ex) hc)]
      exact ⟨_, _, _, rfl, ν, _, List.mem_cons_self, nExt.refl ν, hA.1, hA.2.1, hT, hA.2.2.2⟩
    · cases ha
  · cases ha
theorem cH0 (x y : Int32) : decide (x = y) = true ↔ cHold 0 x.toInt y.toInt := by
  rw [decide_eq_true_iff]
  exact ⟨fun e => by rw [e]; rfl, fun e => Int32.toInt_inj.mp e⟩
theorem cH1 (x y : Int32) : decide (¬ x = y) = true ↔ cHold 1 x.toInt y.toInt := by
  rw [decide_eq_true_iff]
  exact ⟨fun e q => e (Int32.toInt_inj.mp q), fun e q => e (by rw [q])⟩
theorem cH2 (x y : Int32) : decide (x < y) = true ↔ cHold 2 x.toInt y.toInt := by
  rw [decide_eq_true_iff]; exact Int32.lt_iff_toInt_lt
theorem cH3 (x y : Int32) : decide (y ≤ x) = true ↔ cHold 3 x.toInt y.toInt := by
  rw [decide_eq_true_iff]; exact Int32.le_iff_toInt_le
theorem cH4 (x y : Int32) : decide (y < x) = true ↔ cHold 4 x.toInt y.toInt := by
  rw [decide_eq_true_iff]; exact Int32.lt_iff_toInt_lt
theorem cH5 (x y : Int32) : decide (x ≤ y) = true ↔ cHold 5 x.toInt y.toInt := by
  rw [decide_eq_true_iff]; exact Int32.le_iff_toInt_le
end sPok
