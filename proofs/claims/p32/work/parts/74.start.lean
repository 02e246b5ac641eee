/-! ===== the law's start ===== -/
/-! THE CLAIM OUT OF ONE WALK OF THE LAW'S BODY. Your part is whole_start (and what it stands on); all else here is the same for every law, but numbers. -/
def R_law : String := "OnecodeChanceryLaw"
def lw_P (b : Addr) (xs : List Int32) (args : Array Value) (s : State) : Prop := args = #[.ref b] ∧ s.IntsAt b xs ∧ xs.length ≤ 4096 ∧ (Jvm.Cond.and given_1 narrow_1).before args s = true ∧ heapFits s = true
/-- what a walk over the start with the record d0 says of its end, said of the start itself -/
theorem lw_closed {s t : State} {o : Outcome} {d0 : Drawn} {L : List Loc} {k n : Nat} (hd0 : s.drawn.sameBut d0 lw_cs) (hv : ∃ v, o = .returned v) (hW : (s.setDrawn d0).WarmedH t.vm) (hs : (s.setDrawn d0).sameButNew ({ t with vm := s.vm } : State) L k n) : State.butDraws s t lw_cs (fun t1 => Framed s o t1 L k n) := by
  have h2 : t.drawn = d0 := congrArg State.drawn hs.1
  refine ⟨⟨hv, hW, State.sameButNew.setDrawn hs s.drawn⟩, ?_, by decide⟩
  rw [h2]
  exact hd0
def lw_Q (_ : Array Value) (s : State) (o : Outcome) (t : State) : Prop := o = .returned (some (.int 1)) ∧ State.butDraws s t lw_cs (fun t1 => Framed s o t1 [] 601024 7293034)
def lw_Z (below : List Frame) (a : Array Value) (s : State) : State → Prop := fun t => ∃ o, t.status = .running ∧ Ended t below o ∧ lw_Q a s o t
/-- the law's own end, with 1 on the stack, nothing written that was there before, its room as the claim has it; d0: the record of draws at this point (at the entry s.drawn: begin with 'refine W.base ?_' and 'have hd0 := Drawn.sameBut.refl s.drawn lw_cs') -/
theorem lw_ret {p : Program} {l : Launch} {e : Env} {s : State} {m : MethodId} {below : List Frame} {meth : Method} {c : Code} {b : Nat} {d0 : Drawn} (hd0 : s.drawn.sameBut d0 lw_cs) (hx : p.tables.exec = Jvm.exec) (hb : c.code = code) (hr : meth.sig.returnType = ret) (hlocks : meth.locks = false) {pc : Nat} {H : Heap} {ls : Array Slot} (hdg : decode code pc = .ok (.ireturn, 1)) : W p l e room_1 (s.setDrawn d0) m #[Value.ref b] below meth c H [] 601024 7293034 (lw_Z below #[Value.ref b] s) (F0 m pc ls [.int 1]) := by
  intro T hT X
  obtain ⟨fs, hret, hrun, hended, hW, hframe⟩ := X.leave (v := some (.int 1)) (hlocks := hlocks) (fun h => by rw [hr] at h; cases h)
  have hmeth' : T.vm.method? m = some meth := X.method'
  refine ⟨T.setFrames fs, ?_, .returned (some (.int 1)), hrun, hended, rfl, lw_closed hd0 ⟨_, rfl⟩ hW hframe⟩
  jvm_step X.here [X.here.top, hx, hb, hdg, hmeth', hr, ret, narrow_b1]
  (try refine ⟨rfl, ?_⟩); (try refine ⟨rfl, ?_⟩)
  first | (intro acts; rw [hret _ acts rfl rfl rfl]) | rw [hret _ _ rfl rfl rfl]
  exact Steps.refl _
/-- what holds at the law's entry: the machine, the code, the tables' words (any of lw_tbl by 'hts w (by decide +kernel)'), the script of L ints xs at the cell b, what the Statement gives of the start (any of its parts by flat_of_before) -/
def lw_At (p : Program) (s : State) (m : MethodId) (meth : Method) (c : Code) (b L : Nat) (xs : Nat → Int32) : Prop :=
  p.tables.exec = Jvm.exec ∧ c.code = code ∧ meth.sig.returnType = ret ∧ c.maxLocals = 9 ∧ s.vm.findClass R_law = some m.cls ∧ (∀ w ∈ lw_tbl, w.before #[Value.ref b] s = true) ∧ va_X b L xs s s.heap ∧ b < s.heap.size ∧ meth.locks = false ∧ (Jvm.Cond.and given_1 narrow_1).before #[Value.ref b] s = true ∧ meth.name = "law" ∧ c.exceptionTable.toList = [] ∧ heapFits s = true
def zTl (b sa va sf ta tt to mi n : Nat) (i : Nat) : Nat := if i < 16 then [b, sa, va, sf, ta, tt, to, mi].getD i b else n + (i - 16)
theorem zTl_ok {b sa va sf ta tt to mi n : Nat} (h0 : b < n) (h1 : sa < n) (h2 : va < n) (h4 : ta < n) (h5 : tt < n) (h6 : to < n) : zTau n (zTl b sa va sf ta tt to mi n) := by
  have low : ∀ i, i < 16 → zfr i → zTl b sa va sf ta tt to mi n i < n := fun i hi hf => by
    obtain ⟨f3, f7⟩ := hf
    unfold zTl
    rw [if_pos hi]
    rcases (show i = 0 ∨ i = 1 ∨ i = 2 ∨ i = 4 ∨ i = 5 ∨ i = 6 ∨ 8 ≤ i by omega) with rfl | rfl | rfl | rfl | rfl | rfl | h
    · exact h0
    · exact h1
    · exact h2
    · exact h4
    · exact h5
    · exact h6
    · rw [List.getD_eq_getElem?_getD, List.getElem?_eq_none (show [b, sa, va, sf, ta, tt, to, mi].length ≤ i from h)]
      exact h0
  have hig : ∀ i, 16 ≤ i → zTl b sa va sf ta tt to mi n i = n + (i - 16) := fun i hi => by
    unfold zTl
    rw [if_neg (by omega)]
  have hz : zro = 16 := rfl
  refine ⟨fun i hi => ?_, fun i hi hf => low i (by omega) hf, fun i j hi hf hij => ?_⟩
  · rw [hig i (by omega)]
    omega
  · rw [hig i (by omega)] at hij
    rcases Nat.lt_or_ge j 16 with hj | hj
    · have := low j hj hf
      omega
    · rw [hig j hj] at hij
      omega
set_option maxHeartbeats 4000000 in
theorem z_start {p : Program} {e : Env} {s : State} {m : MethodId} {below : List Frame} {meth : Method} {c : Code} (l : Launch) (hflags : l.flags = flags0) {b L : Nat} {xs : Nat → Int32} (hL : L ≤ 4096) (C0 : lw_At p s m meth c b L xs) : W p l e room_1 s m #[Value.ref b] below meth c s.heap [] 0 0 (lw_Z below #[Value.ref b] s) (entryFrame m ([Value.ref b] : List Value).toArray 9) := by
  obtain ⟨hx, hb, hr, hml, hown, hts, hX, hbl, hlocks, hgv, hnm, htb, hft⟩ := id C0
  have hst : l.stackTraces = false := by unfold Launch.stackTraces; rw [hflags]; decide +kernel
  have hfl : ∀ w ∈ zFl, w.before #[Value.ref b] s = true := flat_of_before _ hgv
  have htsT : ∀ w ∈ zT, w.before #[Value.ref b] s = true := fun w hw => hts w (zT_tbl hw)
  have hno : ∀ a : Nat, a < s.heap.size → ¬ zAb s.heap.size a := fun a h1 h2 => by unfold zAb at h2; omega
  obtain ⟨Df, hDf⟩ : ∃ Df : Nat → ClassId × (Nat → Nat), ∀ a (r : vw_C), vwCl[a]? = some r → u_Kn s r.1 r.2.1 r.2.2 (Df a).1 (Df a).2 := by
    have h : ∀ a : Nat, ∃ q : ClassId × (Nat → Nat), ∀ r : vw_C, vwCl[a]? = some r → u_Kn s r.1 r.2.1 r.2.2 q.1 q.2 := by
      intro a
      cases hr : vwCl[a]? with
      | none => exact ⟨(0, fun _ => 0), fun r h => by cases h⟩
      | some r =>
        obtain ⟨n, hn⟩ := zInst a r hr
        obtain ⟨cC, iS, hk⟩ := u_known (C := r.1) (T := r.2.1) (N := r.2.2) (n := n) htsT (zIn a r hr) (htsT _ hn)
        exact ⟨(cC, iS), fun r2 h2 => by cases h2; exact hk⟩
    exact Classical.axiomOfChoice h
  let D : va_G := (fun a => (Df a).1, fun a => (Df a).2)
  have hK : va_K D vwCl [] s := ⟨fun c q hq => hDf c q hq, fun k q h => by simp at h⟩
  have hS : ∀ w ∈ zStl, w.before #[Value.ref b] s = true := fun w hw => hts w (zStl_in w hw)
  have hN : ∀ w ∈ zKnl, w.before #[Value.ref b] s = true := fun w hw => hts w (zKnl_in w hw)
  have fk : ∀ w ∈ zFk, w.before #[Value.ref b] s = true := fun w hw => hfl w (zFk_in w hw)
  have hE : zEnv s.heap.size s s.heap := by
    refine ⟨fun a r hr => va_Nw.of rfl (hts _ (zCasts _ (List.mem_map.mpr ⟨r, List.mem_of_getElem? hr, rfl⟩))), fun w hw hx => ?_, ?_, ?_, fun k => ?_, fun k k' hkk => ?_, fun x hx => ?_⟩
    · have h1 := hts w hw
      cases w <;> first | exact va_Nw.of rfl h1 | exact h1 | (exact absurd hx (by simp [zxw]))
    · exact vx_Zqof (hS _ (List.mem_of_getElem? (show zStl[0]? = some _ from rfl))) (hS _ (List.mem_of_getElem? (show zStl[2]? = some _ from rfl))) (fk _ (List.mem_of_getElem? (show zFk[0]? = some _ from rfl))) hno
    · exact vx_Zqof (hS _ (List.mem_of_getElem? (show zStl[1]? = some _ from rfl))) (hS _ (List.mem_of_getElem? (show zStl[2]? = some _ from rfl))) (fk _ (List.mem_of_getElem? (show zFk[1]? = some _ from rfl))) hno
    · have go : ∀ k, (Cond.exactly (.string zCh (zMi k)) "java/lang/String").before #[Value.ref b] s = true → (Cond.stringRef zCh (zMi k) (zMt k)).before #[Value.ref b] s = true → ∃ sa, vk_R zCh (zMi k) (zMt k) sa s := fun k h0 h1 => by
        obtain ⟨a, _, _, _, q1, -⟩ := Cond.exactly_spec (args := #[Value.ref b]) (first := s) (o := none) (s := s) (idx := []) h0
        exact ⟨a, vk_R.of h1 q1⟩
      match k with
      | 0 => exact go 0 (fk _ (List.mem_of_getElem? (show zFk[2]? = some _ from rfl))) (hS _ (List.mem_of_getElem? (show zStl[3]? = some _ from rfl)))
      | 1 => exact go 1 (fk _ (List.mem_of_getElem? (show zFk[3]? = some _ from rfl))) (hS _ (List.mem_of_getElem? (show zStl[4]? = some _ from rfl)))
      | n + 2 => exact go 2 (fk _ (List.mem_of_getElem? (show zFk[4]? = some _ from rfl))) (hS _ (List.mem_of_getElem? (show zStl[5]? = some _ from rfl)))
    · have red : ∀ k, ∃ n, n < 3 ∧ zEx k = zEx n := fun k => by
        match k with
        | 0 => exact ⟨0, by decide, rfl⟩
        | 1 => exact ⟨1, by decide, rfl⟩
        | n + 2 => exact ⟨2, by decide, rfl⟩
      obtain ⟨n, hn, en⟩ := red k
      obtain ⟨n', hn', en'⟩ := red k'
      rw [en, en'] at hkk ⊢
      have ne : n ≠ n' := fun q => hkk (by rw [q])
      refine va_Nc.of (hfl _ (zFn_in _ ?_))
      unfold zFn
      refine List.mem_map.mpr ⟨(n, n'), ?_, rfl⟩
      show (n, n') ∈ [(0, 1), (0, 2), (1, 0), (1, 2), (2, 0), (2, 1)]
      rcases (show n = 0 ∨ n = 1 ∨ n = 2 by omega) with rfl | rfl | rfl <;> rcases (show n' = 0 ∨ n' = 1 ∨ n' = 2 by omega) with rfl | rfl | rfl <;> first | exact absurd rfl ne | simp
    · have hw : ∀ w ∈ [Cond.declares (zLi x.1 x.2), .interfaceMethod "java/util/List" "java/util/List" x.1 x.2, .publicMethod (zAr x.1 x.2), .unhidden "java/util/ArrayList" x.1 x.2, .castable "java/util/ArrayList" "java/util/List"], w.before #[Value.ref b] s = true := fun w hw => hts w (zFwl_in w (List.mem_flatMap.mpr ⟨x, hx, hw⟩))
      exact va_Fw.of (A := #[Value.ref b]) (hw _ (by simp)) (hw _ (by simp [zLi])) (hw _ (by simp)) (hw _ (by simp [zLi])) (hw _ (by simp [zLi]))
  obtain ⟨sa, va, ex, ez, cellE, hez, hRE, hTE, hcE, hclE, hvmE, hs0, hs1, hs2, hs3⟩ := z_empty hft htsT hfl (hDf 0 _ rfl) (hN _ (List.mem_of_getElem? (show zKnl[9]? = some _ from rfl)))
  have hsa : sa < s.heap.size := (Array.getElem?_eq_some_iff.mp hcE).1
  obtain ⟨ta, hta, hTa⟩ := va_Tof (N := 0) (f := fun _ => .null) (A := fun q => s.heap.size ≤ q) (by decide) (fk _ (List.mem_of_getElem? (show zFk[7]? = some _ from rfl))) (va_eqt (fk _ (List.mem_of_getElem? (show zFk[8]? = some _ from rfl)))) (fun j hj => absurd hj (Nat.not_lt_zero j)) hno
  obtain ⟨tt, htt, hTt⟩ := va_Tof (N := 100) (f := fun j => .int (Int32.ofNat (48 + j / 10))) (A := fun q => s.heap.size ≤ q) (by decide) (fk _ (List.mem_of_getElem? (show zFk[9]? = some _ from rfl))) (va_eqt (fk _ (List.mem_of_getElem? (show zFk[10]? = some _ from rfl)))) (fun j hj => va_eqt (hfl _ (zFt_in j hj))) hno
  obtain ⟨to, hto, hTo⟩ := va_Tof (N := 100) (f := fun j => .int (Int32.ofNat (48 + j % 10))) (A := fun q => s.heap.size ≤ q) (by decide) (fk _ (List.mem_of_getElem? (show zFk[11]? = some _ from rfl))) (va_eqt (fk _ (List.mem_of_getElem? (show zFk[12]? = some _ from rfl)))) (fun j hj => va_eqt (hfl _ (zFo_in j hj))) hno
  obtain ⟨mi, hmi⟩ := va_Mi.of (fk (Cond.isRef (.mirror "[Ljava/lang/Object;")) (List.mem_of_getElem? (show zFk[13]? = some _ from rfl)))
  obtain ⟨sf, vf, hvf, hZf⟩ : ∃ (sf : Nat) (vf : Value), (vf = .null ∨ vf = .ref sf) ∧ va_Z "jdk/internal/util/Preconditions" "SIOOBE_FORMATTER" "Ljava/util/function/BiFunction;" vf (fun q => s.heap.size ≤ q) s s.heap := by
    rcases z_isRef (fk (Cond.isRef (.static "jdk/internal/util/Preconditions" "SIOOBE_FORMATTER" "Ljava/util/function/BiFunction;")) (List.mem_of_getElem? (show zFk[6]? = some _ from rfl))) with h | ⟨q, h⟩
    · exact ⟨0, .null, Or.inl rfl, va_Zof (hN _ (List.mem_of_getElem? (show zKnl[2]? = some _ from rfl))) (hN _ (List.mem_of_getElem? (show zKnl[3]? = some _ from rfl))) h hno⟩
    · exact ⟨q, .ref q, Or.inr rfl, va_Zof (hN _ (List.mem_of_getElem? (show zKnl[2]? = some _ from rfl))) (hN _ (List.mem_of_getElem? (show zKnl[3]? = some _ from rfl))) h hno⟩
  have hτ := zTl_ok (sf := sf) (mi := mi) hbl hsa (z_lt hTE) (z_lt hTa) (z_lt hTt) (z_lt hTo)
  have t0 : zTl b sa va sf ta tt to mi s.heap.size 0 = b := rfl
  have t1 : zTl b sa va sf ta tt to mi s.heap.size 1 = sa := rfl
  have t2 : zTl b sa va sf ta tt to mi s.heap.size 2 = va := rfl
  have t3 : zTl b sa va sf ta tt to mi s.heap.size 3 = sf := rfl
  have t4 : zTl b sa va sf ta tt to mi s.heap.size 4 = ta := rfl
  have t5 : zTl b sa va sf ta tt to mi s.heap.size 5 = tt := rfl
  have t6 : zTl b sa va sf ta tt to mi s.heap.size 6 = to := rfl
  have t7 : zTl b sa va sf ta tt to mi s.heap.size 7 = mi := rfl
  have t16 : zTl b sa va sf ta tt to mi s.heap.size zro = s.heap.size := rfl
  generalize zTl b sa va sf ta tt to mi s.heap.size = τ at hτ t0 t1 t2 t3 t4 t5 t6 t7 t16
  have hSt : zSta s.heap.size τ s s.heap := by
    refine ⟨va_Zof (hN _ (List.mem_of_getElem? (show zKnl[0]? = some _ from rfl))) (hN _ (List.mem_of_getElem? (show zKnl[1]? = some _ from rfl))) (va_eqt (fk _ (List.mem_of_getElem? (show zFk[5]? = some _ from rfl)))) hno, ⟨vf, by rw [t3]; exact hvf, hZf⟩, ?_, ?_, ?_, by rw [t7]; exact hmi, by rw [t1]; exact hRE⟩
    · rw [t4]
      exact va_Zof (hN _ (List.mem_of_getElem? (show zKnl[4]? = some _ from rfl))) (hN _ (List.mem_of_getElem? (show zKnl[5]? = some _ from rfl))) hta hno
    · rw [t5]
      exact va_Zof (hN _ (List.mem_of_getElem? (show zKnl[6]? = some _ from rfl))) (hN _ (List.mem_of_getElem? (show zKnl[8]? = some _ from rfl))) htt hno
    · rw [t6]
      exact va_Zof (hN _ (List.mem_of_getElem? (show zKnl[7]? = some _ from rfl))) (hN _ (List.mem_of_getElem? (show zKnl[8]? = some _ from rfl))) hto hno
  let row : List Value := (List.range L).map (fun k => Value.int (xs k))
  have hrl : row.length = L := by simp [row]
  have hrv : ∀ (k : Nat) (v : Value), row[k]? = some v → ∃ x : Int32, v = .int x := fun k v hv => by
    obtain ⟨j, -, hj⟩ := List.mem_map.mp (List.mem_of_getElem? hv)
    exact ⟨_, hj.symm⟩
  have hlen : (hF (96, row) (zEmp ex ez) h00).length = 16 := by rw [hF_len]; rfl
  have z16 : zro = 16 := rfl
  have zc : zCM = 600000 := rfl
  have zs : zSN = 7290000 := rfl
  have opq : ∀ (i : Nat) (ci : zC), i = 3 ∨ 7 ≤ i → (hF (96, row) (zEmp ex ez) h00)[i]? = some ci → ci.1 = 97 := fun i ci hi hc => by
    rw [hF_get (by omega)] at hc
    rcases hi with rfl | hi
    · cases (show some ((97, []) : zC) = some ci from hc)
      rfl
    · have h9 : ∀ i, i < 16 → 7 ≤ i → (h00.getD i (97, [])).1 = 97 := by decide +kernel
      have hlt := (List.getElem?_eq_some_iff.mp hc).1
      have h16 : h00.length = 16 := rfl
      have h8 := h9 i (by omega) hi
      rw [List.getD_eq_getElem?_getD, hc] at h8
      exact h8
  have hI : zInv D s.heap.size τ s (hF (96, row) (zEmp ex ez) h00) 0 s.heap := by
    refine ⟨fun i ci hi => ?_, by rw [hlen]; omega, by rw [hlen]; omega, ?_, by rw [hlen]; omega, by omega, fun i ci hi hf => opq i ci (by unfold zfr at hf; omega) hi⟩
    · rcases (show i = 0 ∨ i = 1 ∨ i = 2 ∨ i = 4 ∨ i = 5 ∨ i = 6 ∨ (i = 3 ∨ 7 ≤ i) by omega) with rfl | rfl | rfl | rfl | rfl | rfl | h
      · cases (show some ((96, row) : zC) = some ci from hi)
        rw [t0]
        unfold zAt
        rw [if_neg (by show ¬ (96 : Nat) < 90; omega), if_pos (by show (96 : Nat) < 97; omega)]
        intro _
        obtain ⟨scr, q1, q2, q3, q4, q5⟩ := hX
        refine ⟨scr, q1, q2, q3, ⟨by show row.length ≤ _; omega, by show _ = Int32.ofNat row.length; rw [hrl, q4]⟩, fun j hj => ?_⟩
        have hj2 : j < L := by
          have : j < row.length := hj
          omega
        rw [q5 j hj2]
        show _ = some (zt τ (row.getD j .null))
        rw [List.getD_eq_getElem?_getD, List.getElem?_map, List.getElem?_range hj2]
        rfl
      · cases (show some (zEmp ex ez) = some ci from hi)
        rw [t1]
        unfold zAt
        rw [if_pos (show (zEmp ex ez).1 < 90 from (by decide : (0 : Nat) < 90))]
        refine ⟨⟨_, cellE, rfl, hcE, hclE, ⟨hvmE.1, hvmE.2, fun h => by rw [t16] at h; omega⟩, fun j hj => ?_⟩, fun r hr => by cases hr; rfl⟩
        match j, hj with
        | 0, _ =>
          refine hs0.trans ?_
          show some (Value.ref va) = some (Value.ref (τ 2))
          rw [t2]
        | 1, _ => exact hs1
        | 2, _ => exact hs2
        | 3, _ => exact hs3
        | n + 4, hj => exact absurd hj (by show ¬ (n + 4 < 4); omega)
      · cases (show some ((95, []) : zC) = some ci from hi)
        rw [t2]
        unfold zAt
        rw [if_neg (by decide), if_pos (by decide)]
        exact fun _ => z_rd hTE rfl (fun j hj => absurd hj (Nat.not_lt_zero j))
      · cases (show some ((94, []) : zC) = some ci from hi)
        rw [t4]
        unfold zAt
        rw [if_neg (by decide), if_pos (by decide)]
        exact fun _ => z_rd hTa rfl (fun j hj => absurd hj (Nat.not_lt_zero j))
      · cases (show some ((95, (List.range 100).map (fun i => Value.int (Int32.ofNat (48 + i / 10)))) : zC) = some ci from hi)
        rw [t5]
        unfold zAt
        rw [if_neg (by decide), if_pos (by decide)]
        refine fun _ => z_rd hTt (by rw [List.length_map, List.length_range]) (fun j hj => ?_)
        rw [List.getD_eq_getElem?_getD, List.getElem?_map, List.getElem?_range hj]
        rfl
      · cases (show some ((95, (List.range 100).map (fun i => Value.int (Int32.ofNat (48 + i % 10)))) : zC) = some ci from hi)
        rw [t6]
        unfold zAt
        rw [if_neg (by decide), if_pos (by decide)]
        refine fun _ => z_rd hTo (by rw [List.length_map, List.length_range]) (fun j hj => ?_)
        rw [List.getD_eq_getElem?_getD, List.getElem?_map, List.getElem?_range hj]
        rfl
      · exact zAt.free (opq i ci h hi)
    · unfold zsum
      rw [List.drop_eq_nil_of_le (by simp)]
      rfl
  obtain ⟨f, hz⟩ := l_all hez hrv (by omega)
  have hl := lv_entry ([.ref b]) (n := 9) (Nat.le_of_ble_eq_true rfl)
  rw [lg_entry_eq]
  generalize (lg_sl ([.ref b]) ++ List.replicate (9 - (lg_sl ([.ref b])).length) Slot.unset).toArray = ls at hl ⊢
  have hl : lv_has ls 9 (zlm τ [(0, .ref 0)]) := by
    have e : zlm τ [(0, .ref 0)] = [(0, .ref b)] := by
      show [(0, Value.ref (τ 0))] = _
      rw [t0]
    rw [e]
    exact hl
  have hF0 : zFx zi p room_1 s m #[Value.ref b] meth c D s.heap.size τ 0 243 57 := ⟨hx, hb, hml, hown, htsT, hnm, by rw [htb]; rfl, hK, hE, hτ, Nat.le_refl _, by show _ ≤ 601024 + _ + _; omega, by show zSN ≤ 7293034 + 0; omega, by show zFr 57 ≤ 2048; decide, by show zLo 57 ≤ 84000; decide, hI.2.2.2.1, hSt⟩
  refine z_sim (zVal_ok l hst) f 57 243 0 [(0, .ref 0)] [] _ 0 lKK hz p e room_1 s m _ below meth c s.heap [] 0 0 _ ls D s.heap.size τ 0 hF0 hI va_S.rf (by omega) (by omega) hl ?_ ?_ ?_
  · intro pc i a b9 st v h u H locs cells slots ls hrow hrt hKv hI9 hS9 hc1 hc2
    have hv : some v = some (some (.int 1)) := by
      have h3 : (Sum.inl v : zRes) = .inl (some (.int 1)) := hKv
      cases h3
      rfl
    cases hv
    obtain ⟨⟨n, hdg, hn⟩, -⟩ := (zVal_ok l hst).1 _ _ _ _ _ hrow
    unfold zRt at hrt
    split at hrt
    · split at hrt
      · split at hrt
        · cases hrt
          have hn1 : n = 1 := by
            rcases hn with z | z
            · exact absurd z (by simp [zLen])
            · exact z
          subst hn1
          refine va_forget (fun q hq => hS9.2.2 q hq) ?_
          have e3 : H.size + zro = s.heap.size + h.length := hI9.2.2.1
          have e5 : h.length ≤ zCM := hI9.2.2.2.2.1
          have e6 : u ≤ zSN := hI9.2.2.2.2.2.1
          refine W.widen (k := 601024) (n := 7293034) (by omega) (by omega) ?_
          exact lw_ret (Drawn.sameBut.refl s.drawn lw_cs) hx hb hr hlocks hdg
        · cases hrt
      · cases hrt
    · split at hrt <;> cases hrt
    · split at hrt <;> cases hrt
    · split at hrt <;> cases hrt
    · split at hrt <;> cases hrt
    · cases hrt
  · intro pc E h u H locs cells slots ls rest q ce _ hKv
    exact absurd hKv (fun z => nomatch z)
  · intro pc i a b9 st h u H locs cells slots ls hrow hkd hst9 hL hU hKv
    exact absurd (hKv 0 0 (by omega) (by omega)) (fun z => nomatch z)
