/-! ===== the small machine: what stands around a run; contracts; what is behind a call ===== -/
theorem va_Nw.warmO {ty : FieldType} {s U : State} (hW : s.WarmedH U.vm) (h : va_Nw (.arrayOver ty) s) : va_Nw (.arrayOver ty) U := by
  have e := Cond.arrayOver_setVmC (args := #[]) (s := s) (vm' := U.vm) hW.alike ty
  have h1 : (Cond.arrayOver ty).before #[] (s.setVm U.vm) = true := by rw [e]; exact h
  exact h1
theorem va_Nw.warmP {x : MethodName} {s U : State} (hW : s.WarmedH U.vm) (hZ : va_Nw (.publicMethod x) s) : va_Nw (.publicMethod x) U := va_tabs rfl (rfl : (s.setVm U.vm).vm = U.vm) (by rw [Cond.publicMethod_setVm hW.alike]; exact hZ)
theorem va_Nw.warmR {x : MethodName} {s U : State} (hW : s.WarmedH U.vm) (hZ : va_Nw (.privateMethod x) s) : va_Nw (.privateMethod x) U := va_tabs rfl (rfl : (s.setVm U.vm).vm = U.vm) (by rw [Cond.privateMethod_setVm hW.alike]; exact hZ)
theorem va_Nw.warmH {a b d : String} {s U : State} (hW : s.WarmedH U.vm) (hZ : va_Nw (.unhidden a b d) s) : va_Nw (.unhidden a b d) U := va_tabs rfl (rfl : (s.setVm U.vm).vm = U.vm) (by rw [Cond.unhidden_setVm hW.alike]; exact hZ)
def zNws (U : State) : Prop := ∀ w, w ∈ lw_tbl → zxw w = true → va_Nw w U
theorem zNws.moved {s U : State} (hW : s.WarmedH U.vm) (h : zNws s) : zNws U := by
  intro w hw hx
  have h1 := h w hw hx
  cases w <;> first | exact va_Nw.warmF hW h1 | exact va_Nw.warmM hW h1 | exact va_Nw.warmC hW h1 | exact va_Nw.warmO hW h1 | exact va_Nw.warmD hW h1 | exact va_Nw.warmP hW h1 | exact va_Nw.warmR hW h1 | exact va_Nw.warmH hW h1 | (exact absurd hx (by simp [zxw]))
theorem zObjs.moved {s U : State} (hW : s.WarmedH U.vm) (h : zObjs s) : zObjs U := fun a r hr => va_Nw.warmC hW (h a r hr)
def zMi : Nat → Nat
  | 0 => 408
  | 1 => 415
  | _ => 420
def zMt : Nat → String
  | 0 => "there is no such number"
  | 1 => "the value is out of its range"
  | _ => "it is too late, or there are too many"
abbrev zAb (base : Nat) : Nat → Prop := fun q => base ≤ q
/-- what the whole run has around it: the two statics that a throw reads, the messages, the exceptions' classes, the lists' face -/
def zEnv (base : Nat) (U : State) (H : Heap) : Prop :=
  zObjs U ∧ zNws U ∧ vx_Zq Bundle.tN "UNASSIGNED_STACK" Bundle.steD (zAb base) U H ∧ vx_Zq Bundle.tN "SUPPRESSED_SENTINEL" Bundle.listD (zAb base) U H ∧
  (∀ k, ∃ sa, vk_R zCh (zMi k) (zMt k) sa U) ∧ (∀ k k', zEx k ≠ zEx k' → va_Nc (zEx k) (zEx k') U) ∧ (∀ x ∈ zIm, va_Fw "java/util/ArrayList" (zLi x.1 x.2) (zAr x.1 x.2) U)
theorem zEnv.moved {base : Nat} {s U : State} {H : Heap} (hW : s.WarmedH U.vm) (h : zEnv base s H) : zEnv base U H := by
  obtain ⟨h1, h2, h3, h4, h5, h6, h7⟩ := h
  exact ⟨h1.moved hW, h2.moved hW, h3.moved hW.alike, h4.moved hW.alike, fun k => by obtain ⟨sa, q⟩ := h5 k; exact ⟨sa, q.warm hW⟩, fun k k' q => (h6 k k' q).moved hW.alike, fun x hx => (h7 x hx).moved ⟨by simp [zLi], by simp [zLi]⟩ hW.alike⟩
theorem zEnv.kept {base : Nat} {s : State} {H H1 : Heap} (h : zEnv base s H) (hq : ∀ a : Nat, a < H.size → ¬ zAb base a → H1[a]? = H[a]?) : zEnv base s H1 := by
  obtain ⟨h1, h2, h3, h4, h5, h6, h7⟩ := h
  exact ⟨h1, h2, h3.kept hq, h4.kept hq, h5, h6, h7⟩
def zRunN (n : Nat) (p : Program) (l : Launch) (e : Env) (R : Room) (s : State) (m : MethodId) (args : Array Value) (below : List Frame) (meth : Method) (c : Code) (H : Heap) (locs : List Loc) (cells slots mc ms : Nat) (g : JFrame) (rest : List Value) (Qa : State → Outcome → State → Prop) (XC : String → State → State → Prop) (free : Addr → Prop) : Prop :=
  ∀ T : State, T.heap = H → Stand p l e R s m args below meth c T locs cells slots →
    (∃ (v : Option Value) (st₀ t T' : State) (L : List Loc), st₀.heap = H ∧ Stand p l e R s m args below meth c T' (locs ++ L) (cells + mc) (slots + ms) ∧ (∀ q ∈ L, free q.base) ∧ T'.heap = t.heap ∧ T'.vm = t.vm ∧ Qa st₀ (.returned v) t ∧
      Goes p e below T g T' { g with pc := g.pc + n, stack := v.toList ++ rest }) ∨
    (∃ (q : Addr) (st₀ t T' : State) (L : List Loc) (E : String) (ce : Cell), st₀.heap = H ∧ Stand p l e R s m args below meth c T' (locs ++ L) (cells + mc) (slots + ms) ∧ (∀ z ∈ L, free z.base) ∧ T'.heap = t.heap ∧ T'.vm = t.vm ∧ XC E st₀ t ∧ t.heap[q]? = some ce ∧ ce.vm = .none ∧ s.vm.findClass E = some ce.cls ∧
      Steps p.tables e below (T.setTop g) ((T'.setTop { g with stack := rest }).pushFrame (.throwing q)))
theorem z_tight {p : Program} {l : Launch} {e : Env} {R : Room} {s : State} {m : MethodId} {args : Array Value} {below : List Frame} {meth : Method} {c : Code} {T : State} {locs : List Loc} {cells slots k n : Nat} (X : Stand p l e R s m args below meth c T locs cells slots)
    (h1 : T.heap.size ≤ s.heap.size + k) (h2 : ((T.heap.toList.drop s.heap.size).map (fun c => c.slots.size)).sum ≤ n) : Stand p l e R s m args below meth c T locs k n :=
  { X with same := ⟨X.same.1, X.same.2.1, h1, X.same.2.2.2.1, h2, X.same.2.2.2.2.2⟩ }
def zPc (D : va_G) (base : Nat) (τ : Nat → Nat) (h : List zC) (u : Nat) (As : List Value) : Array Value → State → Prop := fun v U => v = (As.map (zt τ)).toArray ∧ zInv D base τ U h u U.heap ∧ va_K D vwCl [] U ∧ zEnv base U U.heap ∧ zSta base τ U U.heap
def zQc (D : va_G) (base : Nat) (τ : Nat → Nat) (K : zK) : Array Value → State → Outcome → State → Prop := fun _ st oc t => ∃ (v : Option Value) (h' : List zC) (u' : Nat), oc = .returned (v.map (zt τ)) ∧ K (.inl v) h' u' ∧ zInv D base τ t h' u' t.heap ∧ va_F (zAb base) st t
def zXc (D : va_G) (base : Nat) (τ : Nat → Nat) (K : zK) : String → State → State → Prop := fun E st t => ∃ (k : Nat) (h' : List zC) (u' : Nat), zEx k = E ∧ K (.inr k) h' u' ∧ zInv D base τ t h' u' t.heap ∧ va_F (zAb base) st t
theorem zPc_blind {D : va_G} {base : Nat} {τ : Nat → Nat} {h : List zC} {u : Nat} {As : List Value} : FrameBlind (zPc D base τ h u As) := fun a U g mk q => by
  obtain ⟨q1, q2, q3, q4, q5⟩ := q
  exact ⟨q1, zInv.moved (s := U) (U := U.calling g mk a) (Vm.Alike.refl U.vm) q2, va_K.moved (u := U) (U := U.calling g mk a) (Vm.Alike.refl U.vm) q3, zEnv.moved (s := U) (U := U.calling g mk a) (State.WarmedH.refl U) q4, zSta.moved (s := U) (U := U.calling g mk a) (State.WarmedH.refl U) q5⟩
section zAft
variable {p : Program} {l : Launch} {e : Env} {R : Room} {s : State} {m : MethodId} {args : Array Value} {below : List Frame} {meth : Method} {c : Code} {H : Heap} {locs : List Loc} {cells slots : Nat} {Q : State → Prop}
variable {D : va_G} {base : Nat} {τ : Nat → Nat} {pc n mc ms u0 : Nat} {st0 rest : List Value} {ls : Array Slot} {K : zK} {a : Array Value}
theorem z_after (hr : zRunN n p l e R s m args below meth c H locs cells slots mc ms (F0 m pc ls st0) rest (zQc D base τ K a) (zXc D base τ K) (zAb base)) (hS : va_S (zAb base) s.heap H locs) (hb : base ≤ s.heap.size) (hu0 : zsum base s.heap = u0)
    (kk : ∀ (v : Option Value) (h' : List zC) (u' : Nat) (H1 : Heap) (locs1 : List Loc) (cells1 slots1 : Nat), K (.inl v) h' u' → zInv D base τ s h' u' H1 → va_S (zAb base) s.heap H1 locs1 → cells1 + s.heap.size = H1.size → slots1 + u0 = u' → W p l e R s m args below meth c H1 locs1 cells1 slots1 Q (F0 m (pc + n) ls ((v.map (zt τ)).toList ++ rest)))
    (kx : ∀ (k : Nat) (h' : List zC) (u' : Nat) (H1 : Heap) (locs1 : List Loc) (cells1 slots1 : Nat) (q : Addr) (ce : Cell), K (.inr k) h' u' → zInv D base τ s h' u' H1 → va_S (zAb base) s.heap H1 locs1 → cells1 + s.heap.size = H1.size → slots1 + u0 = u' → H1[q]? = some ce → ce.vm = .none → s.vm.findClass (zEx k) = some ce.cls → vx_W p l e R s m args below meth c H1 locs1 cells1 slots1 Q (F0 m pc ls rest) q) :
    W p l e R s m args below meth c H locs cells slots Q (F0 m pc ls st0) := by
  intro T hT X
  rcases hr T hT X with ⟨v, st₀, t, T', L, h0, X', hL, e1, e2, ⟨v1, h', u', hv, hKv, hI, hF⟩, st⟩ | ⟨q, st₀, t, T', L, E, ce, h0, X', hL, e1, e2, ⟨k, h', u', hE, hKv, hI, hF⟩, hce, hcv, hcl, st⟩
  · cases hv
    obtain ⟨k1, k2, k3⟩ := vx_keep h0 e1 hS (A1 := zAb base) (fun _ _ q => q) (fun _ q => q) hL hF
    have hal : t.vm.Alike s.vm := by rw [← e2]; exact X'.warmed.alike.symm
    have hI' : zInv D base τ s h' u' T'.heap := by rw [e1]; exact hI.moved hal
    have hz := X'.same.2.1
    have hz1 : s.heap.size ≤ T'.heap.size := hz
    have hsp := zsum_split (b := base) hb X'.same
    have hsp1 : zsum base T'.heap = zsum base s.heap + ((T'.heap.toList.drop s.heap.size).map (fun c => c.slots.size)).sum := hsp
    rw [hI'.2.2.2.1, hu0] at hsp1
    have X2 := z_tight X' (k := T'.heap.size - s.heap.size) (n := u' - u0) (by omega) (by omega)
    obtain ⟨t2, a1, b1⟩ := kk v1 h' u' T'.heap (locs ++ L) (T'.heap.size - s.heap.size) (u' - u0) hKv hI' k3 (by omega) (by omega) T' rfl X2
    exact ⟨t2, st t2 a1, b1⟩
  · subst hE
    obtain ⟨k1, k2, k3⟩ := vx_keep h0 e1 hS (A1 := zAb base) (fun _ _ q => q) (fun _ q => q) hL hF
    have hal : t.vm.Alike s.vm := by rw [← e2]; exact X'.warmed.alike.symm
    have hI' : zInv D base τ s h' u' T'.heap := by rw [e1]; exact hI.moved hal
    have hz := X'.same.2.1
    have hz1 : s.heap.size ≤ T'.heap.size := hz
    have hsp := zsum_split (b := base) hb X'.same
    have hsp1 : zsum base T'.heap = zsum base s.heap + ((T'.heap.toList.drop s.heap.size).map (fun c => c.slots.size)).sum := hsp
    rw [hI'.2.2.2.1, hu0] at hsp1
    have X2 := z_tight X' (k := T'.heap.size - s.heap.size) (n := u' - u0) (by omega) (by omega)
    obtain ⟨t2, a1, b1⟩ := kx k h' u' T'.heap (locs ++ L) (T'.heap.size - s.heap.size) (u' - u0) q ce hKv hI' k3 (by omega) (by omega) (by rw [e1]; exact hce) hcv hcl T' rfl X2
    exact ⟨t2, st.trans a1, b1⟩
end zAft
