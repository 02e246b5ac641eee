/-! ===== the rows read once, in their order; the words of a class once ===== -/
def zb0 (l : List UInt8) (c : Nat) : Bool := match l with
  | b :: _ => b.toNat == c
  | _ => false
def zbu1 (l : List UInt8) (c k : Nat) : Bool := match l with
  | b :: x :: _ => b.toNat == c && x.toNat == k
  | _ => false
def zbu2 (l : List UInt8) (c k : Nat) : Bool := match l with
  | b :: x :: y :: _ => b.toNat == c && x.toNat * 256 + y.toNat == k
  | _ => false
def zbs1 (l : List UInt8) (c : Nat) (v : Int) : Bool := match l with
  | b :: x :: _ => b.toNat == c && decide (Reader.signed 8 x.toNat = v)
  | _ => false
def zbs2 (l : List UInt8) (c : Nat) (v : Int) : Bool := match l with
  | b :: x :: y :: _ => b.toNat == c && decide (Reader.signed 16 (x.toNat * 256 + y.toNat) = v)
  | _ => false
def zbi (l : List UInt8) (c k : Nat) (v : Int) : Bool := match l with
  | b :: x :: y :: _ => b.toNat == c && (x.toNat == k && decide (Reader.signed 8 y.toNat = v))
  | _ => false
def zCd : Jvm.ClassFile.Cond → Nat
  | .eq => 0
  | .ne => 1
  | .lt => 2
  | .ge => 3
  | .gt => 4
  | .le => 5
def zCe : Jvm.ClassFile.ACond → Nat
  | .eq => 0
  | .ne => 1
section zFs
variable {code : ByteArray} {pc : Nat}
theorem zAt_t {p : Nat} {b : UInt8} {r : List UInt8} (h : code.data.toList.drop p = b :: r) : code.data.toList.drop (p + 1) = r := by
  rw [← List.tail_drop, h]
  rfl
theorem zu1v {p : Nat} {b : UInt8} {r : List UInt8} (h : code.data.toList.drop p = b :: r) : (Reader.u1 : Decoder Nat) code p = .ok (b.toNat, p + 1) := by
  have hp : p < code.data.toList.length := by
    apply Nat.lt_of_not_le
    intro q
    rw [List.drop_eq_nil_of_le q] at h
    cases h
  have hs : p < code.size := hp
  have e : (Reader.u1 : Decoder Nat) code p = (if h : p < code.size then (do set (p + 1); Pure.pure code[p].toNat) else throw (HasTruncated.truncated p) : Decoder Nat) code p := rfl
  rw [e, dif_pos hs]
  have hb : code[p] = b := by
    have q := List.drop_eq_getElem_cons hp
    rw [h] at q
    have q2 : code.data.toList[p] = b := (List.cons.inj q).1.symm
    rw [← q2]
    rfl
  show Except.ok (code[p].toNat, p + 1) = _
  rw [hb]
theorem zrd {α β : Type} {m : Decoder β} (F : β → Decoder α) {p q : Nat} {v : β} (h : m code p = .ok (v, q)) : (m >>= F) code p = F v code q := by
  have e : (m >>= F) code p = (m code p).bind (fun x => F x.1 code x.2) := rfl
  rw [e, h]
  rfl
theorem zu2v {p : Nat} {a b : UInt8} {r : List UInt8} (h : code.data.toList.drop p = a :: b :: r) : (Reader.u2 : Decoder Nat) code p = .ok (a.toNat * 256 + b.toNat, p + 2) :=
  (zrd (fun hi => Reader.u1 >>= fun lo => Pure.pure (hi * 256 + lo)) (zu1v h)).trans ((zrd (fun lo => Pure.pure (a.toNat * 256 + lo)) (zu1v (zAt_t h))).trans rfl)
theorem zs1v {p : Nat} {b : UInt8} {r : List UInt8} (h : code.data.toList.drop p = b :: r) : (Reader.s1 : Decoder Int) code p = .ok (Reader.signed 8 b.toNat, p + 1) := by
  have e : (Reader.s1 : Decoder Int) code p = ((Reader.u1 : Decoder Nat) code p).bind (fun x => .ok (Reader.signed 8 x.1, x.2)) := rfl
  rw [e, zu1v h]
  rfl
theorem zs2v {p : Nat} {a b : UInt8} {r : List UInt8} (h : code.data.toList.drop p = a :: b :: r) : (Reader.s2 : Decoder Int) code p = .ok (Reader.signed 16 (a.toNat * 256 + b.toNat), p + 2) := by
  have e : (Reader.s2 : Decoder Int) code p = ((Reader.u2 : Decoder Nat) code p).bind (fun x => .ok (Reader.signed 16 x.1, x.2)) := rfl
  rw [e, zu2v h]
  rfl
/-- what the decoder does behind the first byte -/
def zGx (pc : Nat) : { F : Nat → Decoder Instr // Decoder.instr pc = (Reader.u1 >>= F) } := ⟨_, rfl⟩
theorem zdec1 {i : Instr} {q : Nat} (h : (Decoder.instr pc) code pc = .ok (i, q)) : decode code pc = .ok (i, q - pc) := by
  have e : decode code pc = ((Decoder.instr pc) code pc).bind (fun x => .ok (x.1, x.2 - pc)) := rfl
  rw [e, h]
  rfl
theorem zb0_ok {i : Instr} {c : Nat} {l : List UInt8} (h : zb0 l c = true) (hl : code.data.toList.drop pc = l) (hG : (zGx pc).1 c = Pure.pure i) : decode code pc = .ok (i, 1) := by
  cases l with
  | nil => simp [zb0] at h
  | cons b r =>
    have hb : b.toNat = c := by simpa [zb0] using h
    have e : (Decoder.instr pc) code pc = .ok (i, pc + 1) := by
      rw [(zGx pc).2, zrd _ (zu1v hl), hb, hG]
      rfl
    rw [zdec1 e, Nat.add_sub_cancel_left]
theorem zbu1_ok {i : Instr} {c k : Nat} {l : List UInt8} {F : Nat → Decoder Instr} (h : zbu1 l c k = true) (hl : code.data.toList.drop pc = l) (hG : (zGx pc).1 c = (Reader.u1 >>= F)) (hF : F k = Pure.pure i) : decode code pc = .ok (i, 2) := by
  match l, h, hl with
  | [], h, _ => simp [zbu1] at h
  | [_], h, _ => simp [zbu1] at h
  | b :: x :: r, h, hl =>
    obtain ⟨h1, h2⟩ := Bool.and_eq_true_iff.mp (show (b.toNat == c && x.toNat == k) = true from h)
    have h1 : b.toNat = c := by simpa using h1
    have h2 : x.toNat = k := by simpa using h2
    have e : (Decoder.instr pc) code pc = .ok (i, pc + 2) := by
      rw [(zGx pc).2, zrd _ (zu1v hl), h1, hG, zrd _ (zu1v (zAt_t hl)), h2, hF]
      rfl
    rw [zdec1 e, Nat.add_sub_cancel_left]
theorem zbu2_ok {i : Instr} {c k : Nat} {l : List UInt8} {F : Nat → Decoder Instr} (h : zbu2 l c k = true) (hl : code.data.toList.drop pc = l) (hG : (zGx pc).1 c = (Reader.u2 >>= F)) (hF : F k = Pure.pure i) : decode code pc = .ok (i, 3) := by
  match l, h, hl with
  | [], h, _ => simp [zbu2] at h
  | [_], h, _ => simp [zbu2] at h
  | [_, _], h, _ => simp [zbu2] at h
  | b :: x :: y :: r, h, hl =>
    obtain ⟨h1, h2⟩ := Bool.and_eq_true_iff.mp (show (b.toNat == c && x.toNat * 256 + y.toNat == k) = true from h)
    have h1 : b.toNat = c := by simpa using h1
    have h2 : x.toNat * 256 + y.toNat = k := by simpa using h2
    have e : (Decoder.instr pc) code pc = .ok (i, pc + 3) := by
      rw [(zGx pc).2, zrd _ (zu1v hl), h1, hG, zrd _ (zu2v (zAt_t hl)), h2, hF]
      rfl
    rw [zdec1 e, Nat.add_sub_cancel_left]
theorem zbs1_ok {i : Instr} {c : Nat} {v : Int} {l : List UInt8} {F : Int → Decoder Instr} (h : zbs1 l c v = true) (hl : code.data.toList.drop pc = l) (hG : (zGx pc).1 c = (Reader.s1 >>= F)) (hF : F v = Pure.pure i) : decode code pc = .ok (i, 2) := by
  match l, h, hl with
  | [], h, _ => simp [zbs1] at h
  | [_], h, _ => simp [zbs1] at h
  | b :: x :: r, h, hl =>
    obtain ⟨h1, h2⟩ := Bool.and_eq_true_iff.mp (show (b.toNat == c && decide (Reader.signed 8 x.toNat = v)) = true from h)
    have h1 : b.toNat = c := by simpa using h1
    have h2 := of_decide_eq_true h2
    have e : (Decoder.instr pc) code pc = .ok (i, pc + 2) := by
      rw [(zGx pc).2, zrd _ (zu1v hl), h1, hG, zrd _ (zs1v (zAt_t hl)), h2, hF]
      rfl
    rw [zdec1 e, Nat.add_sub_cancel_left]
theorem zbs2_ok {i : Instr} {c : Nat} {v : Int} {l : List UInt8} {F : Int → Decoder Instr} (h : zbs2 l c v = true) (hl : code.data.toList.drop pc = l) (hG : (zGx pc).1 c = (Reader.s2 >>= F)) (hF : F v = Pure.pure i) : decode code pc = .ok (i, 3) := by
  match l, h, hl with
  | [], h, _ => simp [zbs2] at h
  | [_], h, _ => simp [zbs2] at h
  | [_, _], h, _ => simp [zbs2] at h
  | b :: x :: y :: r, h, hl =>
    obtain ⟨h1, h2⟩ := Bool.and_eq_true_iff.mp (show (b.toNat == c && decide (Reader.signed 16 (x.toNat * 256 + y.toNat) = v)) = true from h)
    have h1 : b.toNat = c := by simpa using h1
    have h2 := of_decide_eq_true h2
    have e : (Decoder.instr pc) code pc = .ok (i, pc + 3) := by
      rw [(zGx pc).2, zrd _ (zu1v hl), h1, hG, zrd _ (zs2v (zAt_t hl)), h2, hF]
      rfl
    rw [zdec1 e, Nat.add_sub_cancel_left]
theorem zbi_ok {i : Instr} {c k : Nat} {v : Int} {l : List UInt8} {F : Nat → Int → Decoder Instr} (h : zbi l c k v = true) (hl : code.data.toList.drop pc = l) (hG : (zGx pc).1 c = (Reader.u1 >>= fun a => Reader.s1 >>= fun b => F a b)) (hF : F k v = Pure.pure i) : decode code pc = .ok (i, 3) := by
  match l, h, hl with
  | [], h, _ => simp [zbi] at h
  | [_], h, _ => simp [zbi] at h
  | [_, _], h, _ => simp [zbi] at h
  | b :: x :: y :: r, h, hl =>
    obtain ⟨h1, h2⟩ := Bool.and_eq_true_iff.mp (show (b.toNat == c && (x.toNat == k && decide (Reader.signed 8 y.toNat = v))) = true from h)
    obtain ⟨h2, h3⟩ := Bool.and_eq_true_iff.mp h2
    have h1 : b.toNat = c := by simpa using h1
    have h2 : x.toNat = k := by simpa using h2
    have h3 := of_decide_eq_true h3
    have e : (Decoder.instr pc) code pc = .ok (i, pc + 3) := by
      rw [(zGx pc).2, zrd _ (zu1v hl), h1, hG, zrd _ (zu1v (zAt_t hl)), h2]
      show (Reader.s1 >>= fun b => F k b) code (pc + 1 + 1) = _
      rw [zrd _ (zs1v (zAt_t (zAt_t hl))), h3, hF]
      rfl
    rw [zdec1 e, Nat.add_sub_cancel_left]
theorem zDcd_of {i : Instr} {n : Nat} (h : decode code pc = .ok (i, n)) (hn : zLen i = 0 ∨ n = zLen i) : zDcd code pc i = true := by
  unfold zDcd
  rw [h]
  show (decide (i = i) && (zLen i == 0 || n == zLen i)) = true
  rcases hn with q | q <;> simp [q]
end zFs
/-- the instruction i stands ahead in l -/
def zdq (i : Instr) (l : List UInt8) : Bool := match i with
  | .aconst_null => zb0 l 1
  | .iaload => zb0 l 46
  | .aaload => zb0 l 50
  | .baload => zb0 l 51
  | .iastore => zb0 l 79
  | .aastore => zb0 l 83
  | .bastore => zb0 l 84
  | .pop => zb0 l 87
  | .pop2 => zb0 l 88
  | .dup => zb0 l 89
  | .dup_x1 => zb0 l 90
  | .dup2 => zb0 l 92
  | .iadd => zb0 l 96
  | .ladd => zb0 l 97
  | .isub => zb0 l 100
  | .imul => zb0 l 104
  | .lmul => zb0 l 105
  | .dmul => zb0 l 107
  | .idiv => zb0 l 108
  | .ddiv => zb0 l 111
  | .irem => zb0 l 112
  | .ineg => zb0 l 116
  | .ishl => zb0 l 120
  | .ishr => zb0 l 122
  | .iushr => zb0 l 124
  | .iand => zb0 l 126
  | .ior => zb0 l 128
  | .ixor => zb0 l 130
  | .i2l => zb0 l 133
  | .i2d => zb0 l 135
  | .d2l => zb0 l 143
  | .i2b => zb0 l 145
  | .i2c => zb0 l 146
  | .lcmp => zb0 l 148
  | .ireturn => zb0 l 172
  | .lreturn => zb0 l 173
  | .dreturn => zb0 l 175
  | .areturn => zb0 l 176
  | .return_ => zb0 l 177
  | .arraylength => zb0 l 190
  | .ldc k => zbu1 l 18 k
  | .iload k => zbu1 l 21 k
  | .aload k => zbu1 l 25 k
  | .istore k => zbu1 l 54 k
  | .dstore k => zbu1 l 57 k
  | .astore k => zbu1 l 58 k
  | .ldc_w k => zbu2 l 19 k
  | .ldc2_w k => zbu2 l 20 k
  | .getstatic k => zbu2 l 178 k
  | .getfield k => zbu2 l 180 k
  | .putfield k => zbu2 l 181 k
  | .invokevirtual k => zbu2 l 182 k
  | .invokespecial k => zbu2 l 183 k
  | .invokestatic k => zbu2 l 184 k
  | .new k => zbu2 l 187 k
  | .anewarray k => zbu2 l 189 k
  | .checkcast k => zbu2 l 192 k
  | .iload_n k => zb0 l (26 + k.val)
  | .lload_n k => zb0 l (30 + k.val)
  | .aload_n k => zb0 l (42 + k.val)
  | .istore_n k => zb0 l (59 + k.val)
  | .lstore_n k => zb0 l (63 + k.val)
  | .astore_n k => zb0 l (75 + k.val)
  | .lconst k => zb0 l (9 + k.val)
  | .dconst k => zb0 l (14 + k.val)
  | .iconst v => decide (-1 ≤ v ∧ v ≤ 5) && zb0 l (v + 3).toNat
  | .bipush v => zbs1 l 16 v
  | .sipush v => zbs2 l 17 v
  | .goto v => zbs2 l 167 v
  | .ifnull v => zbs2 l 198 v
  | .ifnonnull v => zbs2 l 199 v
  | .ifCond c v => zbs2 l (153 + zCd c) v
  | .if_icmp c v => zbs2 l (159 + zCd c) v
  | .if_acmp c v => zbs2 l (165 + zCe c) v
  | .iinc k v => zbi l 132 k v
  | _ => false
set_option maxHeartbeats 4000000 in
theorem zdq_ok {code : ByteArray} {pc : Nat} {i : Instr} {l : List UInt8} (h : zdq i l = true) (hl : code.data.toList.drop pc = l) : zDcd code pc i = true := by
  unfold zdq at h
  split at h
  · exact zDcd_of (zb0_ok h hl rfl) (Or.inr rfl)
  · exact zDcd_of (zb0_ok h hl rfl) (Or.inr rfl)
  · exact zDcd_of (zb0_ok h hl rfl) (Or.inr rfl)
  · exact zDcd_of (zb0_ok h hl rfl) (Or.inr rfl)
  · exact zDcd_of (zb0_ok h hl rfl) (Or.inr rfl)
  · exact zDcd_of (zb0_ok h hl rfl) (Or.inr rfl)
  · exact zDcd_of (zb0_ok h hl rfl) (Or.inr rfl)
  · exact zDcd_of (zb0_ok h hl rfl) (Or.inr rfl)
  · exact zDcd_of (zb0_ok h hl rfl) (Or.inr rfl)
  · exact zDcd_of (zb0_ok h hl rfl) (Or.inr rfl)
  · exact zDcd_of (zb0_ok h hl rfl) (Or.inr rfl)
  · exact zDcd_of (zb0_ok h hl rfl) (Or.inr rfl)
  · exact zDcd_of (zb0_ok h hl rfl) (Or.inr rfl)
  · exact zDcd_of (zb0_ok h hl rfl) (Or.inr rfl)
  · exact zDcd_of (zb0_ok h hl rfl) (Or.inr rfl)
  · exact zDcd_of (zb0_ok h hl rfl) (Or.inr rfl)
  · exact zDcd_of (zb0_ok h hl rfl) (Or.inr rfl)
  · exact zDcd_of (zb0_ok h hl rfl) (Or.inr rfl)
  · exact zDcd_of (zb0_ok h hl rfl) (Or.inr rfl)
  · exact zDcd_of (zb0_ok h hl rfl) (Or.inr rfl)
  · exact zDcd_of (zb0_ok h hl rfl) (Or.inr rfl)
  · exact zDcd_of (zb0_ok h hl rfl) (Or.inr rfl)
  · exact zDcd_of (zb0_ok h hl rfl) (Or.inr rfl)
  · exact zDcd_of (zb0_ok h hl rfl) (Or.inr rfl)
  · exact zDcd_of (zb0_ok h hl rfl) (Or.inr rfl)
  · exact zDcd_of (zb0_ok h hl rfl) (Or.inr rfl)
  · exact zDcd_of (zb0_ok h hl rfl) (Or.inr rfl)
  · exact zDcd_of (zb0_ok h hl rfl) (Or.inr rfl)
  · exact zDcd_of (zb0_ok h hl rfl) (Or.inr rfl)
  · exact zDcd_of (zb0_ok h hl rfl) (Or.inr rfl)
  · exact zDcd_of (zb0_ok h hl rfl) (Or.inr rfl)
  · exact zDcd_of (zb0_ok h hl rfl) (Or.inr rfl)
  · exact zDcd_of (zb0_ok h hl rfl) (Or.inr rfl)
  · exact zDcd_of (zb0_ok h hl rfl) (Or.inr rfl)
  · exact zDcd_of (zb0_ok h hl rfl) (Or.inr rfl)
  · exact zDcd_of (zb0_ok h hl rfl) (Or.inr rfl)
  · exact zDcd_of (zb0_ok h hl rfl) (Or.inr rfl)
  · exact zDcd_of (zb0_ok h hl rfl) (Or.inr rfl)
  · exact zDcd_of (zb0_ok h hl rfl) (Or.inr rfl)
  · exact zDcd_of (zb0_ok h hl rfl) (Or.inr rfl)
  · exact zDcd_of (zbu1_ok (F := fun v => Pure.pure (Instr.ldc v)) h hl rfl rfl) (Or.inr rfl)
  · exact zDcd_of (zbu1_ok (F := fun v => Pure.pure (Instr.iload v)) h hl rfl rfl) (Or.inr rfl)
  · exact zDcd_of (zbu1_ok (F := fun v => Pure.pure (Instr.aload v)) h hl rfl rfl) (Or.inr rfl)
  · exact zDcd_of (zbu1_ok (F := fun v => Pure.pure (Instr.istore v)) h hl rfl rfl) (Or.inr rfl)
  · exact zDcd_of (zbu1_ok (F := fun v => Pure.pure (Instr.dstore v)) h hl rfl rfl) (Or.inr rfl)
  · exact zDcd_of (zbu1_ok (F := fun v => Pure.pure (Instr.astore v)) h hl rfl rfl) (Or.inr rfl)
  · exact zDcd_of (zbu2_ok (F := fun v => Pure.pure (Instr.ldc_w v)) h hl rfl rfl) (Or.inr rfl)
  · exact zDcd_of (zbu2_ok (F := fun v => Pure.pure (Instr.ldc2_w v)) h hl rfl rfl) (Or.inr rfl)
  · exact zDcd_of (zbu2_ok (F := fun v => Pure.pure (Instr.getstatic v)) h hl rfl rfl) (Or.inr rfl)
  · exact zDcd_of (zbu2_ok (F := fun v => Pure.pure (Instr.getfield v)) h hl rfl rfl) (Or.inr rfl)
  · exact zDcd_of (zbu2_ok (F := fun v => Pure.pure (Instr.putfield v)) h hl rfl rfl) (Or.inr rfl)
  · exact zDcd_of (zbu2_ok (F := fun v => Pure.pure (Instr.invokevirtual v)) h hl rfl rfl) (Or.inr rfl)
  · exact zDcd_of (zbu2_ok (F := fun v => Pure.pure (Instr.invokespecial v)) h hl rfl rfl) (Or.inr rfl)
  · exact zDcd_of (zbu2_ok (F := fun v => Pure.pure (Instr.invokestatic v)) h hl rfl rfl) (Or.inr rfl)
  · exact zDcd_of (zbu2_ok (F := fun v => Pure.pure (Instr.new v)) h hl rfl rfl) (Or.inr rfl)
  · exact zDcd_of (zbu2_ok (F := fun v => Pure.pure (Instr.anewarray v)) h hl rfl rfl) (Or.inr rfl)
  · exact zDcd_of (zbu2_ok (F := fun v => Pure.pure (Instr.checkcast v)) h hl rfl rfl) (Or.inr rfl)
  · rename_i k
    match k, h with
    | ⟨0, _⟩, h => exact zDcd_of (zb0_ok (c := 26) h hl rfl) (Or.inr rfl)
    | ⟨1, _⟩, h => exact zDcd_of (zb0_ok (c := 27) h hl rfl) (Or.inr rfl)
    | ⟨2, _⟩, h => exact zDcd_of (zb0_ok (c := 28) h hl rfl) (Or.inr rfl)
    | ⟨3, _⟩, h => exact zDcd_of (zb0_ok (c := 29) h hl rfl) (Or.inr rfl)
    | ⟨n + 4, q⟩, _ => exact absurd q (by omega)
  · rename_i k
    match k, h with
    | ⟨0, _⟩, h => exact zDcd_of (zb0_ok (c := 30) h hl rfl) (Or.inr rfl)
    | ⟨1, _⟩, h => exact zDcd_of (zb0_ok (c := 31) h hl rfl) (Or.inr rfl)
    | ⟨2, _⟩, h => exact zDcd_of (zb0_ok (c := 32) h hl rfl) (Or.inr rfl)
    | ⟨3, _⟩, h => exact zDcd_of (zb0_ok (c := 33) h hl rfl) (Or.inr rfl)
    | ⟨n + 4, q⟩, _ => exact absurd q (by omega)
  · rename_i k
    match k, h with
    | ⟨0, _⟩, h => exact zDcd_of (zb0_ok (c := 42) h hl rfl) (Or.inr rfl)
    | ⟨1, _⟩, h => exact zDcd_of (zb0_ok (c := 43) h hl rfl) (Or.inr rfl)
    | ⟨2, _⟩, h => exact zDcd_of (zb0_ok (c := 44) h hl rfl) (Or.inr rfl)
    | ⟨3, _⟩, h => exact zDcd_of (zb0_ok (c := 45) h hl rfl) (Or.inr rfl)
    | ⟨n + 4, q⟩, _ => exact absurd q (by omega)
  · rename_i k
    match k, h with
    | ⟨0, _⟩, h => exact zDcd_of (zb0_ok (c := 59) h hl rfl) (Or.inr rfl)
    | ⟨1, _⟩, h => exact zDcd_of (zb0_ok (c := 60) h hl rfl) (Or.inr rfl)
    | ⟨2, _⟩, h => exact zDcd_of (zb0_ok (c := 61) h hl rfl) (Or.inr rfl)
    | ⟨3, _⟩, h => exact zDcd_of (zb0_ok (c := 62) h hl rfl) (Or.inr rfl)
    | ⟨n + 4, q⟩, _ => exact absurd q (by omega)
  · rename_i k
    match k, h with
    | ⟨0, _⟩, h => exact zDcd_of (zb0_ok (c := 63) h hl rfl) (Or.inr rfl)
    | ⟨1, _⟩, h => exact zDcd_of (zb0_ok (c := 64) h hl rfl) (Or.inr rfl)
    | ⟨2, _⟩, h => exact zDcd_of (zb0_ok (c := 65) h hl rfl) (Or.inr rfl)
    | ⟨3, _⟩, h => exact zDcd_of (zb0_ok (c := 66) h hl rfl) (Or.inr rfl)
    | ⟨n + 4, q⟩, _ => exact absurd q (by omega)
  · rename_i k
    match k, h with
    | ⟨0, _⟩, h => exact zDcd_of (zb0_ok (c := 75) h hl rfl) (Or.inr rfl)
    | ⟨1, _⟩, h => exact zDcd_of (zb0_ok (c := 76) h hl rfl) (Or.inr rfl)
    | ⟨2, _⟩, h => exact zDcd_of (zb0_ok (c := 77) h hl rfl) (Or.inr rfl)
    | ⟨3, _⟩, h => exact zDcd_of (zb0_ok (c := 78) h hl rfl) (Or.inr rfl)
    | ⟨n + 4, q⟩, _ => exact absurd q (by omega)
  · rename_i k
    match k, h with
    | ⟨0, _⟩, h => exact zDcd_of (zb0_ok (c := 9) h hl rfl) (Or.inr rfl)
    | ⟨1, _⟩, h => exact zDcd_of (zb0_ok (c := 10) h hl rfl) (Or.inr rfl)
    | ⟨n + 2, q⟩, _ => exact absurd q (by omega)
  · rename_i k
    match k, h with
    | ⟨0, _⟩, h => exact zDcd_of (zb0_ok (c := 14) h hl rfl) (Or.inr rfl)
    | ⟨1, _⟩, h => exact zDcd_of (zb0_ok (c := 15) h hl rfl) (Or.inr rfl)
    | ⟨n + 2, q⟩, _ => exact absurd q (by omega)
  · rename_i v
    obtain ⟨h0, h⟩ := Bool.and_eq_true_iff.mp h
    have h0 := of_decide_eq_true h0
    have q : v = -1 ∨ v = 0 ∨ v = 1 ∨ v = 2 ∨ v = 3 ∨ v = 4 ∨ v = 5 := by omega
    rcases q with rfl | rfl | rfl | rfl | rfl | rfl | rfl
    · exact zDcd_of (zb0_ok (c := 2) h hl rfl) (Or.inr rfl)
    · exact zDcd_of (zb0_ok (c := 3) h hl rfl) (Or.inr rfl)
    · exact zDcd_of (zb0_ok (c := 4) h hl rfl) (Or.inr rfl)
    · exact zDcd_of (zb0_ok (c := 5) h hl rfl) (Or.inr rfl)
    · exact zDcd_of (zb0_ok (c := 6) h hl rfl) (Or.inr rfl)
    · exact zDcd_of (zb0_ok (c := 7) h hl rfl) (Or.inr rfl)
    · exact zDcd_of (zb0_ok (c := 8) h hl rfl) (Or.inr rfl)
  · exact zDcd_of (zbs1_ok (F := fun v => Pure.pure (Instr.bipush v)) h hl rfl rfl) (Or.inr rfl)
  · exact zDcd_of (zbs2_ok (F := fun v => Pure.pure (Instr.sipush v)) h hl rfl rfl) (Or.inr rfl)
  · exact zDcd_of (zbs2_ok (F := fun v => Pure.pure (Instr.goto v)) h hl rfl rfl) (Or.inr rfl)
  · exact zDcd_of (zbs2_ok (F := fun v => Pure.pure (Instr.ifnull v)) h hl rfl rfl) (Or.inr rfl)
  · exact zDcd_of (zbs2_ok (F := fun v => Pure.pure (Instr.ifnonnull v)) h hl rfl rfl) (Or.inr rfl)
  · rename_i c v
    cases c
    · exact zDcd_of (zbs2_ok (c := 153) (F := fun v => Pure.pure (Instr.ifCond .eq v)) h hl rfl rfl) (Or.inr rfl)
    · exact zDcd_of (zbs2_ok (c := 154) (F := fun v => Pure.pure (Instr.ifCond .ne v)) h hl rfl rfl) (Or.inr rfl)
    · exact zDcd_of (zbs2_ok (c := 155) (F := fun v => Pure.pure (Instr.ifCond .lt v)) h hl rfl rfl) (Or.inr rfl)
    · exact zDcd_of (zbs2_ok (c := 156) (F := fun v => Pure.pure (Instr.ifCond .ge v)) h hl rfl rfl) (Or.inr rfl)
    · exact zDcd_of (zbs2_ok (c := 157) (F := fun v => Pure.pure (Instr.ifCond .gt v)) h hl rfl rfl) (Or.inr rfl)
    · exact zDcd_of (zbs2_ok (c := 158) (F := fun v => Pure.pure (Instr.ifCond .le v)) h hl rfl rfl) (Or.inr rfl)
  · rename_i c v
    cases c
    · exact zDcd_of (zbs2_ok (c := 159) (F := fun v => Pure.pure (Instr.if_icmp .eq v)) h hl rfl rfl) (Or.inr rfl)
    · exact zDcd_of (zbs2_ok (c := 160) (F := fun v => Pure.pure (Instr.if_icmp .ne v)) h hl rfl rfl) (Or.inr rfl)
    · exact zDcd_of (zbs2_ok (c := 161) (F := fun v => Pure.pure (Instr.if_icmp .lt v)) h hl rfl rfl) (Or.inr rfl)
    · exact zDcd_of (zbs2_ok (c := 162) (F := fun v => Pure.pure (Instr.if_icmp .ge v)) h hl rfl rfl) (Or.inr rfl)
    · exact zDcd_of (zbs2_ok (c := 163) (F := fun v => Pure.pure (Instr.if_icmp .gt v)) h hl rfl rfl) (Or.inr rfl)
    · exact zDcd_of (zbs2_ok (c := 164) (F := fun v => Pure.pure (Instr.if_icmp .le v)) h hl rfl rfl) (Or.inr rfl)
  · rename_i c v
    cases c
    · exact zDcd_of (zbs2_ok (c := 165) (F := fun v => Pure.pure (Instr.if_acmp .eq v)) h hl rfl rfl) (Or.inr rfl)
    · exact zDcd_of (zbs2_ok (c := 166) (F := fun v => Pure.pure (Instr.if_acmp .ne v)) h hl rfl rfl) (Or.inr rfl)
  · exact zDcd_of (zbi_ok (F := fun a b => Pure.pure (Instr.iinc a b)) h hl rfl rfl) (Or.inr rfl)
  · cases h
def zscan (code : ByteArray) : List UInt8 → Nat → List (Nat × Instr × Nat × Nat) → Bool
  | _, _, [] => true
  | bs, pos, x :: r => decide (pos ≤ x.1) && ((zdq x.2.1 (bs.drop (x.1 - pos)) || zDcd code x.1 x.2.1) && zscan code (bs.drop (x.1 - pos)) x.1 r)
theorem zscan_ok {code : ByteArray} : ∀ (rows : List (Nat × Instr × Nat × Nat)) (bs : List UInt8) (pos : Nat), code.data.toList.drop pos = bs → zscan code bs pos rows = true → ∀ x ∈ rows, zDcd code x.1 x.2.1 = true
  | [], _, _, _, _ => fun x hx => nomatch hx
  | x :: r, bs, pos, hb, h => by
    unfold zscan at h
    obtain ⟨h1, h⟩ := Bool.and_eq_true_iff.mp h
    obtain ⟨h2, h3⟩ := Bool.and_eq_true_iff.mp h
    have h1 := of_decide_eq_true h1
    have hd : code.data.toList.drop x.1 = bs.drop (x.1 - pos) := by
      rw [← hb, List.drop_drop]
      congr 1
      omega
    intro y hy
    rcases List.mem_cons.mp hy with e | hy
    · subst e
      rcases Bool.or_eq_true_iff.mp h2 with q | q
      · exact zdq_ok q hd
      · exact q
    · exact zscan_ok r _ _ hd h3 y hy
def zShq (j : Nat) (x : Nat × Instr × Nat × Nat) : Bool := zKd x.2.1 x.2.2.1 x.2.2.2 == 5 || zShp zi j x.2.1 x.2.2.1 x.2.2.2
theorem zrow_of {j : Nat} {rows : List (Nat × Instr × Nat × Nat)} (h1 : zscan (zBy (zi j)) (zBy (zi j)).data.toList 0 rows = true) (h2 : rows.all (zShq j) = true) : rows.all (zRowOk j) = true := by
  refine List.all_eq_true.mpr (fun x hx => ?_)
  unfold zRowOk
  exact Bool.and_eq_true_iff.mpr ⟨zscan_ok rows _ 0 rfl h1 x hx, List.all_eq_true.mp h2 x hx⟩
theorem zNd_own {j j0 : Nat} (h : (zYn (zi j)).cls = (zYn (zi j0)).cls) (i : Instr) (a b : Nat) : zNd zi j i a b = zNd zi j0 i a b := by
  unfold zNd zNc
  rw [h]
def zKy (K : List (List (Nat × Instr × Nat × Nat))) (k : Nat) : Option (Nat × Instr × Nat × Nat) := match K[k / 16]? with
  | some c => c[k % 16]?
  | none => none
def zmem (j : Nat) (K : List (List (Nat × Instr × Nat × Nat))) : List Nat → List (Nat × Instr × Nat × Nat) → Bool
  | _, [] => true
  | ks, x :: r => if (zNds j x).isEmpty = true then zmem j K ks r else match ks with
    | [] => false
    | k :: ks' => (match zKy K k with
      | some y => decide (y.2 = x.2)
      | none => false) && zmem j K ks' r
theorem zmem_ok {j j0 : Nat} {K : List (List (Nat × Instr × Nat × Nat))} (hc : (zYn (zi j)).cls = (zYn (zi j0)).cls) (hK : ∀ c ∈ K, ∀ w ∈ c.flatMap (zNds j0), zWd w) : ∀ (ks : List Nat) (rows : List (Nat × Instr × Nat × Nat)), zmem j K ks rows = true → ∀ w ∈ rows.flatMap (zNds j), zWd w
  | _, [], _ => fun w hw => nomatch (show w ∈ ([] : List Cond) from hw)
  | ks, x :: r, h => by
    unfold zmem at h
    intro w hw
    rw [List.flatMap_cons] at hw
    split at h
    · rename_i e
      have e : zNds j x = [] := List.isEmpty_iff.mp e
      rw [e, List.nil_append] at hw
      exact zmem_ok hc hK ks r h w hw
    · split at h
      · cases h
      · rename_i k ks'
        obtain ⟨h1, h2⟩ := Bool.and_eq_true_iff.mp h
        rcases List.mem_append.mp hw with hw | hw
        · split at h1
          · rename_i y hy
            have h1 := of_decide_eq_true h1
            unfold zKy at hy
            split at hy
            · rename_i c hc2
              refine hK c (List.mem_of_getElem? hc2) w (List.mem_flatMap.mpr ⟨y, List.mem_of_getElem? hy, ?_⟩)
              show w ∈ zNd zi j0 y.2.1 y.2.2.1 y.2.2.2
              rw [h1, ← zNd_own hc]
              exact hw
            · cases hy
          · cases h1
        · exact zmem_ok hc hK ks' r h2 w hw
theorem zall2 {j0 : Nat} {c : List (Nat × Instr × Nat × Nat)} {K : List (List (Nat × Instr × Nat × Nat))} (h1 : ∀ w ∈ c.flatMap (zNds j0), zWd w) (h2 : ∀ c ∈ K, ∀ w ∈ c.flatMap (zNds j0), zWd w) : ∀ d ∈ c :: K, ∀ w ∈ d.flatMap (zNds j0), zWd w := fun d hd => by
  rcases List.mem_cons.mp hd with e | hd
  · subst e
    exact h1
  · exact h2 d hd
