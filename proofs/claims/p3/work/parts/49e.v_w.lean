/-! ===== values: the wordings ===== -/
theorem st_16_5 {h : List zC} (hS : Stc h) : gF h 16 5 = some (.ref 18) := hS.2 (16, 5, 18) (by decide +kernel)
theorem st_213_5 {h : List zC} (hS : Stc h) : gF h 213 5 = some (.ref 215) := hS.2 (213, 5, 215) (by decide +kernel)
theorem st_row {h : List zC} (hS : Stc h) {i : Nat} (hi : i < 6) : gF h 18 i = some (.ref (19 + i)) := hS.2 (18, i, 19 + i) (by
  have : ∀ i, i < 6 → (18, i, 19 + i) ∈ stL := by decide
  exact this i hi)
theorem st_mrow {h : List zC} (hS : Stc h) {i : Nat} (hi : i < 6) : gF h 215 i = some (.ref (216 + i)) := hS.2 (215, i, 216 + i) (by
  have : ∀ i, i < 6 → (215, i, 216 + i) ∈ stL := by decide
  exact this i hi)
theorem Stc.row {h h' : List zC} (hS : Stc h) {i b : Nat} {v : Value} (hi : i < 6) (H : hPut h h' (19 + i) b v) : Stc h' := hS.put H (stL_no (fun p => decide (19 ≤ p) && decide (p < 25)) (by decide) (by simp; omega))
theorem Stc.mrow {h h' : List zC} (hS : Stc h) {i b : Nat} {v : Value} (hi : i < 6) (H : hPut h h' (216 + i) b v) : Stc h' := hS.put H (stL_no (fun p => decide (216 ≤ p) && decide (p < 222)) (by decide) (by simp; omega))
theorem Stc.thr {h h' : List zC} {v : Value} (hS : Stc h) (H : hPut h h' 213 0 v) : Stc h' := hS.put H (stL_no2 (by decide +kernel))
theorem Stc.out {h h' : List zC} {k : Nat} {v : Value} (hS : Stc h) (H : hPut h h' 238 k v) : Stc h' := hS.put H (stL_no (fun p => p == 238) (by decide) rfl)
theorem Stc.ext {h h' : List zC} (hS : Stc h) (hl : h.length ≤ h'.length) (H : hExt h h') : Stc h' := ⟨Nat.le_trans hS.1 hl, fun e he => hExt_F H (hS.2 e he)⟩
/-- one swap in the row q -/
abbrev wSw (h h2 : List zC) (q a b : Nat) (r : Value) : Prop := ∃ (x y z : Int32) (h1 : List zC), gF h q a = some (.int x) ∧ gF h q b = some (.int y) ∧ hPut h h1 q a (.int y) ∧ hPut h1 h2 q b (.int x) ∧ gF h2 q a = some (.int z) ∧ r = .int z
theorem in6_y {x : Int32} (h : ¬ inB x 0 5 = 0) : iN 6 x := by
  obtain ⟨h1, h2⟩ := inB_y h
  have z5 : (5 : Int32).toInt = 5 := rfl
  have z0 : (0 : Int32).toInt = 0 := rfl
  exact ⟨by omega, by omega⟩
theorem in6_n {x : Int32} (h : inB x 0 5 = 0) : ¬ iN 6 x := fun ⟨h1, h2⟩ => inB_n h (by
  have z5 : (5 : Int32).toInt = 5 := rfl
  have z0 : (0 : Int32).toInt = 0 := rfl
  omega)
theorem vr_58_0 : zrx 58 0 = some (.iload_n 1, 0, 0) := by decide +kernel
theorem vr_58_1 : zrx 58 1 = some (.bipush 6, 0, 0) := by decide +kernel
theorem vr_58_3 : zrx 58 3 = some (.invokestatic 68, 96, 0) := by decide +kernel
theorem vr_58_6 : zrx 58 6 = some (.iload_n 2, 0, 0) := by decide +kernel
theorem vr_58_7 : zrx 58 7 = some (.iconst 0, 0, 0) := by decide +kernel
theorem vr_58_8 : zrx 58 8 = some (.iconst 5, 0, 0) := by decide +kernel
theorem vr_58_9 : zrx 58 9 = some (.invokestatic 72, 97, 0) := by decide +kernel
theorem vr_58_12 : zrx 58 12 = some (.iload_n 3, 0, 0) := by decide +kernel
theorem vr_58_13 : zrx 58 13 = some (.iconst 0, 0, 0) := by decide +kernel
theorem vr_58_14 : zrx 58 14 = some (.iconst 5, 0, 0) := by decide +kernel
theorem vr_58_15 : zrx 58 15 = some (.invokestatic 72, 97, 0) := by decide +kernel
theorem vr_58_18 : zrx 58 18 = some (.aload_n 0, 0, 0) := by decide +kernel
theorem vr_58_19 : zrx 58 19 = some (.getfield 15, 13, 5) := by decide +kernel
theorem vr_58_22 : zrx 58 22 = some (.iload_n 1, 0, 0) := by decide +kernel
theorem vr_58_23 : zrx 58 23 = some (.aaload, 0, 0) := by decide +kernel
theorem vr_58_24 : zrx 58 24 = some (.iload_n 2, 0, 0) := by decide +kernel
theorem vr_58_25 : zrx 58 25 = some (.iaload, 0, 0) := by decide +kernel
theorem vr_58_26 : zrx 58 26 = some (.istore 4, 0, 0) := by decide +kernel
theorem vr_58_28 : zrx 58 28 = some (.aload_n 0, 0, 0) := by decide +kernel
theorem vr_58_29 : zrx 58 29 = some (.getfield 15, 13, 5) := by decide +kernel
theorem vr_58_32 : zrx 58 32 = some (.iload_n 1, 0, 0) := by decide +kernel
theorem vr_58_33 : zrx 58 33 = some (.aaload, 0, 0) := by decide +kernel
theorem vr_58_34 : zrx 58 34 = some (.iload_n 2, 0, 0) := by decide +kernel
theorem vr_58_35 : zrx 58 35 = some (.aload_n 0, 0, 0) := by decide +kernel
theorem vr_58_36 : zrx 58 36 = some (.getfield 15, 13, 5) := by decide +kernel
theorem vr_58_39 : zrx 58 39 = some (.iload_n 1, 0, 0) := by decide +kernel
theorem vr_58_40 : zrx 58 40 = some (.aaload, 0, 0) := by decide +kernel
theorem vr_58_41 : zrx 58 41 = some (.iload_n 3, 0, 0) := by decide +kernel
theorem vr_58_42 : zrx 58 42 = some (.iaload, 0, 0) := by decide +kernel
theorem vr_58_43 : zrx 58 43 = some (.iastore, 0, 0) := by decide +kernel
theorem vr_58_44 : zrx 58 44 = some (.aload_n 0, 0, 0) := by decide +kernel
theorem vr_58_45 : zrx 58 45 = some (.getfield 15, 13, 5) := by decide +kernel
theorem vr_58_48 : zrx 58 48 = some (.iload_n 1, 0, 0) := by decide +kernel
theorem vr_58_49 : zrx 58 49 = some (.aaload, 0, 0) := by decide +kernel
theorem vr_58_50 : zrx 58 50 = some (.iload_n 3, 0, 0) := by decide +kernel
theorem vr_58_51 : zrx 58 51 = some (.iload 4, 0, 0) := by decide +kernel
theorem vr_58_53 : zrx 58 53 = some (.iastore, 0, 0) := by decide +kernel
theorem vr_58_54 : zrx 58 54 = some (.aload_n 0, 0, 0) := by decide +kernel
theorem vr_58_55 : zrx 58 55 = some (.getfield 15, 13, 5) := by decide +kernel
theorem vr_58_58 : zrx 58 58 = some (.iload_n 1, 0, 0) := by decide +kernel
theorem vr_58_59 : zrx 58 59 = some (.aaload, 0, 0) := by decide +kernel
theorem vr_58_60 : zrx 58 60 = some (.iload_n 2, 0, 0) := by decide +kernel
theorem vr_58_61 : zrx 58 61 = some (.iaload, 0, 0) := by decide +kernel
theorem vr_58_62 : zrx 58 62 = some (.ireturn, 0, 0) := by decide +kernel
theorem vr_77_0 : zrx 77 0 = some (.iload_n 1, 0, 0) := by decide +kernel
theorem vr_77_1 : zrx 77 1 = some (.bipush 6, 0, 0) := by decide +kernel
theorem vr_77_3 : zrx 77 3 = some (.invokestatic 68, 96, 0) := by decide +kernel
theorem vr_77_6 : zrx 77 6 = some (.iload_n 2, 0, 0) := by decide +kernel
theorem vr_77_7 : zrx 77 7 = some (.bipush 6, 0, 0) := by decide +kernel
theorem vr_77_9 : zrx 77 9 = some (.invokestatic 68, 96, 0) := by decide +kernel
theorem vr_77_12 : zrx 77 12 = some (.aload_n 0, 0, 0) := by decide +kernel
theorem vr_77_13 : zrx 77 13 = some (.getfield 15, 13, 5) := by decide +kernel
theorem vr_77_16 : zrx 77 16 = some (.iload_n 1, 0, 0) := by decide +kernel
theorem vr_77_17 : zrx 77 17 = some (.aaload, 0, 0) := by decide +kernel
theorem vr_77_18 : zrx 77 18 = some (.iload_n 2, 0, 0) := by decide +kernel
theorem vr_77_19 : zrx 77 19 = some (.iaload, 0, 0) := by decide +kernel
theorem vr_77_20 : zrx 77 20 = some (.ireturn, 0, 0) := by decide +kernel
theorem vr_151_0 : zrx 151 0 = some (.aload_n 0, 0, 0) := by decide +kernel
theorem vr_151_1 : zrx 151 1 = some (.iconst 0, 0, 0) := by decide +kernel
theorem vr_151_2 : zrx 151 2 = some (.putfield 55, 18, 0) := by decide +kernel
theorem vr_151_5 : zrx 151 5 = some (.iload_n 1, 0, 0) := by decide +kernel
theorem vr_151_6 : zrx 151 6 = some (.iconst 0, 0, 0) := by decide +kernel
theorem vr_151_7 : zrx 151 7 = some (.iconst 5, 0, 0) := by decide +kernel
theorem vr_151_8 : zrx 151 8 = some (.invokestatic 209, 132, 0) := by decide +kernel
theorem vr_151_11 : zrx 151 11 = some (.ifCond .ne 9, 0, 0) := by decide +kernel
theorem vr_151_14 : zrx 151 14 = some (.aload_n 0, 0, 0) := by decide +kernel
theorem vr_151_15 : zrx 151 15 = some (.iconst 1, 0, 0) := by decide +kernel
theorem vr_151_16 : zrx 151 16 = some (.invokevirtual 212, 131, 190) := by decide +kernel
theorem vr_151_19 : zrx 151 19 = some (.ireturn, 0, 0) := by decide +kernel
theorem vr_151_20 : zrx 151 20 = some (.iload_n 2, 0, 0) := by decide +kernel
theorem vr_151_21 : zrx 151 21 = some (.iconst 0, 0, 0) := by decide +kernel
theorem vr_151_22 : zrx 151 22 = some (.iconst 5, 0, 0) := by decide +kernel
theorem vr_151_23 : zrx 151 23 = some (.invokestatic 209, 132, 0) := by decide +kernel
theorem vr_151_26 : zrx 151 26 = some (.ifCond .eq 12, 0, 0) := by decide +kernel
theorem vr_151_29 : zrx 151 29 = some (.iload_n 3, 0, 0) := by decide +kernel
theorem vr_151_30 : zrx 151 30 = some (.iconst 0, 0, 0) := by decide +kernel
theorem vr_151_31 : zrx 151 31 = some (.iconst 5, 0, 0) := by decide +kernel
theorem vr_151_32 : zrx 151 32 = some (.invokestatic 209, 132, 0) := by decide +kernel
theorem vr_151_35 : zrx 151 35 = some (.ifCond .ne 9, 0, 0) := by decide +kernel
theorem vr_151_38 : zrx 151 38 = some (.aload_n 0, 0, 0) := by decide +kernel
theorem vr_151_39 : zrx 151 39 = some (.iconst 2, 0, 0) := by decide +kernel
theorem vr_151_40 : zrx 151 40 = some (.invokevirtual 212, 131, 190) := by decide +kernel
theorem vr_151_43 : zrx 151 43 = some (.ireturn, 0, 0) := by decide +kernel
theorem vr_151_44 : zrx 151 44 = some (.aload_n 0, 0, 0) := by decide +kernel
theorem vr_151_45 : zrx 151 45 = some (.getfield 15, 18, 5) := by decide +kernel
theorem vr_151_48 : zrx 151 48 = some (.iload_n 1, 0, 0) := by decide +kernel
theorem vr_151_49 : zrx 151 49 = some (.aaload, 0, 0) := by decide +kernel
theorem vr_151_50 : zrx 151 50 = some (.iload_n 2, 0, 0) := by decide +kernel
theorem vr_151_51 : zrx 151 51 = some (.iaload, 0, 0) := by decide +kernel
theorem vr_151_52 : zrx 151 52 = some (.istore 4, 0, 0) := by decide +kernel
theorem vr_151_54 : zrx 151 54 = some (.aload_n 0, 0, 0) := by decide +kernel
theorem vr_151_55 : zrx 151 55 = some (.getfield 15, 18, 5) := by decide +kernel
theorem vr_151_58 : zrx 151 58 = some (.iload_n 1, 0, 0) := by decide +kernel
theorem vr_151_59 : zrx 151 59 = some (.aaload, 0, 0) := by decide +kernel
theorem vr_151_60 : zrx 151 60 = some (.iload_n 2, 0, 0) := by decide +kernel
theorem vr_151_61 : zrx 151 61 = some (.aload_n 0, 0, 0) := by decide +kernel
theorem vr_151_62 : zrx 151 62 = some (.getfield 15, 18, 5) := by decide +kernel
theorem vr_151_65 : zrx 151 65 = some (.iload_n 1, 0, 0) := by decide +kernel
theorem vr_151_66 : zrx 151 66 = some (.aaload, 0, 0) := by decide +kernel
theorem vr_151_67 : zrx 151 67 = some (.iload_n 3, 0, 0) := by decide +kernel
theorem vr_151_68 : zrx 151 68 = some (.iaload, 0, 0) := by decide +kernel
theorem vr_151_69 : zrx 151 69 = some (.iastore, 0, 0) := by decide +kernel
theorem vr_151_70 : zrx 151 70 = some (.aload_n 0, 0, 0) := by decide +kernel
theorem vr_151_71 : zrx 151 71 = some (.getfield 15, 18, 5) := by decide +kernel
theorem vr_151_74 : zrx 151 74 = some (.iload_n 1, 0, 0) := by decide +kernel
theorem vr_151_75 : zrx 151 75 = some (.aaload, 0, 0) := by decide +kernel
theorem vr_151_76 : zrx 151 76 = some (.iload_n 3, 0, 0) := by decide +kernel
theorem vr_151_77 : zrx 151 77 = some (.iload 4, 0, 0) := by decide +kernel
theorem vr_151_79 : zrx 151 79 = some (.iastore, 0, 0) := by decide +kernel
theorem vr_151_80 : zrx 151 80 = some (.aload_n 0, 0, 0) := by decide +kernel
theorem vr_151_81 : zrx 151 81 = some (.getfield 15, 18, 5) := by decide +kernel
theorem vr_151_84 : zrx 151 84 = some (.iload_n 1, 0, 0) := by decide +kernel
theorem vr_151_85 : zrx 151 85 = some (.aaload, 0, 0) := by decide +kernel
theorem vr_151_86 : zrx 151 86 = some (.iload_n 2, 0, 0) := by decide +kernel
theorem vr_151_87 : zrx 151 87 = some (.iaload, 0, 0) := by decide +kernel
theorem vr_151_88 : zrx 151 88 = some (.ireturn, 0, 0) := by decide +kernel
theorem vr_178_0 : zrx 178 0 = some (.aload_n 0, 0, 0) := by decide +kernel
theorem vr_178_1 : zrx 178 1 = some (.iconst 0, 0, 0) := by decide +kernel
theorem vr_178_2 : zrx 178 2 = some (.putfield 55, 18, 0) := by decide +kernel
theorem vr_178_5 : zrx 178 5 = some (.iload_n 1, 0, 0) := by decide +kernel
theorem vr_178_6 : zrx 178 6 = some (.iconst 0, 0, 0) := by decide +kernel
theorem vr_178_7 : zrx 178 7 = some (.iconst 5, 0, 0) := by decide +kernel
theorem vr_178_8 : zrx 178 8 = some (.invokestatic 209, 132, 0) := by decide +kernel
theorem vr_178_11 : zrx 178 11 = some (.ifCond .eq 12, 0, 0) := by decide +kernel
theorem vr_178_14 : zrx 178 14 = some (.iload_n 2, 0, 0) := by decide +kernel
theorem vr_178_15 : zrx 178 15 = some (.iconst 0, 0, 0) := by decide +kernel
theorem vr_178_16 : zrx 178 16 = some (.iconst 5, 0, 0) := by decide +kernel
theorem vr_178_17 : zrx 178 17 = some (.invokestatic 209, 132, 0) := by decide +kernel
theorem vr_178_20 : zrx 178 20 = some (.ifCond .ne 9, 0, 0) := by decide +kernel
theorem vr_178_23 : zrx 178 23 = some (.aload_n 0, 0, 0) := by decide +kernel
theorem vr_178_24 : zrx 178 24 = some (.iconst 1, 0, 0) := by decide +kernel
theorem vr_178_25 : zrx 178 25 = some (.invokevirtual 212, 131, 190) := by decide +kernel
theorem vr_178_28 : zrx 178 28 = some (.ireturn, 0, 0) := by decide +kernel
theorem vr_178_29 : zrx 178 29 = some (.aload_n 0, 0, 0) := by decide +kernel
theorem vr_178_30 : zrx 178 30 = some (.getfield 15, 18, 5) := by decide +kernel
theorem vr_178_33 : zrx 178 33 = some (.iload_n 1, 0, 0) := by decide +kernel
theorem vr_178_34 : zrx 178 34 = some (.aaload, 0, 0) := by decide +kernel
theorem vr_178_35 : zrx 178 35 = some (.iload_n 2, 0, 0) := by decide +kernel
theorem vr_178_36 : zrx 178 36 = some (.iaload, 0, 0) := by decide +kernel
theorem vr_178_37 : zrx 178 37 = some (.ireturn, 0, 0) := by decide +kernel
theorem vr_209_0 : zrx 209 0 = some (.aload 4, 0, 0) := by decide +kernel
theorem vr_209_2 : zrx 209 2 = some (.aload_n 0, 0, 0) := by decide +kernel
theorem vr_209_3 : zrx 209 3 = some (.iload_n 1, 0, 0) := by decide +kernel
theorem vr_209_4 : zrx 209 4 = some (.iload_n 2, 0, 0) := by decide +kernel
theorem vr_209_5 : zrx 209 5 = some (.iload_n 3, 0, 0) := by decide +kernel
theorem vr_209_6 : zrx 209 6 = some (.invokevirtual 23, 58, 140) := by decide +kernel
theorem vr_209_9 : zrx 209 9 = some (.i2l, 0, 0) := by decide +kernel
theorem vr_209_10 : zrx 209 10 = some (.putfield 13, 14, 1000) := by decide +kernel
theorem vr_209_13 : zrx 209 13 = some (.goto 11, 0, 0) := by decide +kernel
theorem vr_209_16 : zrx 209 16 = some (.astore 5, 0, 0) := by decide +kernel
theorem vr_209_18 : zrx 209 18 = some (.iconst 1, 0, 0) := by decide +kernel
theorem vr_209_19 : zrx 209 19 = some (.ireturn, 0, 0) := by decide +kernel
theorem vr_209_20 : zrx 209 20 = some (.astore 5, 0, 0) := by decide +kernel
theorem vr_209_22 : zrx 209 22 = some (.iconst 2, 0, 0) := by decide +kernel
theorem vr_209_23 : zrx 209 23 = some (.ireturn, 0, 0) := by decide +kernel
theorem vr_209_24 : zrx 209 24 = some (.iconst 0, 0, 0) := by decide +kernel
theorem vr_209_25 : zrx 209 25 = some (.ireturn, 0, 0) := by decide +kernel
theorem vr_227_0 : zrx 227 0 = some (.aload_n 3, 0, 0) := by decide +kernel
theorem vr_227_1 : zrx 227 1 = some (.aload_n 0, 0, 0) := by decide +kernel
theorem vr_227_2 : zrx 227 2 = some (.iload_n 1, 0, 0) := by decide +kernel
theorem vr_227_3 : zrx 227 3 = some (.iload_n 2, 0, 0) := by decide +kernel
theorem vr_227_4 : zrx 227 4 = some (.invokevirtual 84, 77, 140) := by decide +kernel
theorem vr_227_7 : zrx 227 7 = some (.i2l, 0, 0) := by decide +kernel
theorem vr_227_8 : zrx 227 8 = some (.putfield 13, 14, 1000) := by decide +kernel
theorem vr_227_11 : zrx 227 11 = some (.goto 7, 0, 0) := by decide +kernel
theorem vr_227_14 : zrx 227 14 = some (.astore 4, 0, 0) := by decide +kernel
theorem vr_227_16 : zrx 227 16 = some (.iconst 1, 0, 0) := by decide +kernel
theorem vr_227_17 : zrx 227 17 = some (.ireturn, 0, 0) := by decide +kernel
theorem vr_227_18 : zrx 227 18 = some (.iconst 0, 0, 0) := by decide +kernel
theorem vr_227_19 : zrx 227 19 = some (.ireturn, 0, 0) := by decide +kernel
theorem vh_58_3_0 : zHit (zi 58) 3 0 = none := by decide +kernel
theorem vh_58_9_1 : zHit (zi 58) 9 1 = none := by decide +kernel
theorem vh_58_15_1 : zHit (zi 58) 15 1 = none := by decide +kernel
theorem vh_77_3_0 : zHit (zi 77) 3 0 = none := by decide +kernel
theorem vh_77_9_0 : zHit (zi 77) 9 0 = none := by decide +kernel
theorem vh_209_6_0 : (zHit (zi 209) 6 0).map (fun r => r.2.2.1) = some 16 := by decide +kernel
theorem vh_209_6_1 : (zHit (zi 209) 6 1).map (fun r => r.2.2.1) = some 20 := by decide +kernel
theorem vh_227_4_0 : (zHit (zi 227) 4 0).map (fun r => r.2.2.1) = some 14 := by decide +kernel
theorem C_swap (n : Nat) (p a b : Int32) (h : List zC) (u : Nat) (hS : Stc h) : zL zrx zi n 58 0 [(0, .ref 16), (1, .int p), (2, .int a), (3, .int b)] [] h u (fun o h2 _ => match o with
  | .inl v => (iN 6 p ∧ iN 6 a ∧ iN 6 b) ∧ ∃ r, v = some r ∧ wSw h h2 (19 + p.toNatClampNeg) a.toNatClampNeg b.toNatClampNeg r
  | .inr E => hExt h h2 ∧ ((E = 0 ∧ ¬ iN 6 p) ∨ (E = 1 ∧ iN 6 p ∧ ¬ (iN 6 a ∧ iN 6 b)))) := by
  refine zSiload (m := 1) (k := 1) vr_58_0 rfl rfl rfl (fun x40 e40 => ?_)
  cases e40
  refine zSp0 (pc' := 3) (st' := .int (6) :: _) vr_58_1 rfl rfl ?_
  refine zScall vr_58_3 rfl rfl rfl (fun m42 _ => C_num6 _ _ _ _ (m := 6) (by rfl)) (fun v42 h42 u42 q42 => ?_) (fun E42 h42 u42 q42 => ?_)
  · obtain ⟨eh42, rfl, ip⟩ := q42
    replace eh42 := eh42.symm
    subst eh42
    show zL zrx zi _ 58 6 [(0, _), (1, _), (2, _), (3, _)] [] _ _ _
    refine zSiload (m := 1) (k := 2) vr_58_6 rfl rfl rfl (fun x43 e43 => ?_)
    cases e43
    refine zSp0 (pc' := 8) (st' := .int (0) :: _) vr_58_7 rfl rfl ?_
    refine zSp0 (pc' := 9) (st' := .int (5) :: _) vr_58_8 rfl rfl ?_
    refine zScall vr_58_9 rfl rfl rfl (fun m46 _ => C_val _ _ _ _ _ _) (fun v46 h46 u46 q46 => ?_) (fun E46 h46 u46 q46 => ?_)
    · obtain ⟨eh46, rfl, k46⟩ := q46
      replace eh46 := eh46.symm
      subst eh46
      have ia : iN 6 a := ⟨by have := k46.1; have z0 : (0 : Int32).toInt = 0 := rfl; omega, by have := k46.2; have z5 : (5 : Int32).toInt = 5 := rfl; omega⟩
      show zL zrx zi _ 58 12 [(0, _), (1, _), (2, _), (3, _)] [] _ _ _
      refine zSiload (m := 1) (k := 3) vr_58_12 rfl rfl rfl (fun x47 e47 => ?_)
      cases e47
      refine zSp0 (pc' := 14) (st' := .int (0) :: _) vr_58_13 rfl rfl ?_
      refine zSp0 (pc' := 15) (st' := .int (5) :: _) vr_58_14 rfl rfl ?_
      refine zScall vr_58_15 rfl rfl rfl (fun m50 _ => C_val _ _ _ _ _ _) (fun v50 h50 u50 q50 => ?_) (fun E50 h50 u50 q50 => ?_)
      · obtain ⟨eh50, rfl, k50⟩ := q50
        replace eh50 := eh50.symm
        subst eh50
        have ib : iN 6 b := ⟨by have := k50.1; have z0 : (0 : Int32).toInt = 0 := rfl; omega, by have := k50.2; have z5 : (5 : Int32).toInt = 5 := rfl; omega⟩
        show zL zrx zi _ 58 18 [(0, _), (1, _), (2, _), (3, _)] [] _ _ _
        have hp := iN_lt (m := 6) ip
        have ha := iN_lt (m := 6) ia
        have hb := iN_lt (m := 6) ib
        refine zSaload (m := 1) (k := 0) vr_58_18 rfl rfl rfl ?_
        refine zLget vr_58_19 rfl (fun p52 w52 e52 t52 g52 => ?_)
        cases e52
        first | (rw [(st_16_5 hS)] at g52; cases g52) | (rw [(st_row hS hp)] at g52; cases g52) | skip
        refine zSiload (m := 1) (k := 1) vr_58_22 rfl rfl rfl (fun x53 e53 => ?_)
        cases e53
        refine zLaald vr_58_23 rfl (fun p54 x54 w54 e54 f54 c54 t54 g54 => ?_)
        cases e54
        cases f54
        first | (rw [(st_16_5 hS)] at g54; cases g54) | (rw [(st_row hS hp)] at g54; cases g54) | skip
        refine zSiload (m := 1) (k := 2) vr_58_24 rfl rfl rfl (fun x55 e55 => ?_)
        cases e55
        refine zLiald vr_58_25 rfl (fun p56 x56 w56 e56 f56 c56 t56 g56 => ?_)
        cases e56
        cases f56
        first | (rw [(st_16_5 hS)] at g56; cases g56) | (rw [(st_row hS hp)] at g56; cases g56) | skip
        have w1 := g56
        refine zSistore (m := 2) (k := 4) vr_58_26 rfl rfl (fun x57 e57 => ?_)
        cases e57
        show zL zrx zi _ 58 28 [(4, _), (0, _), (1, _), (2, _), (3, _)] [] _ _ _
        refine zSaload (m := 1) (k := 0) vr_58_28 rfl rfl rfl ?_
        refine zLget vr_58_29 rfl (fun p59 w59 e59 t59 g59 => ?_)
        cases e59
        first | (rw [(st_16_5 hS)] at g59; cases g59) | (rw [(st_row hS hp)] at g59; cases g59) | skip
        refine zSiload (m := 1) (k := 1) vr_58_32 rfl rfl rfl (fun x60 e60 => ?_)
        cases e60
        refine zLaald vr_58_33 rfl (fun p61 x61 w61 e61 f61 c61 t61 g61 => ?_)
        cases e61
        cases f61
        first | (rw [(st_16_5 hS)] at g61; cases g61) | (rw [(st_row hS hp)] at g61; cases g61) | skip
        refine zSiload (m := 1) (k := 2) vr_58_34 rfl rfl rfl (fun x62 e62 => ?_)
        cases e62
        refine zSaload (m := 1) (k := 0) vr_58_35 rfl rfl rfl ?_
        refine zLget vr_58_36 rfl (fun p64 w64 e64 t64 g64 => ?_)
        cases e64
        first | (rw [(st_16_5 hS)] at g64; cases g64) | (rw [(st_row hS hp)] at g64; cases g64) | skip
        refine zSiload (m := 1) (k := 1) vr_58_39 rfl rfl rfl (fun x65 e65 => ?_)
        cases e65
        refine zLaald vr_58_40 rfl (fun p66 x66 w66 e66 f66 c66 t66 g66 => ?_)
        cases e66
        cases f66
        first | (rw [(st_16_5 hS)] at g66; cases g66) | (rw [(st_row hS hp)] at g66; cases g66) | skip
        refine zSiload (m := 1) (k := 3) vr_58_41 rfl rfl rfl (fun x67 e67 => ?_)
        cases e67
        refine zLiald vr_58_42 rfl (fun p68 x68 w68 e68 f68 c68 t68 g68 => ?_)
        cases e68
        cases f68
        first | (rw [(st_16_5 hS)] at g68; cases g68) | (rw [(st_row hS hp)] at g68; cases g68) | skip
        have w2 := g68
        refine zLiast vr_58_43 rfl (fun p69 x69 z69 k69 e69 f69 d69 c69 t69 g69 => ?_)
        cases e69
        cases f69
        cases d69
        have hS1 := hS.row hp g69
        have p1 := g69
        refine zSaload (m := 1) (k := 0) vr_58_44 rfl rfl rfl ?_
        refine zLget vr_58_45 rfl (fun p71 w71 e71 t71 g71 => ?_)
        cases e71
        first | (rw [(st_16_5 hS1)] at g71; cases g71) | (rw [(st_row hS1 hp)] at g71; cases g71) | skip
        refine zSiload (m := 1) (k := 1) vr_58_48 rfl rfl rfl (fun x72 e72 => ?_)
        cases e72
        refine zLaald vr_58_49 rfl (fun p73 x73 w73 e73 f73 c73 t73 g73 => ?_)
        cases e73
        cases f73
        first | (rw [(st_16_5 hS1)] at g73; cases g73) | (rw [(st_row hS1 hp)] at g73; cases g73) | skip
        refine zSiload (m := 1) (k := 3) vr_58_50 rfl rfl rfl (fun x74 e74 => ?_)
        cases e74
        refine zSiload (m := 2) (k := 4) vr_58_51 rfl rfl rfl (fun x75 e75 => ?_)
        cases e75
        refine zLiast vr_58_53 rfl (fun p76 x76 z76 k76 e76 f76 d76 c76 t76 g76 => ?_)
        cases e76
        cases f76
        cases d76
        have hS2 := hS1.row hp g76
        have p2 := g76
        refine zSaload (m := 1) (k := 0) vr_58_54 rfl rfl rfl ?_
        refine zLget vr_58_55 rfl (fun p78 w78 e78 t78 g78 => ?_)
        cases e78
        first | (rw [(st_16_5 hS2)] at g78; cases g78) | (rw [(st_row hS2 hp)] at g78; cases g78) | skip
        refine zSiload (m := 1) (k := 1) vr_58_58 rfl rfl rfl (fun x79 e79 => ?_)
        cases e79
        refine zLaald vr_58_59 rfl (fun p80 x80 w80 e80 f80 c80 t80 g80 => ?_)
        cases e80
        cases f80
        first | (rw [(st_16_5 hS2)] at g80; cases g80) | (rw [(st_row hS2 hp)] at g80; cases g80) | skip
        refine zSiload (m := 1) (k := 2) vr_58_60 rfl rfl rfl (fun x81 e81 => ?_)
        cases e81
        refine zLiald vr_58_61 rfl (fun p82 x82 w82 e82 f82 c82 t82 g82 => ?_)
        cases e82
        cases f82
        first | (rw [(st_16_5 hS2)] at g82; cases g82) | (rw [(st_row hS2 hp)] at g82; cases g82) | skip
        have w3 := g82
        refine zLiret vr_58_62 rfl (fun x83 e83 => ?_)
        cases e83
        exact ⟨⟨ip, ia, ib⟩, _, rfl, _, _, _, _, w1, w2, p1, p2, w3, rfl⟩
      · obtain ⟨rfl, q1, q2⟩ := q50
        rw [zCat_no vh_58_15_1]
        have z5 : (5 : Int32).toInt = 5 := rfl
        have z0 : (0 : Int32).toInt = 0 := rfl
        refine ⟨q2, Or.inr ⟨rfl, ip, fun z => q1 ?_⟩⟩
        obtain ⟨⟨y1, y2⟩, y3, y4⟩ := z
        constructor <;> omega
    · obtain ⟨rfl, q1, q2⟩ := q46
      rw [zCat_no vh_58_9_1]
      have z5 : (5 : Int32).toInt = 5 := rfl
      have z0 : (0 : Int32).toInt = 0 := rfl
      refine ⟨q2, Or.inr ⟨rfl, ip, fun z => q1 ?_⟩⟩
      obtain ⟨⟨y1, y2⟩, y3, y4⟩ := z
      constructor <;> omega
  · obtain ⟨rfl, q1, q2⟩ := q42
    rw [zCat_no vh_58_3_0]
    exact ⟨q2, Or.inl ⟨rfl, q1⟩⟩
abbrev Q_Lswap (p a b : Int32) (h : List zC) : zK := fun o h2 _ => ∃ k : Int32, o = .inl (some (.int k)) ∧
  ((k = 0 ∧ (iN 6 p ∧ iN 6 a ∧ iN 6 b) ∧ ∃ (r : Int32) (h1 : List zC), wSw h h1 (19 + p.toNatClampNeg) a.toNatClampNeg b.toNatClampNeg (.int r) ∧ hPut h1 h2 238 0 (.long r.toInt64)) ∨ (k = 1 ∧ ¬ iN 6 p ∧ hExt h h2) ∨ (k = 2 ∧ iN 6 p ∧ ¬ (iN 6 a ∧ iN 6 b) ∧ hExt h h2))
theorem C_Lswap (n : Nat) (p a b : Int32) (h : List zC) (u : Nat) (hS : Stc h) : zL zrx zi n 209 0 [(0, .ref 16), (1, .int p), (2, .int a), (3, .int b), (4, .ref 238)] [] h u (Q_Lswap p a b h) := by
  refine zSaload (m := 2) (k := 4) vr_209_0 rfl rfl rfl ?_
  refine zSaload (m := 1) (k := 0) vr_209_2 rfl rfl rfl ?_
  refine zSiload (m := 1) (k := 1) vr_209_3 rfl rfl rfl (fun x86 e86 => ?_)
  cases e86
  refine zSiload (m := 1) (k := 2) vr_209_4 rfl rfl rfl (fun x87 e87 => ?_)
  cases e87
  refine zSiload (m := 1) (k := 3) vr_209_5 rfl rfl rfl (fun x88 e88 => ?_)
  cases e88
  refine zScall vr_209_6 rfl rfl rfl (fun m89 _ => C_swap _ _ _ _ _ _ hS) (fun v89 h89 u89 q89 => ?_) (fun E89 h89 u89 q89 => ?_)
  · obtain ⟨k1, r89, rfl, k2⟩ := q89
    show zL zrx zi _ 209 9 [(0, _), (1, _), (2, _), (3, _), (4, _)] [_, _] _ _ _
    refine zS1 (f := fun x => .long x.toInt64) vr_209_9 rfl rfl (fun x90 e90 => ?_)
    cases e90
    refine zLput vr_209_10 rfl (fun p91 k91 e91 t91 g91 => ?_)
    cases e91
    have gP := g91
    refine zSgo (t := 24) vr_209_13 rfl rfl ?_
    refine zSp0 (pc' := 25) (st' := .int (0) :: _) vr_209_24 rfl rfl ?_
    refine zLiret vr_209_25 rfl (fun x94 e94 => ?_)
    cases e94
    exact ⟨_, rfl, Or.inl ⟨rfl, k1, _, _, k2, gP⟩⟩
  · obtain ⟨q1, ⟨rfl, z⟩ | ⟨rfl, z⟩⟩ := q89
    · rw [zCat_hit (k := 5) (m := 2) vh_209_6_0 vr_209_16 rfl (by decide)]
      show zL zrx zi _ 209 18 [(0, _), (1, _), (2, _), (3, _), (4, _)] [] _ _ _
      refine zSp0 (pc' := 19) (st' := .int (1) :: _) vr_209_18 rfl rfl ?_
      refine zLiret vr_209_19 rfl (fun x96 e96 => ?_)
      cases e96
      exact ⟨_, rfl, Or.inr (Or.inl ⟨rfl, z, q1⟩)⟩
    · rw [zCat_hit (k := 5) (m := 2) vh_209_6_1 vr_209_20 rfl (by decide)]
      show zL zrx zi _ 209 22 [(0, _), (1, _), (2, _), (3, _), (4, _)] [] _ _ _
      refine zSp0 (pc' := 23) (st' := .int (2) :: _) vr_209_22 rfl rfl ?_
      refine zLiret vr_209_23 rfl (fun x98 e98 => ?_)
      cases e98
      exact ⟨_, rfl, Or.inr (Or.inr ⟨rfl, z.1, z.2, q1⟩)⟩
abbrev Q_mswap (p a b : Int32) (h : List zC) : zK := fun o h2 _ => ∃ (r : Int32) (h0 : List zC), o = .inl (some (.int r)) ∧ hPut h h0 213 0 (.int 0) ∧
  (((iN 6 p ∧ iN 6 a ∧ iN 6 b) ∧ wSw h0 h2 (216 + p.toNatClampNeg) a.toNatClampNeg b.toNatClampNeg (.int r)) ∨ (¬ iN 6 p ∧ hPut h0 h2 213 0 (.int 1)) ∨ (iN 6 p ∧ ¬ (iN 6 a ∧ iN 6 b) ∧ hPut h0 h2 213 0 (.int 2)))
theorem C_mswap (n : Nat) (p a b : Int32) (h : List zC) (u : Nat) (hS : Stc h) : zL zrx zi n 151 0 [(0, .ref 213), (1, .int p), (2, .int a), (3, .int b)] [] h u (Q_mswap p a b h) := by
  refine zSaload (m := 1) (k := 0) vr_151_0 rfl rfl rfl ?_
  refine zSp0 (pc' := 2) (st' := .int (0) :: _) vr_151_1 rfl rfl ?_
  refine zLput vr_151_2 rfl (fun p101 k101 e101 t101 g101 => ?_)
  cases e101
  have t0 := g101
  have hS0 := hS.thr g101
  refine zSiload (m := 1) (k := 1) vr_151_5 rfl rfl rfl (fun x102 e102 => ?_)
  cases e102
  refine zSp0 (pc' := 7) (st' := .int (0) :: _) vr_151_6 rfl rfl ?_
  refine zSp0 (pc' := 8) (st' := .int (5) :: _) vr_151_7 rfl rfl ?_
  refine zScall vr_151_8 rfl rfl rfl (fun m105 _ => C_in _ _ _ _ _ _) (fun v105 h105 u105 q105 => ?_) (fun E105 h105 u105 q105 => ?_)
  · obtain ⟨eh105, z105⟩ := q105
    replace eh105 := eh105.symm
    subst eh105
    cases z105
    show zL zrx zi _ 151 11 [(0, _), (1, _), (2, _), (3, _)] [_] _ _ _
    refine zSb1 (f := fun x => decide (¬ x = 0)) (off := 9) (t := 20) vr_151_11 rfl rfl rfl (fun x106 e106 q106 => ?_) (fun x106 e106 q106 => ?_)
    · cases e106
      refine zSiload (m := 1) (k := 2) vr_151_20 rfl rfl rfl (fun x107 e107 => ?_)
      cases e107
      refine zSp0 (pc' := 22) (st' := .int (0) :: _) vr_151_21 rfl rfl ?_
      refine zSp0 (pc' := 23) (st' := .int (5) :: _) vr_151_22 rfl rfl ?_
      refine zScall vr_151_23 rfl rfl rfl (fun m110 _ => C_in _ _ _ _ _ _) (fun v110 h110 u110 q110 => ?_) (fun E110 h110 u110 q110 => ?_)
      · obtain ⟨eh110, z110⟩ := q110
        replace eh110 := eh110.symm
        subst eh110
        cases z110
        show zL zrx zi _ 151 26 [(0, _), (1, _), (2, _), (3, _)] [_] _ _ _
        refine zSb1 (f := fun x => decide (x = 0)) (off := 12) (t := 38) vr_151_26 rfl rfl rfl (fun x111 e111 q111 => ?_) (fun x111 e111 q111 => ?_)
        · cases e111
          refine zSaload (m := 1) (k := 0) vr_151_38 rfl rfl rfl ?_
          refine zSp0 (pc' := 40) (st' := .int (2) :: _) vr_151_39 rfl rfl ?_
          refine zScall vr_151_40 rfl rfl rfl (fun m114 _ => C_no _ _ _ _ _) (fun v114 h114 u114 q114 => ?_) (fun E114 h114 u114 q114 => ?_)
          · obtain ⟨gn114, z114⟩ := q114
            cases z114
            show zL zrx zi _ 151 43 [(0, _), (1, _), (2, _), (3, _)] [_] _ _ _
            refine zLiret vr_151_43 rfl (fun x115 e115 => ?_)
            cases e115
            first
              | exact ⟨_, _, rfl, t0, Or.inr (Or.inr ⟨in6_y (of_decide_eq_true q106), fun z => in6_n (of_decide_eq_true q111) z.1, gn114⟩)⟩
              | exact ⟨_, _, rfl, t0, Or.inr (Or.inr ⟨in6_y (of_decide_eq_true q106), fun z => in6_n (by simpa using q63) z.2, gn114⟩)⟩
          · obtain ⟨-, z⟩ := q114
            cases z
        · cases e111
          refine zSiload (m := 1) (k := 3) vr_151_29 rfl rfl rfl (fun x116 e116 => ?_)
          cases e116
          refine zSp0 (pc' := 31) (st' := .int (0) :: _) vr_151_30 rfl rfl ?_
          refine zSp0 (pc' := 32) (st' := .int (5) :: _) vr_151_31 rfl rfl ?_
          refine zScall vr_151_32 rfl rfl rfl (fun m119 _ => C_in _ _ _ _ _ _) (fun v119 h119 u119 q119 => ?_) (fun E119 h119 u119 q119 => ?_)
          · obtain ⟨eh119, z119⟩ := q119
            replace eh119 := eh119.symm
            subst eh119
            cases z119
            show zL zrx zi _ 151 35 [(0, _), (1, _), (2, _), (3, _)] [_] _ _ _
            refine zSb1 (f := fun x => decide (¬ x = 0)) (off := 9) (t := 44) vr_151_35 rfl rfl rfl (fun x120 e120 q120 => ?_) (fun x120 e120 q120 => ?_)
            · cases e120
              have ip := in6_y (of_decide_eq_true q106)
              have ia := in6_y (x := a) (by simpa using q111)
              have ib := in6_y (of_decide_eq_true q120)
              have hp := iN_lt (m := 6) ip
              have ha := iN_lt (m := 6) ia
              have hb := iN_lt (m := 6) ib
              refine zSaload (m := 1) (k := 0) vr_151_44 rfl rfl rfl ?_
              refine zLget vr_151_45 rfl (fun p122 w122 e122 t122 g122 => ?_)
              cases e122
              first | (rw [(st_213_5 hS0)] at g122; cases g122) | (rw [(st_mrow hS0 hp)] at g122; cases g122) | skip
              refine zSiload (m := 1) (k := 1) vr_151_48 rfl rfl rfl (fun x123 e123 => ?_)
              cases e123
              refine zLaald vr_151_49 rfl (fun p124 x124 w124 e124 f124 c124 t124 g124 => ?_)
              cases e124
              cases f124
              first | (rw [(st_213_5 hS0)] at g124; cases g124) | (rw [(st_mrow hS0 hp)] at g124; cases g124) | skip
              refine zSiload (m := 1) (k := 2) vr_151_50 rfl rfl rfl (fun x125 e125 => ?_)
              cases e125
              refine zLiald vr_151_51 rfl (fun p126 x126 w126 e126 f126 c126 t126 g126 => ?_)
              cases e126
              cases f126
              first | (rw [(st_213_5 hS0)] at g126; cases g126) | (rw [(st_mrow hS0 hp)] at g126; cases g126) | skip
              have w1 := g126
              refine zSistore (m := 2) (k := 4) vr_151_52 rfl rfl (fun x127 e127 => ?_)
              cases e127
              show zL zrx zi _ 151 54 [(4, _), (0, _), (1, _), (2, _), (3, _)] [] _ _ _
              refine zSaload (m := 1) (k := 0) vr_151_54 rfl rfl rfl ?_
              refine zLget vr_151_55 rfl (fun p129 w129 e129 t129 g129 => ?_)
              cases e129
              first | (rw [(st_213_5 hS0)] at g129; cases g129) | (rw [(st_mrow hS0 hp)] at g129; cases g129) | skip
              refine zSiload (m := 1) (k := 1) vr_151_58 rfl rfl rfl (fun x130 e130 => ?_)
              cases e130
              refine zLaald vr_151_59 rfl (fun p131 x131 w131 e131 f131 c131 t131 g131 => ?_)
              cases e131
              cases f131
              first | (rw [(st_213_5 hS0)] at g131; cases g131) | (rw [(st_mrow hS0 hp)] at g131; cases g131) | skip
              refine zSiload (m := 1) (k := 2) vr_151_60 rfl rfl rfl (fun x132 e132 => ?_)
              cases e132
              refine zSaload (m := 1) (k := 0) vr_151_61 rfl rfl rfl ?_
              refine zLget vr_151_62 rfl (fun p134 w134 e134 t134 g134 => ?_)
              cases e134
              first | (rw [(st_213_5 hS0)] at g134; cases g134) | (rw [(st_mrow hS0 hp)] at g134; cases g134) | skip
              refine zSiload (m := 1) (k := 1) vr_151_65 rfl rfl rfl (fun x135 e135 => ?_)
              cases e135
              refine zLaald vr_151_66 rfl (fun p136 x136 w136 e136 f136 c136 t136 g136 => ?_)
              cases e136
              cases f136
              first | (rw [(st_213_5 hS0)] at g136; cases g136) | (rw [(st_mrow hS0 hp)] at g136; cases g136) | skip
              refine zSiload (m := 1) (k := 3) vr_151_67 rfl rfl rfl (fun x137 e137 => ?_)
              cases e137
              refine zLiald vr_151_68 rfl (fun p138 x138 w138 e138 f138 c138 t138 g138 => ?_)
              cases e138
              cases f138
              first | (rw [(st_213_5 hS0)] at g138; cases g138) | (rw [(st_mrow hS0 hp)] at g138; cases g138) | skip
              have w2 := g138
              refine zLiast vr_151_69 rfl (fun p139 x139 z139 k139 e139 f139 d139 c139 t139 g139 => ?_)
              cases e139
              cases f139
              cases d139
              have hS1 := hS0.mrow hp g139
              have p1 := g139
              refine zSaload (m := 1) (k := 0) vr_151_70 rfl rfl rfl ?_
              refine zLget vr_151_71 rfl (fun p141 w141 e141 t141 g141 => ?_)
              cases e141
              first | (rw [(st_213_5 hS1)] at g141; cases g141) | (rw [(st_mrow hS1 hp)] at g141; cases g141) | skip
              refine zSiload (m := 1) (k := 1) vr_151_74 rfl rfl rfl (fun x142 e142 => ?_)
              cases e142
              refine zLaald vr_151_75 rfl (fun p143 x143 w143 e143 f143 c143 t143 g143 => ?_)
              cases e143
              cases f143
              first | (rw [(st_213_5 hS1)] at g143; cases g143) | (rw [(st_mrow hS1 hp)] at g143; cases g143) | skip
              refine zSiload (m := 1) (k := 3) vr_151_76 rfl rfl rfl (fun x144 e144 => ?_)
              cases e144
              refine zSiload (m := 2) (k := 4) vr_151_77 rfl rfl rfl (fun x145 e145 => ?_)
              cases e145
              refine zLiast vr_151_79 rfl (fun p146 x146 z146 k146 e146 f146 d146 c146 t146 g146 => ?_)
              cases e146
              cases f146
              cases d146
              have hS2 := hS1.mrow hp g146
              have p2 := g146
              refine zSaload (m := 1) (k := 0) vr_151_80 rfl rfl rfl ?_
              refine zLget vr_151_81 rfl (fun p148 w148 e148 t148 g148 => ?_)
              cases e148
              first | (rw [(st_213_5 hS2)] at g148; cases g148) | (rw [(st_mrow hS2 hp)] at g148; cases g148) | skip
              refine zSiload (m := 1) (k := 1) vr_151_84 rfl rfl rfl (fun x149 e149 => ?_)
              cases e149
              refine zLaald vr_151_85 rfl (fun p150 x150 w150 e150 f150 c150 t150 g150 => ?_)
              cases e150
              cases f150
              first | (rw [(st_213_5 hS2)] at g150; cases g150) | (rw [(st_mrow hS2 hp)] at g150; cases g150) | skip
              refine zSiload (m := 1) (k := 2) vr_151_86 rfl rfl rfl (fun x151 e151 => ?_)
              cases e151
              refine zLiald vr_151_87 rfl (fun p152 x152 w152 e152 f152 c152 t152 g152 => ?_)
              cases e152
              cases f152
              first | (rw [(st_213_5 hS2)] at g152; cases g152) | (rw [(st_mrow hS2 hp)] at g152; cases g152) | skip
              have w3 := g152
              refine zLiret vr_151_88 rfl (fun x153 e153 => ?_)
              cases e153
              exact ⟨_, _, rfl, t0, Or.inl ⟨⟨ip, ia, ib⟩, _, _, _, _, w1, w2, p1, p2, w3, rfl⟩⟩
            · cases e120
              refine zSaload (m := 1) (k := 0) vr_151_38 rfl rfl rfl ?_
              refine zSp0 (pc' := 40) (st' := .int (2) :: _) vr_151_39 rfl rfl ?_
              refine zScall vr_151_40 rfl rfl rfl (fun m156 _ => C_no _ _ _ _ _) (fun v156 h156 u156 q156 => ?_) (fun E156 h156 u156 q156 => ?_)
              · obtain ⟨gn156, z156⟩ := q156
                cases z156
                show zL zrx zi _ 151 43 [(0, _), (1, _), (2, _), (3, _)] [_] _ _ _
                refine zLiret vr_151_43 rfl (fun x157 e157 => ?_)
                cases e157
                first
                  | exact ⟨_, _, rfl, t0, Or.inr (Or.inr ⟨in6_y (of_decide_eq_true q106), fun z => in6_n (of_decide_eq_true q111) z.1, gn156⟩)⟩
                  | exact ⟨_, _, rfl, t0, Or.inr (Or.inr ⟨in6_y (of_decide_eq_true q106), fun z => in6_n (by simpa using q120) z.2, gn156⟩)⟩
              · obtain ⟨-, z⟩ := q156
                cases z
          · obtain ⟨-, z⟩ := q119
            cases z
      · obtain ⟨-, z⟩ := q110
        cases z
    · cases e106
      refine zSaload (m := 1) (k := 0) vr_151_14 rfl rfl rfl ?_
      refine zSp0 (pc' := 16) (st' := .int (1) :: _) vr_151_15 rfl rfl ?_
      refine zScall vr_151_16 rfl rfl rfl (fun m160 _ => C_no _ _ _ _ _) (fun v160 h160 u160 q160 => ?_) (fun E160 h160 u160 q160 => ?_)
      · obtain ⟨gn160, z160⟩ := q160
        cases z160
        show zL zrx zi _ 151 19 [(0, _), (1, _), (2, _), (3, _)] [_] _ _ _
        refine zLiret vr_151_19 rfl (fun x161 e161 => ?_)
        cases e161
        exact ⟨_, _, rfl, t0, Or.inr (Or.inl ⟨in6_n (by simpa using q106), gn160⟩)⟩
      · obtain ⟨-, z⟩ := q160
        cases z
  · obtain ⟨-, z⟩ := q105
    cases z
theorem C_means (n : Nat) (p a : Int32) (h : List zC) (u : Nat) (hS : Stc h) : zL zrx zi n 77 0 [(0, .ref 16), (1, .int p), (2, .int a)] [] h u (fun o h2 _ => match o with
  | .inl v => h2 = h ∧ (iN 6 p ∧ iN 6 a) ∧ ∃ x : Int32, v = some (.int x) ∧ gF h (19 + p.toNatClampNeg) a.toNatClampNeg = some (.int x)
  | .inr E => hExt h h2 ∧ E = 0 ∧ ¬ (iN 6 p ∧ iN 6 a)) := by
  refine zSiload (m := 1) (k := 1) vr_77_0 rfl rfl rfl (fun x162 e162 => ?_)
  cases e162
  refine zSp0 (pc' := 3) (st' := .int (6) :: _) vr_77_1 rfl rfl ?_
  refine zScall vr_77_3 rfl rfl rfl (fun m164 _ => C_num6 _ _ _ _ (m := 6) (by rfl)) (fun v164 h164 u164 q164 => ?_) (fun E164 h164 u164 q164 => ?_)
  · obtain ⟨eh164, rfl, ip⟩ := q164
    replace eh164 := eh164.symm
    subst eh164
    show zL zrx zi _ 77 6 [(0, _), (1, _), (2, _)] [] _ _ _
    refine zSiload (m := 1) (k := 2) vr_77_6 rfl rfl rfl (fun x165 e165 => ?_)
    cases e165
    refine zSp0 (pc' := 9) (st' := .int (6) :: _) vr_77_7 rfl rfl ?_
    refine zScall vr_77_9 rfl rfl rfl (fun m167 _ => C_num6 _ _ _ _ (m := 6) (by rfl)) (fun v167 h167 u167 q167 => ?_) (fun E167 h167 u167 q167 => ?_)
    · obtain ⟨eh167, rfl, ia⟩ := q167
      replace eh167 := eh167.symm
      subst eh167
      show zL zrx zi _ 77 12 [(0, _), (1, _), (2, _)] [] _ _ _
      have hp := iN_lt (m := 6) ip
      have ha := iN_lt (m := 6) ia
      refine zSaload (m := 1) (k := 0) vr_77_12 rfl rfl rfl ?_
      refine zLget vr_77_13 rfl (fun p169 w169 e169 t169 g169 => ?_)
      cases e169
      first | (rw [(st_16_5 hS)] at g169; cases g169) | (rw [(st_row hS hp)] at g169; cases g169) | skip
      refine zSiload (m := 1) (k := 1) vr_77_16 rfl rfl rfl (fun x170 e170 => ?_)
      cases e170
      refine zLaald vr_77_17 rfl (fun p171 x171 w171 e171 f171 c171 t171 g171 => ?_)
      cases e171
      cases f171
      first | (rw [(st_16_5 hS)] at g171; cases g171) | (rw [(st_row hS hp)] at g171; cases g171) | skip
      refine zSiload (m := 1) (k := 2) vr_77_18 rfl rfl rfl (fun x172 e172 => ?_)
      cases e172
      refine zLiald vr_77_19 rfl (fun p173 x173 w173 e173 f173 c173 t173 g173 => ?_)
      cases e173
      cases f173
      first | (rw [(st_16_5 hS)] at g173; cases g173) | (rw [(st_row hS hp)] at g173; cases g173) | skip
      have w1 := g173
      refine zLiret vr_77_20 rfl (fun x174 e174 => ?_)
      cases e174
      exact ⟨rfl, ⟨ip, ia⟩, _, rfl, w1⟩
    · obtain ⟨rfl, q1, q2⟩ := q167
      rw [zCat_no vh_77_9_0]
      exact ⟨q2, rfl, fun z => q1 z.2⟩
  · obtain ⟨rfl, q1, q2⟩ := q164
    rw [zCat_no vh_77_3_0]
    exact ⟨q2, rfl, fun z => q1 z.1⟩
abbrev Q_Lmeans (p a : Int32) (h : List zC) : zK := fun o h2 _ => ∃ k : Int32, o = .inl (some (.int k)) ∧
  ((k = 0 ∧ (iN 6 p ∧ iN 6 a) ∧ ∃ r : Int32, gF h (19 + p.toNatClampNeg) a.toNatClampNeg = some (.int r) ∧ hPut h h2 238 0 (.long r.toInt64)) ∨ (k = 1 ∧ ¬ (iN 6 p ∧ iN 6 a) ∧ hExt h h2))
theorem C_Lmeans (n : Nat) (p a : Int32) (h : List zC) (u : Nat) (hS : Stc h) : zL zrx zi n 227 0 [(0, .ref 16), (1, .int p), (2, .int a), (3, .ref 238)] [] h u (Q_Lmeans p a h) := by
  refine zSaload (m := 1) (k := 3) vr_227_0 rfl rfl rfl ?_
  refine zSaload (m := 1) (k := 0) vr_227_1 rfl rfl rfl ?_
  refine zSiload (m := 1) (k := 1) vr_227_2 rfl rfl rfl (fun x177 e177 => ?_)
  cases e177
  refine zSiload (m := 1) (k := 2) vr_227_3 rfl rfl rfl (fun x178 e178 => ?_)
  cases e178
  refine zScall vr_227_4 rfl rfl rfl (fun m179 _ => C_means _ _ _ _ _ hS) (fun v179 h179 u179 q179 => ?_) (fun E179 h179 u179 q179 => ?_)
  · obtain ⟨eh179, k1, r179, rfl, k2⟩ := q179
    replace eh179 := eh179.symm
    subst eh179
    show zL zrx zi _ 227 7 [(0, _), (1, _), (2, _), (3, _)] [_, _] _ _ _
    refine zS1 (f := fun x => .long x.toInt64) vr_227_7 rfl rfl (fun x180 e180 => ?_)
    cases e180
    refine zLput vr_227_8 rfl (fun p181 k181 e181 t181 g181 => ?_)
    cases e181
    have gP := g181
    refine zSgo (t := 18) vr_227_11 rfl rfl ?_
    refine zSp0 (pc' := 19) (st' := .int (0) :: _) vr_227_18 rfl rfl ?_
    refine zLiret vr_227_19 rfl (fun x184 e184 => ?_)
    cases e184
    exact ⟨_, rfl, Or.inl ⟨rfl, k1, _, k2, gP⟩⟩
  · obtain ⟨q1, rfl, z⟩ := q179
    rw [zCat_hit (k := 4) (m := 2) vh_227_4_0 vr_227_14 rfl (by decide)]
    show zL zrx zi _ 227 16 [(0, _), (1, _), (2, _), (3, _)] [] _ _ _
    refine zSp0 (pc' := 17) (st' := .int (1) :: _) vr_227_16 rfl rfl ?_
    refine zLiret vr_227_17 rfl (fun x186 e186 => ?_)
    cases e186
    exact ⟨_, rfl, Or.inr ⟨rfl, z, q1⟩⟩
abbrev Q_mmeans (p a : Int32) (h : List zC) : zK := fun o h2 _ => ∃ (r : Int32) (h0 : List zC), o = .inl (some (.int r)) ∧ hPut h h0 213 0 (.int 0) ∧
  (((iN 6 p ∧ iN 6 a) ∧ h2 = h0 ∧ gF h0 (216 + p.toNatClampNeg) a.toNatClampNeg = some (.int r)) ∨ (¬ (iN 6 p ∧ iN 6 a) ∧ hPut h0 h2 213 0 (.int 1)))
theorem C_mmeans (n : Nat) (p a : Int32) (h : List zC) (u : Nat) (hS : Stc h) : zL zrx zi n 178 0 [(0, .ref 213), (1, .int p), (2, .int a)] [] h u (Q_mmeans p a h) := by
  refine zSaload (m := 1) (k := 0) vr_178_0 rfl rfl rfl ?_
  refine zSp0 (pc' := 2) (st' := .int (0) :: _) vr_178_1 rfl rfl ?_
  refine zLput vr_178_2 rfl (fun p189 k189 e189 t189 g189 => ?_)
  cases e189
  have t0 := g189
  have hS0 := hS.thr g189
  refine zSiload (m := 1) (k := 1) vr_178_5 rfl rfl rfl (fun x190 e190 => ?_)
  cases e190
  refine zSp0 (pc' := 7) (st' := .int (0) :: _) vr_178_6 rfl rfl ?_
  refine zSp0 (pc' := 8) (st' := .int (5) :: _) vr_178_7 rfl rfl ?_
  refine zScall vr_178_8 rfl rfl rfl (fun m193 _ => C_in _ _ _ _ _ _) (fun v193 h193 u193 q193 => ?_) (fun E193 h193 u193 q193 => ?_)
  · obtain ⟨eh193, z193⟩ := q193
    replace eh193 := eh193.symm
    subst eh193
    cases z193
    show zL zrx zi _ 178 11 [(0, _), (1, _), (2, _)] [_] _ _ _
    refine zSb1 (f := fun x => decide (x = 0)) (off := 12) (t := 23) vr_178_11 rfl rfl rfl (fun x194 e194 q194 => ?_) (fun x194 e194 q194 => ?_)
    · cases e194
      refine zSaload (m := 1) (k := 0) vr_178_23 rfl rfl rfl ?_
      refine zSp0 (pc' := 25) (st' := .int (1) :: _) vr_178_24 rfl rfl ?_
      refine zScall vr_178_25 rfl rfl rfl (fun m197 _ => C_no _ _ _ _ _) (fun v197 h197 u197 q197 => ?_) (fun E197 h197 u197 q197 => ?_)
      · obtain ⟨gn197, z197⟩ := q197
        cases z197
        show zL zrx zi _ 178 28 [(0, _), (1, _), (2, _)] [_] _ _ _
        refine zLiret vr_178_28 rfl (fun x198 e198 => ?_)
        cases e198
        first
          | exact ⟨_, _, rfl, t0, Or.inr ⟨fun z => in6_n (of_decide_eq_true q194) z.1, gn197⟩⟩
          | exact ⟨_, _, rfl, t0, Or.inr ⟨fun z => in6_n (by simpa using q174) z.2, gn197⟩⟩
      · obtain ⟨-, z⟩ := q197
        cases z
    · cases e194
      refine zSiload (m := 1) (k := 2) vr_178_14 rfl rfl rfl (fun x199 e199 => ?_)
      cases e199
      refine zSp0 (pc' := 16) (st' := .int (0) :: _) vr_178_15 rfl rfl ?_
      refine zSp0 (pc' := 17) (st' := .int (5) :: _) vr_178_16 rfl rfl ?_
      refine zScall vr_178_17 rfl rfl rfl (fun m202 _ => C_in _ _ _ _ _ _) (fun v202 h202 u202 q202 => ?_) (fun E202 h202 u202 q202 => ?_)
      · obtain ⟨eh202, z202⟩ := q202
        replace eh202 := eh202.symm
        subst eh202
        cases z202
        show zL zrx zi _ 178 20 [(0, _), (1, _), (2, _)] [_] _ _ _
        refine zSb1 (f := fun x => decide (¬ x = 0)) (off := 9) (t := 29) vr_178_20 rfl rfl rfl (fun x203 e203 q203 => ?_) (fun x203 e203 q203 => ?_)
        · cases e203
          have ip := in6_y (x := p) (by simpa using q194)
          have ia := in6_y (of_decide_eq_true q203)
          have hp := iN_lt (m := 6) ip
          have ha := iN_lt (m := 6) ia
          refine zSaload (m := 1) (k := 0) vr_178_29 rfl rfl rfl ?_
          refine zLget vr_178_30 rfl (fun p205 w205 e205 t205 g205 => ?_)
          cases e205
          first | (rw [(st_213_5 hS0)] at g205; cases g205) | (rw [(st_mrow hS0 hp)] at g205; cases g205) | skip
          refine zSiload (m := 1) (k := 1) vr_178_33 rfl rfl rfl (fun x206 e206 => ?_)
          cases e206
          refine zLaald vr_178_34 rfl (fun p207 x207 w207 e207 f207 c207 t207 g207 => ?_)
          cases e207
          cases f207
          first | (rw [(st_213_5 hS0)] at g207; cases g207) | (rw [(st_mrow hS0 hp)] at g207; cases g207) | skip
          refine zSiload (m := 1) (k := 2) vr_178_35 rfl rfl rfl (fun x208 e208 => ?_)
          cases e208
          refine zLiald vr_178_36 rfl (fun p209 x209 w209 e209 f209 c209 t209 g209 => ?_)
          cases e209
          cases f209
          first | (rw [(st_213_5 hS0)] at g209; cases g209) | (rw [(st_mrow hS0 hp)] at g209; cases g209) | skip
          have w1 := g209
          refine zLiret vr_178_37 rfl (fun x210 e210 => ?_)
          cases e210
          exact ⟨_, _, rfl, t0, Or.inl ⟨⟨ip, ia⟩, rfl, w1⟩⟩
        · cases e203
          refine zSaload (m := 1) (k := 0) vr_178_23 rfl rfl rfl ?_
          refine zSp0 (pc' := 25) (st' := .int (1) :: _) vr_178_24 rfl rfl ?_
          refine zScall vr_178_25 rfl rfl rfl (fun m213 _ => C_no _ _ _ _ _) (fun v213 h213 u213 q213 => ?_) (fun E213 h213 u213 q213 => ?_)
          · obtain ⟨gn213, z213⟩ := q213
            cases z213
            show zL zrx zi _ 178 28 [(0, _), (1, _), (2, _)] [_] _ _ _
            refine zLiret vr_178_28 rfl (fun x214 e214 => ?_)
            cases e214
            first
              | exact ⟨_, _, rfl, t0, Or.inr ⟨fun z => in6_n (of_decide_eq_true q194) z.1, gn213⟩⟩
              | exact ⟨_, _, rfl, t0, Or.inr ⟨fun z => in6_n (by simpa using q203) z.2, gn213⟩⟩
          · obtain ⟨-, z⟩ := q213
            cases z
      · obtain ⟨-, z⟩ := q202
        cases z
  · obtain ⟨-, z⟩ := q193
    cases z
/-- the relation: the wordings are the same on both sides -/
def Rw (h : List zC) : Prop := ∀ i, i < 6 → ∀ j, j < 6 → gF h (19 + i) j = gF h (216 + i) j
/-- what does not touch the rows keeps it -/
theorem Rw.same {h h' : List zC} (hr : Rw h) (e : ∀ p k : Nat, (19 ≤ p ∧ p < 25) ∨ (216 ≤ p ∧ p < 222) → gF h' p k = gF h p k) : Rw h' := fun i hi j hj => by
  rw [e (19 + i) j (by omega), e (216 + i) j (by omega)]
  exact hr i hi j hj
theorem Rw.fr {Wr : List (Nat × Nat)} {ρ : List Nat} {h h' : List zC} (hr : Rw h) (hl : 239 ≤ h.length) (ro : Ro ρ) (hF : gFr Wr ρ h h') (hw : Wr.all (fun w => !(w.1 == 11) && !(w.1 == 43)) = true) : Rw h' := by
  have no : ∀ r k, r = 11 ∨ r = 43 → wIn Wr r k = false := fun r k hrk => by
    unfold wIn
    refine List.any_eq_false.mpr (fun w hm => ?_)
    have := List.all_eq_true.mp hw w hm
    simp only [Bool.and_eq_true, Bool.not_eq_true', beq_eq_false_iff_ne] at this
    have : ¬ w.1 = r := by omega
    simp [this]
  have r1 : ∀ i, i < 6 → rho0[19 + i]? = some 11 := by decide
  have r2 : ∀ i, i < 6 → rho0[216 + i]? = some 43 := by decide
  refine hr.same (fun p k hp => ?_)
  rcases hp with ⟨a, b⟩ | ⟨a, b⟩
  · exact gFr_F hF (ro _ _ (by have := r1 (p - 19) (by omega); rwa [show 19 + (p - 19) = p by omega] at this)) (no _ _ (Or.inl rfl)) (by omega)
  · exact gFr_F hF (ro _ _ (by have := r2 (p - 216) (by omega); rwa [show 216 + (p - 216) = p by omega] at this)) (no _ _ (Or.inr rfl)) (by omega)
theorem wSw_at {h h2 : List zC} {q a b : Nat} {r : Value} (w : wSw h h2 q a b r) : (∀ p k, gF h2 p k = if p = q ∧ k = b then gF h q a else if p = q ∧ k = a then gF h q b else gF h p k) ∧ gF h2 q a = some r := by
  obtain ⟨x, y, z, h1, e1, e2, p1, p2, e3, rfl⟩ := w
  refine ⟨fun p k => ?_, e3⟩
  rw [p2.2.1, p1.2.1, e1, e2]
/-- a swap on both sides -/
theorem sum_swap {h1 h2 h3 h5 : List zC} {u2 u5 : Nat} {p a b k r' : Int32} (hr : Rw h1) (hl : 239 ≤ h1.length) (V1 : Q_Lswap p a b h1 (.inl (some (.int k))) h2 u2) (E : ∀ p, p < 239 → ∀ k, gF h3 p k = gF h2 p k) (V2 : Q_mswap p a b h3 (.inl (some (.int r'))) h5 u5) :
    Rw h5 ∧ gF h5 213 0 = some (.int k) ∧ (k = 0 → gF h5 238 0 = some (.long r'.toInt64)) ∧ (k = 0 ∨ k = 1 ∨ k = 2) := by
  obtain ⟨k', e1, V1⟩ := V1
  cases e1
  obtain ⟨r, h4, e2, t0, V2⟩ := V2
  cases e2
  rcases V1 with ⟨rfl, ⟨ip, ia, ib⟩, rc, hc, w, po⟩ | ⟨rfl, ip, x⟩ | ⟨rfl, ip, iab, x⟩
  · rcases V2 with ⟨-, w'⟩ | ⟨n, -⟩ | ⟨-, n, -⟩
    · obtain ⟨c1, c2⟩ := wSw_at w
      obtain ⟨d1, d2⟩ := wSw_at w'
      have hp := iN_lt (m := 6) ip
      have ha := iN_lt (m := 6) ia
      have hb := iN_lt (m := 6) ib
      generalize p.toNatClampNeg = P at *
      generalize a.toNatClampNeg = A at *
      generalize b.toNatClampNeg = B at *
      have f4 : ∀ q k, q < 239 → ¬ q = 213 → ¬ q = 238 → gF h4 q k = gF hc q k := fun q k q1 q2 q3 => by
        rw [t0.2.1, if_neg (fun z => q2 z.1), E q q1, po.2.1, if_neg (fun z => q3 z.1)]
      have m4 : ∀ i j, i < 6 → gF h4 (216 + i) j = gF h1 (216 + i) j := fun i j hi => by
        rw [f4 _ _ (by omega) (by omega) (by omega), c1, if_neg (by omega), if_neg (by omega)]
      have key : Rw h5 := fun i hi j hj => by
        rw [d1 (19 + i) j, if_neg (by omega), if_neg (by omega), f4 _ _ (by omega) (by omega) (by omega), c1, d1 (216 + i) j, m4 P A hp, m4 P B hp, m4 i j hi, hr P hp A ha, hr P hp B hb, hr i hi j hj]
        have z : 19 + i = 19 + P ↔ 216 + i = 216 + P := by omega
        simp only [z]
      refine ⟨key, ?_, fun _ => ?_, Or.inl rfl⟩
      · rw [d1, if_neg (by omega), if_neg (by omega), t0.2.1, if_pos ⟨rfl, rfl⟩]
      · rw [d1, if_neg (by omega), if_neg (by omega), t0.2.1, if_neg (by omega), E _ (by omega), po.2.1, if_pos ⟨rfl, rfl⟩]
        have q : gF h5 (19 + P) A = some (.int rc) := by
          rw [d1, if_neg (by omega), if_neg (by omega), f4 _ _ (by omega) (by omega) (by omega)]
          exact c2
        rw [key P hp A ha, d2] at q
        cases q
        rfl
    · exact absurd ip n
    · exact absurd ⟨ia, ib⟩ n
  · rcases V2 with ⟨w', -⟩ | ⟨-, t1⟩ | ⟨w', -⟩
    · exact absurd w'.1 ip
    · refine ⟨hr.same (fun q k hq => ?_), ?_, fun z => (by cases z), Or.inr (Or.inl rfl)⟩
      · rw [t1.2.1, if_neg (by omega), t0.2.1, if_neg (by omega), E q (by omega), x.fld (by omega)]
      · rw [t1.2.1, if_pos ⟨rfl, rfl⟩]
    · exact absurd w' ip
  · rcases V2 with ⟨w', -⟩ | ⟨n, -⟩ | ⟨-, -, t1⟩
    · exact absurd w'.2 iab
    · exact absurd ip n
    · refine ⟨hr.same (fun q k hq => ?_), ?_, fun z => (by cases z), Or.inr (Or.inr rfl)⟩
      · rw [t1.2.1, if_neg (by omega), t0.2.1, if_neg (by omega), E q (by omega), x.fld (by omega)]
      · rw [t1.2.1, if_pos ⟨rfl, rfl⟩]
/-- the same is asked on both sides -/
theorem sum_means {h1 h2 h3 h5 : List zC} {u2 u5 : Nat} {p a k r' : Int32} (hr : Rw h1) (hl : 239 ≤ h1.length) (V1 : Q_Lmeans p a h1 (.inl (some (.int k))) h2 u2) (E : ∀ p, p < 239 → ∀ k, gF h3 p k = gF h2 p k) (V2 : Q_mmeans p a h3 (.inl (some (.int r'))) h5 u5) :
    Rw h5 ∧ gF h5 213 0 = some (.int k) ∧ (k = 0 → gF h5 238 0 = some (.long r'.toInt64)) ∧ (k = 0 ∨ k = 1 ∨ k = 2) := by
  obtain ⟨k', e1, V1⟩ := V1
  cases e1
  obtain ⟨r, h4, e2, t0, V2⟩ := V2
  cases e2
  rcases V1 with ⟨rfl, ⟨ip, ia⟩, rc, w, po⟩ | ⟨rfl, ip, x⟩
  · rcases V2 with ⟨-, e, w'⟩ | ⟨n, -⟩
    · subst e
      refine ⟨hr.same (fun q k hq => ?_), ?_, fun _ => ?_, Or.inl rfl⟩
      · rw [t0.2.1, if_neg (by omega), E q (by omega), po.2.1, if_neg (by omega)]
      · rw [t0.2.1, if_pos ⟨rfl, rfl⟩]
      · have hp := iN_lt (m := 6) ip
        have ha := iN_lt (m := 6) ia
        rw [t0.2.1, if_neg (by omega), E _ (by omega), po.2.1, if_pos ⟨rfl, rfl⟩]
        rw [t0.2.1, if_neg (by omega), E _ (by omega), po.2.1, if_neg (by omega), ← hr _ hp _ ha, w] at w'
        cases w'
        rfl
    · exact absurd ⟨ip, ia⟩ n
  · rcases V2 with ⟨w', -⟩ | ⟨-, t1⟩
    · exact absurd w' ip
    · refine ⟨hr.same (fun q k hq => ?_), ?_, fun z => (by cases z), Or.inr (Or.inl rfl)⟩
      · rw [t1.2.1, if_neg (by omega), t0.2.1, if_neg (by omega), E q (by omega), x.fld (by omega)]
      · rw [t1.2.1, if_pos ⟨rfl, rfl⟩]
