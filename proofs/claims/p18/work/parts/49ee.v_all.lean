/-! ===== values: all, 2 ===== -/
theorem vr_148_13 : zrx 148 13 = some (.aload_n 0, 0, 0) := by decide +kernel
theorem vr_148_14 : zrx 148 14 = some (.aload_n 0, 0, 0) := by decide +kernel
theorem vr_148_15 : zrx 148 15 = some (.bipush 109, 0, 0) := by decide +kernel
theorem vr_148_17 : zrx 148 17 = some (.invokevirtual 176, 143, 190) := by decide +kernel
theorem vr_148_20 : zrx 148 20 = some (.ifCond .ne 7, 0, 0) := by decide +kernel
theorem vr_148_23 : zrx 148 23 = some (.iconst 1, 0, 0) := by decide +kernel
theorem vr_148_24 : zrx 148 24 = some (.goto 4, 0, 0) := by decide +kernel
theorem vr_148_27 : zrx 148 27 = some (.iconst 0, 0, 0) := by decide +kernel
theorem vr_148_28 : zrx 148 28 = some (.putfield 164, 18, 17) := by decide +kernel
theorem vr_148_31 : zrx 148 31 = some (.aload_n 2, 0, 0) := by decide +kernel
theorem vr_148_32 : zrx 148 32 = some (.aload_n 0, 0, 0) := by decide +kernel
theorem vr_148_33 : zrx 148 33 = some (.iconst 4, 0, 0) := by decide +kernel
theorem vr_148_34 : zrx 148 34 = some (.invokevirtual 179, 145, 190) := by decide +kernel
theorem vr_148_37 : zrx 148 37 = some (.putfield 183, 15, 0) := by decide +kernel
theorem vr_148_40 : zrx 148 40 = some (.aload_n 0, 0, 0) := by decide +kernel
theorem vr_148_41 : zrx 148 41 = some (.dup, 0, 0) := by decide +kernel
theorem vr_148_42 : zrx 148 42 = some (.getfield 164, 18, 17) := by decide +kernel
theorem vr_148_45 : zrx 148 45 = some (.aload_n 0, 0, 0) := by decide +kernel
theorem vr_148_46 : zrx 148 46 = some (.bipush 99, 0, 0) := by decide +kernel
theorem vr_148_48 : zrx 148 48 = some (.invokevirtual 176, 143, 190) := by decide +kernel
theorem vr_148_51 : zrx 148 51 = some (.ifCond .ne 7, 0, 0) := by decide +kernel
theorem vr_148_54 : zrx 148 54 = some (.iconst 1, 0, 0) := by decide +kernel
theorem vr_148_55 : zrx 148 55 = some (.goto 4, 0, 0) := by decide +kernel
theorem vr_148_58 : zrx 148 58 = some (.iconst 0, 0, 0) := by decide +kernel
theorem vr_148_59 : zrx 148 59 = some (.ior, 0, 0) := by decide +kernel
theorem vr_148_60 : zrx 148 60 = some (.putfield 164, 18, 17) := by decide +kernel
theorem vr_148_63 : zrx 148 63 = some (.iconst (-1), 0, 0) := by decide +kernel
theorem vr_148_64 : zrx 148 64 = some (.istore_n 3, 0, 0) := by decide +kernel
theorem vr_148_65 : zrx 148 65 = some (.aload_n 0, 0, 0) := by decide +kernel
theorem vr_148_66 : zrx 148 66 = some (.getfield 164, 18, 17) := by decide +kernel
theorem vr_148_69 : zrx 148 69 = some (.ifCond .ne 64, 0, 0) := by decide +kernel
theorem vr_148_72 : zrx 148 72 = some (.aload_n 0, 0, 0) := by decide +kernel
theorem vr_148_73 : zrx 148 73 = some (.invokevirtual 160, 142, 190) := by decide +kernel
theorem vr_148_76 : zrx 148 76 = some (.invokestatic 168, 144, 0) := by decide +kernel
theorem vr_148_79 : zrx 148 79 = some (.ifCond .ne 8, 0, 0) := by decide +kernel
theorem vr_148_82 : zrx 148 82 = some (.iload_n 3, 0, 0) := by decide +kernel
theorem vr_148_83 : zrx 148 83 = some (.iconst (-1), 0, 0) := by decide +kernel
theorem vr_148_84 : zrx 148 84 = some (.if_icmp .ne 49, 0, 0) := by decide +kernel
theorem vr_148_87 : zrx 148 87 = some (.aload_n 0, 0, 0) := by decide +kernel
theorem vr_148_88 : zrx 148 88 = some (.iconst 4, 0, 0) := by decide +kernel
theorem vr_148_89 : zrx 148 89 = some (.invokevirtual 179, 145, 190) := by decide +kernel
theorem vr_148_92 : zrx 148 92 = some (.istore 4, 0, 0) := by decide +kernel
theorem vr_148_94 : zrx 148 94 = some (.aload_n 0, 0, 0) := by decide +kernel
theorem vr_148_95 : zrx 148 95 = some (.dup, 0, 0) := by decide +kernel
theorem vr_148_96 : zrx 148 96 = some (.getfield 164, 18, 17) := by decide +kernel
theorem vr_148_99 : zrx 148 99 = some (.iload 4, 0, 0) := by decide +kernel
theorem vr_148_101 : zrx 148 101 = some (.iload_n 3, 0, 0) := by decide +kernel
theorem vr_148_102 : zrx 148 102 = some (.if_icmp .gt 7, 0, 0) := by decide +kernel
theorem vr_148_105 : zrx 148 105 = some (.iconst 1, 0, 0) := by decide +kernel
theorem vr_148_106 : zrx 148 106 = some (.goto 4, 0, 0) := by decide +kernel
theorem vr_148_109 : zrx 148 109 = some (.iconst 0, 0, 0) := by decide +kernel
theorem vr_148_110 : zrx 148 110 = some (.ior, 0, 0) := by decide +kernel
theorem vr_148_111 : zrx 148 111 = some (.putfield 164, 18, 17) := by decide +kernel
theorem vr_148_114 : zrx 148 114 = some (.iload 4, 0, 0) := by decide +kernel
theorem vr_148_116 : zrx 148 116 = some (.istore_n 3, 0, 0) := by decide +kernel
theorem vr_148_117 : zrx 148 117 = some (.aload_n 2, 0, 0) := by decide +kernel
theorem vr_148_118 : zrx 148 118 = some (.dup, 0, 0) := by decide +kernel
theorem vr_148_119 : zrx 148 119 = some (.getfield 184, 15, 1) := by decide +kernel
theorem vr_148_122 : zrx 148 122 = some (.iconst 1, 0, 0) := by decide +kernel
theorem vr_148_123 : zrx 148 123 = some (.iload 4, 0, 0) := by decide +kernel
theorem vr_148_125 : zrx 148 125 = some (.ishl, 0, 0) := by decide +kernel
theorem vr_148_126 : zrx 148 126 = some (.ior, 0, 0) := by decide +kernel
theorem vr_148_127 : zrx 148 127 = some (.putfield 184, 15, 1) := by decide +kernel
theorem vr_148_130 : zrx 148 130 = some (.goto (-65), 0, 0) := by decide +kernel
theorem vr_148_133 : zrx 148 133 = some (.aload_n 0, 0, 0) := by decide +kernel
theorem vr_148_134 : zrx 148 134 = some (.getfield 164, 18, 17) := by decide +kernel
theorem vr_148_137 : zrx 148 137 = some (.ifCond .ne 20, 0, 0) := by decide +kernel
theorem vr_148_140 : zrx 148 140 = some (.aload_n 0, 0, 0) := by decide +kernel
theorem vr_148_141 : zrx 148 141 = some (.invokevirtual 160, 142, 190) := by decide +kernel
theorem vr_148_144 : zrx 148 144 = some (.bipush 61, 0, 0) := by decide +kernel
theorem vr_148_146 : zrx 148 146 = some (.if_icmp .eq 11, 0, 0) := by decide +kernel
theorem vr_148_149 : zrx 148 149 = some (.aload_n 0, 0, 0) := by decide +kernel
theorem vr_148_150 : zrx 148 150 = some (.aload_n 2, 0, 0) := by decide +kernel
theorem vr_148_151 : zrx 148 151 = some (.invokevirtual 187, 149, 190) := by decide +kernel
theorem vr_148_154 : zrx 148 154 = some (.goto (-21), 0, 0) := by decide +kernel
theorem vr_148_157 : zrx 148 157 = some (.aload_n 0, 0, 0) := by decide +kernel
theorem vr_148_158 : zrx 148 158 = some (.dup, 0, 0) := by decide +kernel
theorem vr_148_159 : zrx 148 159 = some (.getfield 164, 18, 17) := by decide +kernel
theorem vr_148_162 : zrx 148 162 = some (.aload_n 0, 0, 0) := by decide +kernel
theorem vr_148_163 : zrx 148 163 = some (.bipush 61, 0, 0) := by decide +kernel
theorem vr_148_165 : zrx 148 165 = some (.invokevirtual 176, 143, 190) := by decide +kernel
theorem vr_148_168 : zrx 148 168 = some (.ifCond .ne 7, 0, 0) := by decide +kernel
theorem vr_148_171 : zrx 148 171 = some (.iconst 1, 0, 0) := by decide +kernel
theorem vr_148_172 : zrx 148 172 = some (.goto 4, 0, 0) := by decide +kernel
theorem vr_148_175 : zrx 148 175 = some (.iconst 0, 0, 0) := by decide +kernel
theorem vr_148_176 : zrx 148 176 = some (.ior, 0, 0) := by decide +kernel
theorem vr_148_177 : zrx 148 177 = some (.putfield 164, 18, 17) := by decide +kernel
theorem vr_148_180 : zrx 148 180 = some (.aload_n 0, 0, 0) := by decide +kernel
theorem vr_148_181 : zrx 148 181 = some (.bipush 37, 0, 0) := by decide +kernel
theorem vr_148_183 : zrx 148 183 = some (.invokevirtual 176, 143, 190) := by decide +kernel
theorem vr_148_186 : zrx 148 186 = some (.ifCond .eq 11, 0, 0) := by decide +kernel
theorem vr_148_189 : zrx 148 189 = some (.aload_n 2, 0, 0) := by decide +kernel
theorem vr_148_190 : zrx 148 190 = some (.iconst (-1), 0, 0) := by decide +kernel
theorem vr_148_191 : zrx 148 191 = some (.putfield 134, 15, 7) := by decide +kernel
theorem vr_148_194 : zrx 148 194 = some (.goto 58, 0, 0) := by decide +kernel
theorem vr_148_197 : zrx 148 197 = some (.aload_n 0, 0, 0) := by decide +kernel
theorem vr_148_198 : zrx 148 198 = some (.bipush 64, 0, 0) := by decide +kernel
theorem vr_148_200 : zrx 148 200 = some (.invokevirtual 176, 143, 190) := by decide +kernel
theorem vr_148_203 : zrx 148 203 = some (.ifCond .eq 18, 0, 0) := by decide +kernel
theorem vr_148_206 : zrx 148 206 = some (.aload_n 2, 0, 0) := by decide +kernel
theorem vr_148_207 : zrx 148 207 = some (.bipush (-2), 0, 0) := by decide +kernel
theorem vr_148_209 : zrx 148 209 = some (.aload_n 0, 0, 0) := by decide +kernel
theorem vr_148_210 : zrx 148 210 = some (.iload_n 1, 0, 0) := by decide +kernel
theorem vr_148_211 : zrx 148 211 = some (.invokevirtual 191, 147, 190) := by decide +kernel
theorem vr_148_214 : zrx 148 214 = some (.isub, 0, 0) := by decide +kernel
theorem vr_148_215 : zrx 148 215 = some (.putfield 134, 15, 7) := by decide +kernel
theorem vr_148_218 : zrx 148 218 = some (.goto 34, 0, 0) := by decide +kernel
theorem vr_148_221 : zrx 148 221 = some (.aload_n 2, 0, 0) := by decide +kernel
theorem vr_148_222 : zrx 148 222 = some (.aload_n 0, 0, 0) := by decide +kernel
theorem vr_148_223 : zrx 148 223 = some (.invokevirtual 172, 146, 190) := by decide +kernel
theorem vr_148_226 : zrx 148 226 = some (.putfield 134, 15, 7) := by decide +kernel
theorem vr_148_229 : zrx 148 229 = some (.aload_n 0, 0, 0) := by decide +kernel
theorem vr_148_230 : zrx 148 230 = some (.dup, 0, 0) := by decide +kernel
theorem vr_148_231 : zrx 148 231 = some (.getfield 164, 18, 17) := by decide +kernel
theorem vr_148_234 : zrx 148 234 = some (.aload_n 2, 0, 0) := by decide +kernel
theorem vr_148_235 : zrx 148 235 = some (.getfield 134, 15, 7) := by decide +kernel
theorem vr_148_238 : zrx 148 238 = some (.bipush 100, 0, 0) := by decide +kernel
theorem vr_148_240 : zrx 148 240 = some (.if_icmp .le 7, 0, 0) := by decide +kernel
theorem vr_148_243 : zrx 148 243 = some (.iconst 1, 0, 0) := by decide +kernel
theorem vr_148_244 : zrx 148 244 = some (.goto 4, 0, 0) := by decide +kernel
theorem vr_148_247 : zrx 148 247 = some (.iconst 0, 0, 0) := by decide +kernel
theorem vr_148_248 : zrx 148 248 = some (.ior, 0, 0) := by decide +kernel
theorem vr_148_249 : zrx 148 249 = some (.putfield 164, 18, 17) := by decide +kernel
theorem vr_148_252 : zrx 148 252 = some (.aload_n 0, 0, 0) := by decide +kernel
theorem vr_148_253 : zrx 148 253 = some (.bipush 120, 0, 0) := by decide +kernel
theorem vr_148_255 : zrx 148 255 = some (.invokevirtual 176, 143, 190) := by decide +kernel
theorem vr_148_258 : zrx 148 258 = some (.ifCond .eq 12, 0, 0) := by decide +kernel
theorem vr_148_261 : zrx 148 261 = some (.aload_n 2, 0, 0) := by decide +kernel
theorem vr_148_262 : zrx 148 262 = some (.aload_n 0, 0, 0) := by decide +kernel
theorem vr_148_263 : zrx 148 263 = some (.iload_n 1, 0, 0) := by decide +kernel
theorem vr_148_264 : zrx 148 264 = some (.invokevirtual 191, 147, 190) := by decide +kernel
theorem vr_148_267 : zrx 148 267 = some (.putfield 118, 15, 8) := by decide +kernel
theorem vr_148_270 : zrx 148 270 = some (.aload_n 0, 0, 0) := by decide +kernel
theorem vr_148_271 : zrx 148 271 = some (.dup, 0, 0) := by decide +kernel
theorem vr_148_272 : zrx 148 272 = some (.getfield 164, 18, 17) := by decide +kernel
theorem vr_148_275 : zrx 148 275 = some (.aload_n 0, 0, 0) := by decide +kernel
theorem vr_148_276 : zrx 148 276 = some (.invokevirtual 160, 142, 190) := by decide +kernel
theorem vr_148_279 : zrx 148 279 = some (.bipush 10, 0, 0) := by decide +kernel
theorem vr_148_281 : zrx 148 281 = some (.if_icmp .eq 7, 0, 0) := by decide +kernel
theorem vr_148_284 : zrx 148 284 = some (.iconst 1, 0, 0) := by decide +kernel
theorem vr_148_285 : zrx 148 285 = some (.goto 4, 0, 0) := by decide +kernel
theorem vr_148_288 : zrx 148 288 = some (.iconst 0, 0, 0) := by decide +kernel
theorem vr_148_289 : zrx 148 289 = some (.ior, 0, 0) := by decide +kernel
theorem vr_148_290 : zrx 148 290 = some (.putfield 164, 18, 17) := by decide +kernel
theorem vr_148_293 : zrx 148 293 = some (.aload_n 2, 0, 0) := by decide +kernel
theorem vr_148_294 : zrx 148 294 = some (.areturn, 0, 0) := by decide +kernel
set_option maxRecDepth 20000 in
theorem C_rd4 {T : Nat → Int32} {L s b A AS AN : Nat} {a bd nb : Int32} {r : Option (Nat × (Nat → Int32))} {h : List zC} (hn : NE s b A AS AN) (hA : 239 ≤ A) (d : MB T L s b h a bd) (gr : GR T L A AS AN h a bd r) (v3 w : Value) (n u : Nat) : zL zrx zi n 148 270 [(3, v3), (2, .ref A), (0, .ref 213), (1, .int nb), (4, w)] [] h u (fun o h2 _ => RP T L s b A AS AN h h2 (r.bind (xEnd T L)) o) := by
  refine zSaload (m := 1) (k := 0) vr_148_270 rfl rfl rfl ?_
  refine zSdup vr_148_271 rfl ?_
  refine zLget vr_148_272 rfl (fun p1319 w1319 e1319 t1319 g1319 => ?_)
  cases e1319
  first | (rw [d.fl] at g1319; cases g1319) | skip
  refine zSaload (m := 1) (k := 0) vr_148_275 rfl rfl rfl ?_
  refine zScall vr_148_276 rfl rfl rfl (fun m1321 _ => C_msg _ _ _ _ d) (fun v1321 h1321 u1321 q1321 => ?_) (fun E1321 h1321 u1321 q1321 => ?_)
  · obtain ⟨f1, a1, c1, z1321, d1, k1⟩ := q1321
    cases z1321
    show zL zrx zi _ 148 279 [(3, _), (2, _), (0, _), (1, _), (4, _)] [_, _, _] _ _ _
    refine zSp0 (pc' := 281) (st' := .int (10) :: _) vr_148_279 rfl rfl ?_
    refine zSb2 (f := fun x y => decide (x = y)) (off := 7) (t := 288) vr_148_281 rfl rfl rfl (fun x1323 y1323 e1323 f1323 q1323 => ?_) (fun x1323 y1323 e1323 f1323 q1323 => ?_)
    · cases e1323
      cases f1323
      have c1323 := of_decide_eq_true q1323
      refine zSp0 (pc' := 289) (st' := .int (0) :: _) vr_148_288 rfl rfl ?_
      refine zS2 (f := fun x y => .int (x ||| y)) vr_148_289 rfl rfl (fun x1325 y1325 e1325 f1325 => ?_)
      cases e1325
      cases f1325
      refine zLput vr_148_290 rfl (fun p1326 k1326 e1326 t1326 g1326 => ?_)
      cases e1326
      refine zSaload (m := 1) (k := 2) vr_148_293 rfl rfl rfl ?_
      refine zSaret vr_148_294 rfl ?_
      obtain ⟨d2, f2⟩ := d1.putB g1326 (by first | exact or01 d1.or (Or.inr rfl) | exact or01 d1.or (Or.inl rfl))
      refine ⟨FA.fm (f1.trans f2), rfl, _, _, d2, ?_⟩
      rcases gr with ⟨g1, g2⟩ | ⟨g1, p, F, g2, g3, g4, g5⟩
      · subst g2
        exact Or.inl ⟨by rw [g1]; decide, rfl⟩
      · subst g2
        obtain ⟨w1, w2⟩ := k1 p g3 g4
        have e10 := sgM_10 (p := p) d.hT
        first
          | (have z : sg T L p = -1 := e10.mp (w1.symm.trans c1323)
             refine Or.inr ⟨by rw [g1]; decide, skp T L p, F, ?_, (skp_b (T := T) _ p rfl g3).2.1, w2, (g5.fm f1).fm f2⟩
             show xEnd T L (p, F) = _
             unfold xEnd
             exact if_pos z)
          | (have z : ¬ sg T L p = -1 := fun y => c1323 (w1.trans (e10.mpr y))
             refine Or.inl ⟨by rw [g1]; decide, ?_⟩
             show xEnd T L (p, F) = _
             unfold xEnd
             exact if_neg z)
    · cases e1323
      cases f1323
      have c1323 := ndc q1323
      refine zSp0 (pc' := 285) (st' := .int (1) :: _) vr_148_284 rfl rfl ?_
      refine zSgo (t := 289) vr_148_285 rfl rfl ?_
      refine zS2 (f := fun x y => .int (x ||| y)) vr_148_289 rfl rfl (fun x1331 y1331 e1331 f1331 => ?_)
      cases e1331
      cases f1331
      refine zLput vr_148_290 rfl (fun p1332 k1332 e1332 t1332 g1332 => ?_)
      cases e1332
      refine zSaload (m := 1) (k := 2) vr_148_293 rfl rfl rfl ?_
      refine zSaret vr_148_294 rfl ?_
      obtain ⟨d2, f2⟩ := d1.putB g1332 (by first | exact or01 d1.or (Or.inr rfl) | exact or01 d1.or (Or.inl rfl))
      refine ⟨FA.fm (f1.trans f2), rfl, _, _, d2, ?_⟩
      rcases gr with ⟨g1, g2⟩ | ⟨g1, p, F, g2, g3, g4, g5⟩
      · subst g2
        exact Or.inl ⟨by rw [g1]; decide, rfl⟩
      · subst g2
        obtain ⟨w1, w2⟩ := k1 p g3 g4
        have e10 := sgM_10 (p := p) d.hT
        first
          | (have z : sg T L p = -1 := e10.mp (w1.symm.trans c1323)
             refine Or.inr ⟨by rw [g1]; decide, skp T L p, F, ?_, (skp_b (T := T) _ p rfl g3).2.1, w2, (g5.fm f1).fm f2⟩
             show xEnd T L (p, F) = _
             unfold xEnd
             exact if_pos z)
          | (have z : ¬ sg T L p = -1 := fun y => c1323 (w1.trans (e10.mpr y))
             refine Or.inl ⟨by rw [g1]; decide, ?_⟩
             show xEnd T L (p, F) = _
             unfold xEnd
             exact if_neg z)
  · obtain ⟨-, _, _, z, -⟩ := q1321
    cases z
set_option maxRecDepth 20000 in
theorem C_rd3 {T : Nat → Int32} {L s b A AS AN : Nat} {a bd nb : Int32} {r : Option (Nat × (Nat → Int32))} {h : List zC} (hn : NE s b A AS AN) (hA : 239 ≤ A) (d : MB T L s b h a bd) (gr : GR T L A AS AN h a bd r) (v3 w : Value) (n u : Nat) : zL zrx zi n 148 252 [(3, v3), (2, .ref A), (0, .ref 213), (1, .int nb), (4, w)] [] h u (fun o h2 _ => RP T L s b A AS AN h h2 (r.bind (rd3 T L nb)) o) := by
  refine zSaload (m := 1) (k := 0) vr_148_252 rfl rfl rfl ?_
  refine zSp0 (pc' := 255) (st' := .int (120) :: _) vr_148_253 rfl rfl ?_
  refine zScall vr_148_255 rfl rfl rfl (fun m1337 _ => C_mtk _ _ _ _ d ⟨by decide, by decide⟩) (fun v1337 h1337 u1337 q1337 => ?_) (fun E1337 h1337 u1337 q1337 => ?_)
  · obtain ⟨f1, a1, r1, z1337, d1, k1⟩ := q1337
    cases z1337
    show zL zrx zi _ 148 258 [(3, _), (2, _), (0, _), (1, _), (4, _)] [_] _ _ _
    refine zSb1 (f := fun x => decide (x = 0)) (off := 12) (t := 270) vr_148_258 rfl rfl rfl (fun x1338 e1338 q1338 => ?_) (fun x1338 e1338 q1338 => ?_)
    · cases e1338
      have c1338 := of_decide_eq_true q1338
      first
        | (have d3 := d2.putC g0 hA hn.1.1 hn.1.2
           refine zL_K _ _ _ _ _ _ _ _ _ (zL_pm _ _ _ [(3, _), (2, _), (0, _), (1, _), (4, _)] _ _ _ _ _ ⟨(List.forall_mem_cons.mpr ⟨List.mem_cons_self, (List.forall_mem_cons.mpr ⟨(List.mem_cons_of_mem _ List.mem_cons_self), (List.forall_mem_cons.mpr ⟨(List.mem_cons_of_mem _ (List.mem_cons_of_mem _ List.mem_cons_self)), (List.forall_mem_cons.mpr ⟨(List.mem_cons_of_mem _ (List.mem_cons_of_mem _ (List.mem_cons_of_mem _ List.mem_cons_self))), (List.forall_mem_cons.mpr ⟨(List.mem_cons_of_mem _ (List.mem_cons_of_mem _ (List.mem_cons_of_mem _ (List.mem_cons_of_mem _ List.mem_cons_self)))), (fun _ h => absurd h List.not_mem_nil)⟩)⟩)⟩)⟩)⟩), show ([3, 2, 0, 1, 4] : List Nat).Nodup by decide⟩ (C_rd4 (r := r.bind (sExc T L nb)) hn hA d3 ?_ _ _ _ _)) (fun o h2 u2 q => ?_)
           · rcases gr with ⟨g1, g2⟩ | ⟨g1, p, F, g2, g3, g4, g5⟩
             · subst g2
               exact Or.inl ⟨i2 g1, rfl⟩
             · subst g2
               obtain ⟨w1, w2⟩ := k1 p g3 g4
               have tb := tkS_b (T := T) (c := 120) g3 (by decide)
               have w := k2 g1 _ tb.1 w2
               show GR T L A AS AN _ _ _ (sExc T L nb (p, F))
               unfold sExc
               dsimp only
               rw [if_neg (by rw [← w1]; exact c1338)]
               cases en : nuS T L (tkS T L 120 p).2 with
               | none =>
                 rw [en] at w
                 exact Or.inl ⟨w, rfl⟩
               | some x =>
                 rw [en] at w
                 dsimp only at w ⊢
                 by_cases z : nb ≤ x.1
                 · rw [if_pos z] at w ⊢
                   exact Or.inl ⟨w, rfl⟩
                 · rw [if_neg z] at w ⊢
                   obtain ⟨x1, x2, x3⟩ := w
                   refine Or.inr ⟨x1, x.2, _, rfl, (nuS_b tb.1 en).1, x3, ?_⟩
                   rw [← x2]
                   exact ((g5.fm f1).fm f2).put (i := 8) (j := 7) (by decide) (fun z => absurd z (by decide)) g0
           · rw [Option.bind_assoc] at q
             exact q.pre (((FA.fm f1).trans (FA.fm f2)).trans (FA.put g0 (Or.inl ⟨rfl, by decide⟩))))
        | (refine zL_K _ _ _ _ _ _ _ _ _ (zL_pm _ _ _ [(3, _), (2, _), (0, _), (1, _), (4, _)] _ _ _ _ _ ⟨(List.forall_mem_cons.mpr ⟨List.mem_cons_self, (List.forall_mem_cons.mpr ⟨(List.mem_cons_of_mem _ List.mem_cons_self), (List.forall_mem_cons.mpr ⟨(List.mem_cons_of_mem _ (List.mem_cons_of_mem _ List.mem_cons_self)), (List.forall_mem_cons.mpr ⟨(List.mem_cons_of_mem _ (List.mem_cons_of_mem _ (List.mem_cons_of_mem _ List.mem_cons_self))), (List.forall_mem_cons.mpr ⟨(List.mem_cons_of_mem _ (List.mem_cons_of_mem _ (List.mem_cons_of_mem _ (List.mem_cons_of_mem _ List.mem_cons_self)))), (fun _ h => absurd h List.not_mem_nil)⟩)⟩)⟩)⟩)⟩), show ([3, 2, 0, 1, 4] : List Nat).Nodup by decide⟩ (C_rd4 (r := r.bind (sExc T L nb)) hn hA d1 ?_ _ _ _ _)) (fun o h2 u2 q => ?_)
           · rcases gr with ⟨g1, g2⟩ | ⟨g1, p, F, g2, g3, g4, g5⟩
             · subst g2
               exact Or.inl ⟨g1, rfl⟩
             · subst g2
               obtain ⟨w1, w2⟩ := k1 p g3 g4
               refine Or.inr ⟨g1, _, F, ?_, (tkS_b (T := T) (c := 120) g3 (by decide)).1, w2, g5.fm f1⟩
               show sExc T L nb (p, F) = _
               unfold sExc
               dsimp only
               rw [if_pos (by rw [← w1]; exact c1338)]
           · rw [Option.bind_assoc] at q
             exact q.pre (FA.fm f1))
    · cases e1338
      have c1338 := ndc q1338
      refine zSaload (m := 1) (k := 2) vr_148_261 rfl rfl rfl ?_
      refine zSaload (m := 1) (k := 0) vr_148_262 rfl rfl rfl ?_
      refine zSiload (m := 1) (k := 1) vr_148_263 rfl rfl rfl (fun x1341 e1341 => ?_)
      cases e1341
      refine zScall vr_148_264 rfl rfl rfl (fun m1342 _ => C_mnm _ _ _ _ d1) (fun v1342 h1342 u1342 q1342 => ?_) (fun E1342 h1342 u1342 q1342 => ?_)
      · obtain ⟨f2, a2, bd2, v2, z1342, d2, i2, k2⟩ := q1342
        cases z1342
        show zL zrx zi _ 148 267 [(3, _), (2, _), (0, _), (1, _), (4, _)] [_, _] _ _ _
        refine zLput vr_148_267 rfl (fun p1343 k1343 e1343 t1343 g1343 => ?_)
        cases e1343
        first
          | (have d3 := d2.putC g1343 hA hn.1.1 hn.1.2
             refine zL_K _ _ _ _ _ _ _ _ _ (zL_pm _ _ _ [(3, _), (2, _), (0, _), (1, _), (4, _)] _ _ _ _ _ ⟨(List.forall_mem_cons.mpr ⟨List.mem_cons_self, (List.forall_mem_cons.mpr ⟨(List.mem_cons_of_mem _ List.mem_cons_self), (List.forall_mem_cons.mpr ⟨(List.mem_cons_of_mem _ (List.mem_cons_of_mem _ List.mem_cons_self)), (List.forall_mem_cons.mpr ⟨(List.mem_cons_of_mem _ (List.mem_cons_of_mem _ (List.mem_cons_of_mem _ List.mem_cons_self))), (List.forall_mem_cons.mpr ⟨(List.mem_cons_of_mem _ (List.mem_cons_of_mem _ (List.mem_cons_of_mem _ (List.mem_cons_of_mem _ List.mem_cons_self)))), (fun _ h => absurd h List.not_mem_nil)⟩)⟩)⟩)⟩)⟩), show ([3, 2, 0, 1, 4] : List Nat).Nodup by decide⟩ (C_rd4 (r := r.bind (sExc T L nb)) hn hA d3 ?_ _ _ _ _)) (fun o h2 u2 q => ?_)
             · rcases gr with ⟨g1, g2⟩ | ⟨g1, p, F, g2, g3, g4, g5⟩
               · subst g2
                 exact Or.inl ⟨i2 g1, rfl⟩
               · subst g2
                 obtain ⟨w1, w2⟩ := k1 p g3 g4
                 have tb := tkS_b (T := T) (c := 120) g3 (by decide)
                 have w := k2 g1 _ tb.1 w2
                 show GR T L A AS AN _ _ _ (sExc T L nb (p, F))
                 unfold sExc
                 dsimp only
                 rw [if_neg (by rw [← w1]; exact c1338)]
                 cases en : nuS T L (tkS T L 120 p).2 with
                 | none =>
                   rw [en] at w
                   exact Or.inl ⟨w, rfl⟩
                 | some x =>
                   rw [en] at w
                   dsimp only at w ⊢
                   by_cases z : nb ≤ x.1
                   · rw [if_pos z] at w ⊢
                     exact Or.inl ⟨w, rfl⟩
                   · rw [if_neg z] at w ⊢
                     obtain ⟨x1, x2, x3⟩ := w
                     refine Or.inr ⟨x1, x.2, _, rfl, (nuS_b tb.1 en).1, x3, ?_⟩
                     rw [← x2]
                     exact ((g5.fm f1).fm f2).put (i := 8) (j := 7) (by decide) (fun z => absurd z (by decide)) g1343
             · rw [Option.bind_assoc] at q
               exact q.pre (((FA.fm f1).trans (FA.fm f2)).trans (FA.put g1343 (Or.inl ⟨rfl, by decide⟩))))
          | (refine zL_K _ _ _ _ _ _ _ _ _ (zL_pm _ _ _ [(3, _), (2, _), (0, _), (1, _), (4, _)] _ _ _ _ _ ⟨(List.forall_mem_cons.mpr ⟨List.mem_cons_self, (List.forall_mem_cons.mpr ⟨(List.mem_cons_of_mem _ List.mem_cons_self), (List.forall_mem_cons.mpr ⟨(List.mem_cons_of_mem _ (List.mem_cons_of_mem _ List.mem_cons_self)), (List.forall_mem_cons.mpr ⟨(List.mem_cons_of_mem _ (List.mem_cons_of_mem _ (List.mem_cons_of_mem _ List.mem_cons_self))), (List.forall_mem_cons.mpr ⟨(List.mem_cons_of_mem _ (List.mem_cons_of_mem _ (List.mem_cons_of_mem _ (List.mem_cons_of_mem _ List.mem_cons_self)))), (fun _ h => absurd h List.not_mem_nil)⟩)⟩)⟩)⟩)⟩), show ([3, 2, 0, 1, 4] : List Nat).Nodup by decide⟩ (C_rd4 (r := r.bind (sExc T L nb)) hn hA d1 ?_ _ _ _ _)) (fun o h2 u2 q => ?_)
             · rcases gr with ⟨g1, g2⟩ | ⟨g1, p, F, g2, g3, g4, g5⟩
               · subst g2
                 exact Or.inl ⟨g1, rfl⟩
               · subst g2
                 obtain ⟨w1, w2⟩ := k1 p g3 g4
                 refine Or.inr ⟨g1, _, F, ?_, (tkS_b (T := T) (c := 120) g3 (by decide)).1, w2, g5.fm f1⟩
                 show sExc T L nb (p, F) = _
                 unfold sExc
                 dsimp only
                 rw [if_pos (by rw [← w1]; exact c1338)]
             · rw [Option.bind_assoc] at q
               exact q.pre (FA.fm f1))
      · obtain ⟨-, _, _, _, z, -⟩ := q1342
        cases z
  · obtain ⟨-, _, _, z, -⟩ := q1337
    cases z
set_option maxRecDepth 20000 in
theorem C_rd2b {T : Nat → Int32} {L s b A AS AN : Nat} {a bd nb : Int32} {r : Option (Nat × (Nat → Int32))} {h : List zC} (hn : NE s b A AS AN) (hA : 239 ≤ A) (d : MB T L s b h a bd) (gr : GR T L A AS AN h a bd r) (v3 w : Value) (n u : Nat) : zL zrx zi n 148 180 [(3, v3), (2, .ref A), (0, .ref 213), (1, .int nb), (4, w)] [] h u (fun o h2 _ => RP T L s b A AS AN h h2 (r.bind (rd2b T L nb)) o) := by
  refine zSaload (m := 1) (k := 0) vr_148_180 rfl rfl rfl ?_
  refine zSp0 (pc' := 183) (st' := .int (37) :: _) vr_148_181 rfl rfl ?_
  refine zScall vr_148_183 rfl rfl rfl (fun m1346 _ => C_mtk _ _ _ _ d ⟨by decide, by decide⟩) (fun v1346 h1346 u1346 q1346 => ?_) (fun E1346 h1346 u1346 q1346 => ?_)
  · obtain ⟨f1, a1, r1, z1346, d1, k1⟩ := q1346
    cases z1346
    show zL zrx zi _ 148 186 [(3, _), (2, _), (0, _), (1, _), (4, _)] [_] _ _ _
    refine zSb1 (f := fun x => decide (x = 0)) (off := 11) (t := 197) vr_148_186 rfl rfl rfl (fun x1347 e1347 q1347 => ?_) (fun x1347 e1347 q1347 => ?_)
    · cases e1347
      have c1347 := of_decide_eq_true q1347
      refine zSaload (m := 1) (k := 0) vr_148_197 rfl rfl rfl ?_
      refine zSp0 (pc' := 200) (st' := .int (64) :: _) vr_148_198 rfl rfl ?_
      refine zScall vr_148_200 rfl rfl rfl (fun m1350 _ => C_mtk _ _ _ _ d1 ⟨by decide, by decide⟩) (fun v1350 h1350 u1350 q1350 => ?_) (fun E1350 h1350 u1350 q1350 => ?_)
      · obtain ⟨f2, a2, r2, z1350, d2, k2⟩ := q1350
        cases z1350
        show zL zrx zi _ 148 203 [(3, _), (2, _), (0, _), (1, _), (4, _)] [_] _ _ _
        refine zSb1 (f := fun x => decide (x = 0)) (off := 18) (t := 221) vr_148_203 rfl rfl rfl (fun x1351 e1351 q1351 => ?_) (fun x1351 e1351 q1351 => ?_)
        · cases e1351
          have c1351 := of_decide_eq_true q1351
          refine zSaload (m := 1) (k := 2) vr_148_221 rfl rfl rfl ?_
          refine zSaload (m := 1) (k := 0) vr_148_222 rfl rfl rfl ?_
          refine zScall vr_148_223 rfl rfl rfl (fun m1354 _ => C_mnu _ _ _ d2) (fun v1354 h1354 u1354 q1354 => ?_) (fun E1354 h1354 u1354 q1354 => ?_)
          · obtain ⟨f3, a3, bd3, v3, z1354, d3, i3, k3⟩ := q1354
            cases z1354
            show zL zrx zi _ 148 226 [(3, _), (2, _), (0, _), (1, _), (4, _)] [_, _] _ _ _
            refine zLput vr_148_226 rfl (fun p1355 k1355 e1355 t1355 g1355 => ?_)
            cases e1355
            have d4 := d3.putC g1355 hA hn.1.1 hn.1.2
            have lo := (g1355.2.1 A 7).trans (if_pos ⟨rfl, rfl⟩)
            refine zSaload (m := 1) (k := 0) vr_148_229 rfl rfl rfl ?_
            refine zSdup vr_148_230 rfl ?_
            refine zLget vr_148_231 rfl (fun p1358 w1358 e1358 t1358 g1358 => ?_)
            cases e1358
            first | (rw [d4.fl] at g1358; cases g1358) | (rw [lo] at g1358; cases g1358) | skip
            refine zSaload (m := 1) (k := 2) vr_148_234 rfl rfl rfl ?_
            refine zLget vr_148_235 rfl (fun p1360 w1360 e1360 t1360 g1360 => ?_)
            cases e1360
            first | (rw [d4.fl] at g1360; cases g1360) | (rw [lo] at g1360; cases g1360) | skip
            refine zSp0 (pc' := 240) (st' := .int (100) :: _) vr_148_238 rfl rfl ?_
            refine zSb2 (f := fun x y => decide (x ≤ y)) (off := 7) (t := 247) vr_148_240 rfl rfl rfl (fun x1362 y1362 e1362 f1362 q1362 => ?_) (fun x1362 y1362 e1362 f1362 q1362 => ?_)
            · cases e1362
              cases f1362
              have c1362 := of_decide_eq_true q1362
              refine zSp0 (pc' := 248) (st' := .int (0) :: _) vr_148_247 rfl rfl ?_
              refine zS2 (f := fun x y => .int (x ||| y)) vr_148_248 rfl rfl (fun x1364 y1364 e1364 f1364 => ?_)
              cases e1364
              cases f1364
              refine zLput vr_148_249 rfl (fun p1365 k1365 e1365 t1365 g1365 => ?_)
              cases e1365
              first
                | (obtain ⟨d5, f5⟩ := d4.putB g1365 (by first | exact or01 d4.or (Or.inr rfl) | exact or01 d4.or (Or.inl rfl))
                   refine zL_K _ _ _ _ _ _ _ _ _ (zL_pm _ _ _ [(3, _), (2, _), (0, _), (1, _), (4, _)] _ _ _ _ _ ⟨(List.forall_mem_cons.mpr ⟨List.mem_cons_self, (List.forall_mem_cons.mpr ⟨(List.mem_cons_of_mem _ List.mem_cons_self), (List.forall_mem_cons.mpr ⟨(List.mem_cons_of_mem _ (List.mem_cons_of_mem _ List.mem_cons_self)), (List.forall_mem_cons.mpr ⟨(List.mem_cons_of_mem _ (List.mem_cons_of_mem _ (List.mem_cons_of_mem _ List.mem_cons_self))), (List.forall_mem_cons.mpr ⟨(List.mem_cons_of_mem _ (List.mem_cons_of_mem _ (List.mem_cons_of_mem _ (List.mem_cons_of_mem _ List.mem_cons_self)))), (fun _ h => absurd h List.not_mem_nil)⟩)⟩)⟩)⟩)⟩), show ([3, 2, 0, 1, 4] : List Nat).Nodup by decide⟩ (C_rd3 (r := r.bind (sOut T L nb)) hn hA d5 ?_ _ _ _ _)) (fun o h2 u2 q => ?_)
                   · rcases gr with ⟨g1, g2⟩ | ⟨g1, p, F, g2, g3, g4, g5⟩
                     · subst g2
                       exact Or.inl ⟨by rw [i3 g1]; decide, rfl⟩
                     · subst g2
                       obtain ⟨w1, w2⟩ := k1 p g3 g4
                       have t1 := tkS_b (T := T) (c := 37) g3 (by decide)
                       obtain ⟨x1, x2⟩ := k2 _ t1.1 w2
                       have t2 := tkS_b (T := T) (c := 64) t1.1 (by decide)
                       have w := k3 g1 _ t2.1 x2
                       show GR T L A AS AN _ _ _ (sOut T L nb (p, F))
                       unfold sOut
                       dsimp only
                       rw [if_pos (by rw [← w1]; exact c1347), if_pos (by rw [← x1]; exact c1351)]
                       cases en : nuS T L (tkS T L 64 (tkS T L 37 p).2).2 with
                       | none =>
                         rw [en] at w
                         have w : bd3 = 1 := w
                         exact Or.inl ⟨by rw [w]; decide, rfl⟩
                       | some x =>
                         rw [en] at w
                         dsimp only at w ⊢
                         obtain ⟨y1, y2, y3⟩ := w
                         first
                           | (rw [if_neg (Int32.not_lt.mpr (by rw [← y2]; exact c1362))]
                              refine Or.inr ⟨by rw [y1]; decide, x.2, _, rfl, (nuS_b t2.1 en).1, y3, ?_⟩
                              rw [← y2]
                              exact ((((g5.fm f1).fm f2).fm f3).put (i := 7) (j := 6) (by decide) (fun z => absurd z (by decide)) g1355).fm f5)
                           | (rw [if_pos (Int32.not_le.mp (by rw [← y2]; exact c1362))]
                              exact Or.inl ⟨by rw [y1]; decide, rfl⟩)
                   · rw [Option.bind_assoc] at q
                     exact q.pre (((((FA.fm f1).trans (FA.fm f2)).trans (FA.fm f3)).trans (FA.put g1355 (Or.inl ⟨rfl, by decide⟩))).trans (FA.fm f5)))
                | (have d4 := d3.putC g0 hA hn.1.1 hn.1.2
                   refine zL_K _ _ _ _ _ _ _ _ _ (zL_pm _ _ _ [(3, _), (2, _), (0, _), (1, _), (4, _)] _ _ _ _ _ ⟨(List.forall_mem_cons.mpr ⟨List.mem_cons_self, (List.forall_mem_cons.mpr ⟨(List.mem_cons_of_mem _ List.mem_cons_self), (List.forall_mem_cons.mpr ⟨(List.mem_cons_of_mem _ (List.mem_cons_of_mem _ List.mem_cons_self)), (List.forall_mem_cons.mpr ⟨(List.mem_cons_of_mem _ (List.mem_cons_of_mem _ (List.mem_cons_of_mem _ List.mem_cons_self))), (List.forall_mem_cons.mpr ⟨(List.mem_cons_of_mem _ (List.mem_cons_of_mem _ (List.mem_cons_of_mem _ (List.mem_cons_of_mem _ List.mem_cons_self)))), (fun _ h => absurd h List.not_mem_nil)⟩)⟩)⟩)⟩)⟩), show ([3, 2, 0, 1, 4] : List Nat).Nodup by decide⟩ (C_rd3 (r := r.bind (sOut T L nb)) hn hA d4 ?_ _ _ _ _)) (fun o h2 u2 q => ?_)
                   · rcases gr with ⟨g1, g2⟩ | ⟨g1, p, F, g2, g3, g4, g5⟩
                     · subst g2
                       exact Or.inl ⟨i3 g1, rfl⟩
                     · subst g2
                       obtain ⟨w1, w2⟩ := k1 p g3 g4
                       have t1 := tkS_b (T := T) (c := 37) g3 (by decide)
                       obtain ⟨x1, x2⟩ := k2 _ t1.1 w2
                       have t2 := tkS_b (T := T) (c := 64) t1.1 (by decide)
                       have w := k3 g1 _ t2.1 x2
                       show GR T L A AS AN _ _ _ (sOut T L nb (p, F))
                       unfold sOut
                       dsimp only
                       rw [if_pos (by rw [← w1]; exact c1347), if_neg (by rw [← x1]; exact c1351)]
                       cases en : nuS T L (tkS T L 64 (tkS T L 37 p).2).2 with
                       | none =>
                         rw [en] at w
                         exact Or.inl ⟨w, rfl⟩
                       | some x =>
                         rw [en] at w
                         dsimp only at w ⊢
                         by_cases z : nb ≤ x.1
                         · rw [if_pos z] at w ⊢
                           exact Or.inl ⟨w, rfl⟩
                         · rw [if_neg z] at w ⊢
                           obtain ⟨y1, y2, y3⟩ := w
                           refine Or.inr ⟨y1, x.2, _, rfl, (nuS_b t2.1 en).1, y3, ?_⟩
                           rw [← y2]
                           exact (((g5.fm f1).fm f2).fm f3).put (i := 7) (j := 6) (by decide) (fun z => absurd z (by decide)) g0
                   · rw [Option.bind_assoc] at q
                     exact q.pre ((((FA.fm f1).trans (FA.fm f2)).trans (FA.fm f3)).trans (FA.put g0 (Or.inl ⟨rfl, by decide⟩))))
                | (have d2 := d1.putC g0 hA hn.1.1 hn.1.2
                   refine zL_K _ _ _ _ _ _ _ _ _ (zL_pm _ _ _ [(3, _), (2, _), (0, _), (1, _), (4, _)] _ _ _ _ _ ⟨(List.forall_mem_cons.mpr ⟨List.mem_cons_self, (List.forall_mem_cons.mpr ⟨(List.mem_cons_of_mem _ List.mem_cons_self), (List.forall_mem_cons.mpr ⟨(List.mem_cons_of_mem _ (List.mem_cons_of_mem _ List.mem_cons_self)), (List.forall_mem_cons.mpr ⟨(List.mem_cons_of_mem _ (List.mem_cons_of_mem _ (List.mem_cons_of_mem _ List.mem_cons_self))), (List.forall_mem_cons.mpr ⟨(List.mem_cons_of_mem _ (List.mem_cons_of_mem _ (List.mem_cons_of_mem _ (List.mem_cons_of_mem _ List.mem_cons_self)))), (fun _ h => absurd h List.not_mem_nil)⟩)⟩)⟩)⟩)⟩), show ([3, 2, 0, 1, 4] : List Nat).Nodup by decide⟩ (C_rd3 (r := r.bind (sOut T L nb)) hn hA d2 ?_ _ _ _ _)) (fun o h2 u2 q => ?_)
                   · rcases gr with ⟨g1, g2⟩ | ⟨g1, p, F, g2, g3, g4, g5⟩
                     · subst g2
                       exact Or.inl ⟨g1, rfl⟩
                     · subst g2
                       obtain ⟨w1, w2⟩ := k1 p g3 g4
                       have t1 := tkS_b (T := T) (c := 37) g3 (by decide)
                       refine Or.inr ⟨g1, _, upF F 6 (-1), ?_, t1.1, w2, (g5.fm f1).put (i := 7) (j := 6) (by decide) (fun z => absurd z (by decide)) g0⟩
                       show sOut T L nb (p, F) = _
                       unfold sOut
                       dsimp only
                       rw [if_neg (by rw [← w1]; exact c1347)]
                   · rw [Option.bind_assoc] at q
                     exact q.pre ((FA.fm f1).trans (FA.put g0 (Or.inl ⟨rfl, by decide⟩))))
            · cases e1362
              cases f1362
              have c1362 := ndc q1362
              refine zSp0 (pc' := 244) (st' := .int (1) :: _) vr_148_243 rfl rfl ?_
              refine zSgo (t := 248) vr_148_244 rfl rfl ?_
              refine zS2 (f := fun x y => .int (x ||| y)) vr_148_248 rfl rfl (fun x1368 y1368 e1368 f1368 => ?_)
              cases e1368
              cases f1368
              refine zLput vr_148_249 rfl (fun p1369 k1369 e1369 t1369 g1369 => ?_)
              cases e1369
              first
                | (obtain ⟨d5, f5⟩ := d4.putB g1369 (by first | exact or01 d4.or (Or.inr rfl) | exact or01 d4.or (Or.inl rfl))
                   refine zL_K _ _ _ _ _ _ _ _ _ (zL_pm _ _ _ [(3, _), (2, _), (0, _), (1, _), (4, _)] _ _ _ _ _ ⟨(List.forall_mem_cons.mpr ⟨List.mem_cons_self, (List.forall_mem_cons.mpr ⟨(List.mem_cons_of_mem _ List.mem_cons_self), (List.forall_mem_cons.mpr ⟨(List.mem_cons_of_mem _ (List.mem_cons_of_mem _ List.mem_cons_self)), (List.forall_mem_cons.mpr ⟨(List.mem_cons_of_mem _ (List.mem_cons_of_mem _ (List.mem_cons_of_mem _ List.mem_cons_self))), (List.forall_mem_cons.mpr ⟨(List.mem_cons_of_mem _ (List.mem_cons_of_mem _ (List.mem_cons_of_mem _ (List.mem_cons_of_mem _ List.mem_cons_self)))), (fun _ h => absurd h List.not_mem_nil)⟩)⟩)⟩)⟩)⟩), show ([3, 2, 0, 1, 4] : List Nat).Nodup by decide⟩ (C_rd3 (r := r.bind (sOut T L nb)) hn hA d5 ?_ _ _ _ _)) (fun o h2 u2 q => ?_)
                   · rcases gr with ⟨g1, g2⟩ | ⟨g1, p, F, g2, g3, g4, g5⟩
                     · subst g2
                       exact Or.inl ⟨by rw [i3 g1]; decide, rfl⟩
                     · subst g2
                       obtain ⟨w1, w2⟩ := k1 p g3 g4
                       have t1 := tkS_b (T := T) (c := 37) g3 (by decide)
                       obtain ⟨x1, x2⟩ := k2 _ t1.1 w2
                       have t2 := tkS_b (T := T) (c := 64) t1.1 (by decide)
                       have w := k3 g1 _ t2.1 x2
                       show GR T L A AS AN _ _ _ (sOut T L nb (p, F))
                       unfold sOut
                       dsimp only
                       rw [if_pos (by rw [← w1]; exact c1347), if_pos (by rw [← x1]; exact c1351)]
                       cases en : nuS T L (tkS T L 64 (tkS T L 37 p).2).2 with
                       | none =>
                         rw [en] at w
                         have w : bd3 = 1 := w
                         exact Or.inl ⟨by rw [w]; decide, rfl⟩
                       | some x =>
                         rw [en] at w
                         dsimp only at w ⊢
                         obtain ⟨y1, y2, y3⟩ := w
                         first
                           | (rw [if_neg (Int32.not_lt.mpr (by rw [← y2]; exact c1362))]
                              refine Or.inr ⟨by rw [y1]; decide, x.2, _, rfl, (nuS_b t2.1 en).1, y3, ?_⟩
                              rw [← y2]
                              exact ((((g5.fm f1).fm f2).fm f3).put (i := 7) (j := 6) (by decide) (fun z => absurd z (by decide)) g1355).fm f5)
                           | (rw [if_pos (Int32.not_le.mp (by rw [← y2]; exact c1362))]
                              exact Or.inl ⟨by rw [y1]; decide, rfl⟩)
                   · rw [Option.bind_assoc] at q
                     exact q.pre (((((FA.fm f1).trans (FA.fm f2)).trans (FA.fm f3)).trans (FA.put g1355 (Or.inl ⟨rfl, by decide⟩))).trans (FA.fm f5)))
                | (have d4 := d3.putC g0 hA hn.1.1 hn.1.2
                   refine zL_K _ _ _ _ _ _ _ _ _ (zL_pm _ _ _ [(3, _), (2, _), (0, _), (1, _), (4, _)] _ _ _ _ _ ⟨(List.forall_mem_cons.mpr ⟨List.mem_cons_self, (List.forall_mem_cons.mpr ⟨(List.mem_cons_of_mem _ List.mem_cons_self), (List.forall_mem_cons.mpr ⟨(List.mem_cons_of_mem _ (List.mem_cons_of_mem _ List.mem_cons_self)), (List.forall_mem_cons.mpr ⟨(List.mem_cons_of_mem _ (List.mem_cons_of_mem _ (List.mem_cons_of_mem _ List.mem_cons_self))), (List.forall_mem_cons.mpr ⟨(List.mem_cons_of_mem _ (List.mem_cons_of_mem _ (List.mem_cons_of_mem _ (List.mem_cons_of_mem _ List.mem_cons_self)))), (fun _ h => absurd h List.not_mem_nil)⟩)⟩)⟩)⟩)⟩), show ([3, 2, 0, 1, 4] : List Nat).Nodup by decide⟩ (C_rd3 (r := r.bind (sOut T L nb)) hn hA d4 ?_ _ _ _ _)) (fun o h2 u2 q => ?_)
                   · rcases gr with ⟨g1, g2⟩ | ⟨g1, p, F, g2, g3, g4, g5⟩
                     · subst g2
                       exact Or.inl ⟨i3 g1, rfl⟩
                     · subst g2
                       obtain ⟨w1, w2⟩ := k1 p g3 g4
                       have t1 := tkS_b (T := T) (c := 37) g3 (by decide)
                       obtain ⟨x1, x2⟩ := k2 _ t1.1 w2
                       have t2 := tkS_b (T := T) (c := 64) t1.1 (by decide)
                       have w := k3 g1 _ t2.1 x2
                       show GR T L A AS AN _ _ _ (sOut T L nb (p, F))
                       unfold sOut
                       dsimp only
                       rw [if_pos (by rw [← w1]; exact c1347), if_neg (by rw [← x1]; exact c1351)]
                       cases en : nuS T L (tkS T L 64 (tkS T L 37 p).2).2 with
                       | none =>
                         rw [en] at w
                         exact Or.inl ⟨w, rfl⟩
                       | some x =>
                         rw [en] at w
                         dsimp only at w ⊢
                         by_cases z : nb ≤ x.1
                         · rw [if_pos z] at w ⊢
                           exact Or.inl ⟨w, rfl⟩
                         · rw [if_neg z] at w ⊢
                           obtain ⟨y1, y2, y3⟩ := w
                           refine Or.inr ⟨y1, x.2, _, rfl, (nuS_b t2.1 en).1, y3, ?_⟩
                           rw [← y2]
                           exact (((g5.fm f1).fm f2).fm f3).put (i := 7) (j := 6) (by decide) (fun z => absurd z (by decide)) g0
                   · rw [Option.bind_assoc] at q
                     exact q.pre ((((FA.fm f1).trans (FA.fm f2)).trans (FA.fm f3)).trans (FA.put g0 (Or.inl ⟨rfl, by decide⟩))))
                | (have d2 := d1.putC g0 hA hn.1.1 hn.1.2
                   refine zL_K _ _ _ _ _ _ _ _ _ (zL_pm _ _ _ [(3, _), (2, _), (0, _), (1, _), (4, _)] _ _ _ _ _ ⟨(List.forall_mem_cons.mpr ⟨List.mem_cons_self, (List.forall_mem_cons.mpr ⟨(List.mem_cons_of_mem _ List.mem_cons_self), (List.forall_mem_cons.mpr ⟨(List.mem_cons_of_mem _ (List.mem_cons_of_mem _ List.mem_cons_self)), (List.forall_mem_cons.mpr ⟨(List.mem_cons_of_mem _ (List.mem_cons_of_mem _ (List.mem_cons_of_mem _ List.mem_cons_self))), (List.forall_mem_cons.mpr ⟨(List.mem_cons_of_mem _ (List.mem_cons_of_mem _ (List.mem_cons_of_mem _ (List.mem_cons_of_mem _ List.mem_cons_self)))), (fun _ h => absurd h List.not_mem_nil)⟩)⟩)⟩)⟩)⟩), show ([3, 2, 0, 1, 4] : List Nat).Nodup by decide⟩ (C_rd3 (r := r.bind (sOut T L nb)) hn hA d2 ?_ _ _ _ _)) (fun o h2 u2 q => ?_)
                   · rcases gr with ⟨g1, g2⟩ | ⟨g1, p, F, g2, g3, g4, g5⟩
                     · subst g2
                       exact Or.inl ⟨g1, rfl⟩
                     · subst g2
                       obtain ⟨w1, w2⟩ := k1 p g3 g4
                       have t1 := tkS_b (T := T) (c := 37) g3 (by decide)
                       refine Or.inr ⟨g1, _, upF F 6 (-1), ?_, t1.1, w2, (g5.fm f1).put (i := 7) (j := 6) (by decide) (fun z => absurd z (by decide)) g0⟩
                       show sOut T L nb (p, F) = _
                       unfold sOut
                       dsimp only
                       rw [if_neg (by rw [← w1]; exact c1347)]
                   · rw [Option.bind_assoc] at q
                     exact q.pre ((FA.fm f1).trans (FA.put g0 (Or.inl ⟨rfl, by decide⟩))))
          · obtain ⟨-, _, _, _, z, -⟩ := q1354
            cases z
        · cases e1351
          have c1351 := ndc q1351
          refine zSaload (m := 1) (k := 2) vr_148_206 rfl rfl rfl ?_
          refine zSp0 (pc' := 209) (st' := .int (-2) :: _) vr_148_207 rfl rfl ?_
          refine zSaload (m := 1) (k := 0) vr_148_209 rfl rfl rfl ?_
          refine zSiload (m := 1) (k := 1) vr_148_210 rfl rfl rfl (fun x1373 e1373 => ?_)
          cases e1373
          refine zScall vr_148_211 rfl rfl rfl (fun m1374 _ => C_mnm _ _ _ _ d2) (fun v1374 h1374 u1374 q1374 => ?_) (fun E1374 h1374 u1374 q1374 => ?_)
          · obtain ⟨f3, a3, bd3, v3, z1374, d3, i3, k3⟩ := q1374
            cases z1374
            show zL zrx zi _ 148 214 [(3, _), (2, _), (0, _), (1, _), (4, _)] [_, _, _] _ _ _
            refine zS2 (f := fun x y => .int (x - y)) vr_148_214 rfl rfl (fun x1375 y1375 e1375 f1375 => ?_)
            cases e1375
            cases f1375
            refine zLput vr_148_215 rfl (fun p1376 k1376 e1376 t1376 g1376 => ?_)
            cases e1376
            refine zSgo (t := 252) vr_148_218 rfl rfl ?_
            first
              | (obtain ⟨d5, f5⟩ := d4.putB g1369 (by first | exact or01 d4.or (Or.inr rfl) | exact or01 d4.or (Or.inl rfl))
                 refine zL_K _ _ _ _ _ _ _ _ _ (zL_pm _ _ _ [(3, _), (2, _), (0, _), (1, _), (4, _)] _ _ _ _ _ ⟨(List.forall_mem_cons.mpr ⟨List.mem_cons_self, (List.forall_mem_cons.mpr ⟨(List.mem_cons_of_mem _ List.mem_cons_self), (List.forall_mem_cons.mpr ⟨(List.mem_cons_of_mem _ (List.mem_cons_of_mem _ List.mem_cons_self)), (List.forall_mem_cons.mpr ⟨(List.mem_cons_of_mem _ (List.mem_cons_of_mem _ (List.mem_cons_of_mem _ List.mem_cons_self))), (List.forall_mem_cons.mpr ⟨(List.mem_cons_of_mem _ (List.mem_cons_of_mem _ (List.mem_cons_of_mem _ (List.mem_cons_of_mem _ List.mem_cons_self)))), (fun _ h => absurd h List.not_mem_nil)⟩)⟩)⟩)⟩)⟩), show ([3, 2, 0, 1, 4] : List Nat).Nodup by decide⟩ (C_rd3 (r := r.bind (sOut T L nb)) hn hA d5 ?_ _ _ _ _)) (fun o h2 u2 q => ?_)
                 · rcases gr with ⟨g1, g2⟩ | ⟨g1, p, F, g2, g3, g4, g5⟩
                   · subst g2
                     exact Or.inl ⟨by rw [i3 g1]; decide, rfl⟩
                   · subst g2
                     obtain ⟨w1, w2⟩ := k1 p g3 g4
                     have t1 := tkS_b (T := T) (c := 37) g3 (by decide)
                     obtain ⟨x1, x2⟩ := k2 _ t1.1 w2
                     have t2 := tkS_b (T := T) (c := 64) t1.1 (by decide)
                     have w := k3 g1 _ t2.1 x2
                     show GR T L A AS AN _ _ _ (sOut T L nb (p, F))
                     unfold sOut
                     dsimp only
                     rw [if_pos (by rw [← w1]; exact c1347), if_pos (by rw [← x1]; exact c1351)]
                     cases en : nuS T L (tkS T L 64 (tkS T L 37 p).2).2 with
                     | none =>
                       rw [en] at w
                       have w : bd3 = 1 := w
                       exact Or.inl ⟨by rw [w]; decide, rfl⟩
                     | some x =>
                       rw [en] at w
                       dsimp only at w ⊢
                       obtain ⟨y1, y2, y3⟩ := w
                       first
                         | (rw [if_neg (Int32.not_lt.mpr (by rw [← y2]; exact c1362))]
                            refine Or.inr ⟨by rw [y1]; decide, x.2, _, rfl, (nuS_b t2.1 en).1, y3, ?_⟩
                            rw [← y2]
                            exact ((((g5.fm f1).fm f2).fm f3).put (i := 7) (j := 6) (by decide) (fun z => absurd z (by decide)) g1355).fm f5)
                         | (rw [if_pos (Int32.not_le.mp (by rw [← y2]; exact c1362))]
                            exact Or.inl ⟨by rw [y1]; decide, rfl⟩)
                 · rw [Option.bind_assoc] at q
                   exact q.pre (((((FA.fm f1).trans (FA.fm f2)).trans (FA.fm f3)).trans (FA.put g1355 (Or.inl ⟨rfl, by decide⟩))).trans (FA.fm f5)))
              | (have d4 := d3.putC g1376 hA hn.1.1 hn.1.2
                 refine zL_K _ _ _ _ _ _ _ _ _ (zL_pm _ _ _ [(3, _), (2, _), (0, _), (1, _), (4, _)] _ _ _ _ _ ⟨(List.forall_mem_cons.mpr ⟨List.mem_cons_self, (List.forall_mem_cons.mpr ⟨(List.mem_cons_of_mem _ List.mem_cons_self), (List.forall_mem_cons.mpr ⟨(List.mem_cons_of_mem _ (List.mem_cons_of_mem _ List.mem_cons_self)), (List.forall_mem_cons.mpr ⟨(List.mem_cons_of_mem _ (List.mem_cons_of_mem _ (List.mem_cons_of_mem _ List.mem_cons_self))), (List.forall_mem_cons.mpr ⟨(List.mem_cons_of_mem _ (List.mem_cons_of_mem _ (List.mem_cons_of_mem _ (List.mem_cons_of_mem _ List.mem_cons_self)))), (fun _ h => absurd h List.not_mem_nil)⟩)⟩)⟩)⟩)⟩), show ([3, 2, 0, 1, 4] : List Nat).Nodup by decide⟩ (C_rd3 (r := r.bind (sOut T L nb)) hn hA d4 ?_ _ _ _ _)) (fun o h2 u2 q => ?_)
                 · rcases gr with ⟨g1, g2⟩ | ⟨g1, p, F, g2, g3, g4, g5⟩
                   · subst g2
                     exact Or.inl ⟨i3 g1, rfl⟩
                   · subst g2
                     obtain ⟨w1, w2⟩ := k1 p g3 g4
                     have t1 := tkS_b (T := T) (c := 37) g3 (by decide)
                     obtain ⟨x1, x2⟩ := k2 _ t1.1 w2
                     have t2 := tkS_b (T := T) (c := 64) t1.1 (by decide)
                     have w := k3 g1 _ t2.1 x2
                     show GR T L A AS AN _ _ _ (sOut T L nb (p, F))
                     unfold sOut
                     dsimp only
                     rw [if_pos (by rw [← w1]; exact c1347), if_neg (by rw [← x1]; exact c1351)]
                     cases en : nuS T L (tkS T L 64 (tkS T L 37 p).2).2 with
                     | none =>
                       rw [en] at w
                       exact Or.inl ⟨w, rfl⟩
                     | some x =>
                       rw [en] at w
                       dsimp only at w ⊢
                       by_cases z : nb ≤ x.1
                       · rw [if_pos z] at w ⊢
                         exact Or.inl ⟨w, rfl⟩
                       · rw [if_neg z] at w ⊢
                         obtain ⟨y1, y2, y3⟩ := w
                         refine Or.inr ⟨y1, x.2, _, rfl, (nuS_b t2.1 en).1, y3, ?_⟩
                         rw [← y2]
                         exact (((g5.fm f1).fm f2).fm f3).put (i := 7) (j := 6) (by decide) (fun z => absurd z (by decide)) g1376
                 · rw [Option.bind_assoc] at q
                   exact q.pre ((((FA.fm f1).trans (FA.fm f2)).trans (FA.fm f3)).trans (FA.put g1376 (Or.inl ⟨rfl, by decide⟩))))
              | (have d2 := d1.putC g0 hA hn.1.1 hn.1.2
                 refine zL_K _ _ _ _ _ _ _ _ _ (zL_pm _ _ _ [(3, _), (2, _), (0, _), (1, _), (4, _)] _ _ _ _ _ ⟨(List.forall_mem_cons.mpr ⟨List.mem_cons_self, (List.forall_mem_cons.mpr ⟨(List.mem_cons_of_mem _ List.mem_cons_self), (List.forall_mem_cons.mpr ⟨(List.mem_cons_of_mem _ (List.mem_cons_of_mem _ List.mem_cons_self)), (List.forall_mem_cons.mpr ⟨(List.mem_cons_of_mem _ (List.mem_cons_of_mem _ (List.mem_cons_of_mem _ List.mem_cons_self))), (List.forall_mem_cons.mpr ⟨(List.mem_cons_of_mem _ (List.mem_cons_of_mem _ (List.mem_cons_of_mem _ (List.mem_cons_of_mem _ List.mem_cons_self)))), (fun _ h => absurd h List.not_mem_nil)⟩)⟩)⟩)⟩)⟩), show ([3, 2, 0, 1, 4] : List Nat).Nodup by decide⟩ (C_rd3 (r := r.bind (sOut T L nb)) hn hA d2 ?_ _ _ _ _)) (fun o h2 u2 q => ?_)
                 · rcases gr with ⟨g1, g2⟩ | ⟨g1, p, F, g2, g3, g4, g5⟩
                   · subst g2
                     exact Or.inl ⟨g1, rfl⟩
                   · subst g2
                     obtain ⟨w1, w2⟩ := k1 p g3 g4
                     have t1 := tkS_b (T := T) (c := 37) g3 (by decide)
                     refine Or.inr ⟨g1, _, upF F 6 (-1), ?_, t1.1, w2, (g5.fm f1).put (i := 7) (j := 6) (by decide) (fun z => absurd z (by decide)) g0⟩
                     show sOut T L nb (p, F) = _
                     unfold sOut
                     dsimp only
                     rw [if_neg (by rw [← w1]; exact c1347)]
                 · rw [Option.bind_assoc] at q
                   exact q.pre ((FA.fm f1).trans (FA.put g0 (Or.inl ⟨rfl, by decide⟩))))
          · obtain ⟨-, _, _, _, z, -⟩ := q1374
            cases z
      · obtain ⟨-, _, _, z, -⟩ := q1350
        cases z
    · cases e1347
      have c1347 := ndc q1347
      refine zSaload (m := 1) (k := 2) vr_148_189 rfl rfl rfl ?_
      refine zSp0 (pc' := 191) (st' := .int (-1) :: _) vr_148_190 rfl rfl ?_
      refine zLput vr_148_191 rfl (fun p1380 k1380 e1380 t1380 g1380 => ?_)
      cases e1380
      refine zSgo (t := 252) vr_148_194 rfl rfl ?_
      first
        | (obtain ⟨d5, f5⟩ := d4.putB g1369 (by first | exact or01 d4.or (Or.inr rfl) | exact or01 d4.or (Or.inl rfl))
           refine zL_K _ _ _ _ _ _ _ _ _ (zL_pm _ _ _ [(3, _), (2, _), (0, _), (1, _), (4, _)] _ _ _ _ _ ⟨(List.forall_mem_cons.mpr ⟨List.mem_cons_self, (List.forall_mem_cons.mpr ⟨(List.mem_cons_of_mem _ List.mem_cons_self), (List.forall_mem_cons.mpr ⟨(List.mem_cons_of_mem _ (List.mem_cons_of_mem _ List.mem_cons_self)), (List.forall_mem_cons.mpr ⟨(List.mem_cons_of_mem _ (List.mem_cons_of_mem _ (List.mem_cons_of_mem _ List.mem_cons_self))), (List.forall_mem_cons.mpr ⟨(List.mem_cons_of_mem _ (List.mem_cons_of_mem _ (List.mem_cons_of_mem _ (List.mem_cons_of_mem _ List.mem_cons_self)))), (fun _ h => absurd h List.not_mem_nil)⟩)⟩)⟩)⟩)⟩), show ([3, 2, 0, 1, 4] : List Nat).Nodup by decide⟩ (C_rd3 (r := r.bind (sOut T L nb)) hn hA d5 ?_ _ _ _ _)) (fun o h2 u2 q => ?_)
           · rcases gr with ⟨g1, g2⟩ | ⟨g1, p, F, g2, g3, g4, g5⟩
             · subst g2
               exact Or.inl ⟨by rw [i3 g1]; decide, rfl⟩
             · subst g2
               obtain ⟨w1, w2⟩ := k1 p g3 g4
               have t1 := tkS_b (T := T) (c := 37) g3 (by decide)
               obtain ⟨x1, x2⟩ := k2 _ t1.1 w2
               have t2 := tkS_b (T := T) (c := 64) t1.1 (by decide)
               have w := k3 g1 _ t2.1 x2
               show GR T L A AS AN _ _ _ (sOut T L nb (p, F))
               unfold sOut
               dsimp only
               rw [if_pos (by rw [← w1]; exact c1347), if_pos (by rw [← x1]; exact c1351)]
               cases en : nuS T L (tkS T L 64 (tkS T L 37 p).2).2 with
               | none =>
                 rw [en] at w
                 have w : bd3 = 1 := w
                 exact Or.inl ⟨by rw [w]; decide, rfl⟩
               | some x =>
                 rw [en] at w
                 dsimp only at w ⊢
                 obtain ⟨y1, y2, y3⟩ := w
                 first
                   | (rw [if_neg (Int32.not_lt.mpr (by rw [← y2]; exact c1362))]
                      refine Or.inr ⟨by rw [y1]; decide, x.2, _, rfl, (nuS_b t2.1 en).1, y3, ?_⟩
                      rw [← y2]
                      exact ((((g5.fm f1).fm f2).fm f3).put (i := 7) (j := 6) (by decide) (fun z => absurd z (by decide)) g1355).fm f5)
                   | (rw [if_pos (Int32.not_le.mp (by rw [← y2]; exact c1362))]
                      exact Or.inl ⟨by rw [y1]; decide, rfl⟩)
           · rw [Option.bind_assoc] at q
             exact q.pre (((((FA.fm f1).trans (FA.fm f2)).trans (FA.fm f3)).trans (FA.put g1355 (Or.inl ⟨rfl, by decide⟩))).trans (FA.fm f5)))
        | (have d4 := d3.putC g1376 hA hn.1.1 hn.1.2
           refine zL_K _ _ _ _ _ _ _ _ _ (zL_pm _ _ _ [(3, _), (2, _), (0, _), (1, _), (4, _)] _ _ _ _ _ ⟨(List.forall_mem_cons.mpr ⟨List.mem_cons_self, (List.forall_mem_cons.mpr ⟨(List.mem_cons_of_mem _ List.mem_cons_self), (List.forall_mem_cons.mpr ⟨(List.mem_cons_of_mem _ (List.mem_cons_of_mem _ List.mem_cons_self)), (List.forall_mem_cons.mpr ⟨(List.mem_cons_of_mem _ (List.mem_cons_of_mem _ (List.mem_cons_of_mem _ List.mem_cons_self))), (List.forall_mem_cons.mpr ⟨(List.mem_cons_of_mem _ (List.mem_cons_of_mem _ (List.mem_cons_of_mem _ (List.mem_cons_of_mem _ List.mem_cons_self)))), (fun _ h => absurd h List.not_mem_nil)⟩)⟩)⟩)⟩)⟩), show ([3, 2, 0, 1, 4] : List Nat).Nodup by decide⟩ (C_rd3 (r := r.bind (sOut T L nb)) hn hA d4 ?_ _ _ _ _)) (fun o h2 u2 q => ?_)
           · rcases gr with ⟨g1, g2⟩ | ⟨g1, p, F, g2, g3, g4, g5⟩
             · subst g2
               exact Or.inl ⟨i3 g1, rfl⟩
             · subst g2
               obtain ⟨w1, w2⟩ := k1 p g3 g4
               have t1 := tkS_b (T := T) (c := 37) g3 (by decide)
               obtain ⟨x1, x2⟩ := k2 _ t1.1 w2
               have t2 := tkS_b (T := T) (c := 64) t1.1 (by decide)
               have w := k3 g1 _ t2.1 x2
               show GR T L A AS AN _ _ _ (sOut T L nb (p, F))
               unfold sOut
               dsimp only
               rw [if_pos (by rw [← w1]; exact c1347), if_neg (by rw [← x1]; exact c1351)]
               cases en : nuS T L (tkS T L 64 (tkS T L 37 p).2).2 with
               | none =>
                 rw [en] at w
                 exact Or.inl ⟨w, rfl⟩
               | some x =>
                 rw [en] at w
                 dsimp only at w ⊢
                 by_cases z : nb ≤ x.1
                 · rw [if_pos z] at w ⊢
                   exact Or.inl ⟨w, rfl⟩
                 · rw [if_neg z] at w ⊢
                   obtain ⟨y1, y2, y3⟩ := w
                   refine Or.inr ⟨y1, x.2, _, rfl, (nuS_b t2.1 en).1, y3, ?_⟩
                   rw [← y2]
                   exact (((g5.fm f1).fm f2).fm f3).put (i := 7) (j := 6) (by decide) (fun z => absurd z (by decide)) g1376
           · rw [Option.bind_assoc] at q
             exact q.pre ((((FA.fm f1).trans (FA.fm f2)).trans (FA.fm f3)).trans (FA.put g1376 (Or.inl ⟨rfl, by decide⟩))))
        | (have d2 := d1.putC g1380 hA hn.1.1 hn.1.2
           refine zL_K _ _ _ _ _ _ _ _ _ (zL_pm _ _ _ [(3, _), (2, _), (0, _), (1, _), (4, _)] _ _ _ _ _ ⟨(List.forall_mem_cons.mpr ⟨List.mem_cons_self, (List.forall_mem_cons.mpr ⟨(List.mem_cons_of_mem _ List.mem_cons_self), (List.forall_mem_cons.mpr ⟨(List.mem_cons_of_mem _ (List.mem_cons_of_mem _ List.mem_cons_self)), (List.forall_mem_cons.mpr ⟨(List.mem_cons_of_mem _ (List.mem_cons_of_mem _ (List.mem_cons_of_mem _ List.mem_cons_self))), (List.forall_mem_cons.mpr ⟨(List.mem_cons_of_mem _ (List.mem_cons_of_mem _ (List.mem_cons_of_mem _ (List.mem_cons_of_mem _ List.mem_cons_self)))), (fun _ h => absurd h List.not_mem_nil)⟩)⟩)⟩)⟩)⟩), show ([3, 2, 0, 1, 4] : List Nat).Nodup by decide⟩ (C_rd3 (r := r.bind (sOut T L nb)) hn hA d2 ?_ _ _ _ _)) (fun o h2 u2 q => ?_)
           · rcases gr with ⟨g1, g2⟩ | ⟨g1, p, F, g2, g3, g4, g5⟩
             · subst g2
               exact Or.inl ⟨g1, rfl⟩
             · subst g2
               obtain ⟨w1, w2⟩ := k1 p g3 g4
               have t1 := tkS_b (T := T) (c := 37) g3 (by decide)
               refine Or.inr ⟨g1, _, upF F 6 (-1), ?_, t1.1, w2, (g5.fm f1).put (i := 7) (j := 6) (by decide) (fun z => absurd z (by decide)) g1380⟩
               show sOut T L nb (p, F) = _
               unfold sOut
               dsimp only
               rw [if_neg (by rw [← w1]; exact c1347)]
           · rw [Option.bind_assoc] at q
             exact q.pre ((FA.fm f1).trans (FA.put g1380 (Or.inl ⟨rfl, by decide⟩))))
  · obtain ⟨-, _, _, z, -⟩ := q1346
    cases z
set_option maxRecDepth 20000 in
theorem C_rd2 {T : Nat → Int32} {L s b A AS AN : Nat} {a bd nb : Int32} {r : Option (Nat × (Nat → Int32))} {h : List zC} (hn : NE s b A AS AN) (hA : 239 ≤ A) (d : MB T L s b h a bd) (gr : GR T L A AS AN h a bd r) (v3 w : Value) (n u : Nat) : zL zrx zi n 148 157 [(3, v3), (2, .ref A), (0, .ref 213), (1, .int nb), (4, w)] [] h u (fun o h2 _ => RP T L s b A AS AN h h2 (r.bind (rd2 T L nb)) o) := by
  refine zSaload (m := 1) (k := 0) vr_148_157 rfl rfl rfl ?_
  refine zSdup vr_148_158 rfl ?_
  refine zLget vr_148_159 rfl (fun p1384 w1384 e1384 t1384 g1384 => ?_)
  cases e1384
  first | (rw [d.fl] at g1384; cases g1384) | skip
  refine zSaload (m := 1) (k := 0) vr_148_162 rfl rfl rfl ?_
  refine zSp0 (pc' := 165) (st' := .int (61) :: _) vr_148_163 rfl rfl ?_
  refine zScall vr_148_165 rfl rfl rfl (fun m1387 _ => C_mtk _ _ _ _ d ⟨by decide, by decide⟩) (fun v1387 h1387 u1387 q1387 => ?_) (fun E1387 h1387 u1387 q1387 => ?_)
  · obtain ⟨f1, a1, r1, z1387, d1, k1⟩ := q1387
    cases z1387
    show zL zrx zi _ 148 168 [(3, _), (2, _), (0, _), (1, _), (4, _)] [_, _, _] _ _ _
    refine zSb1 (f := fun x => decide (¬ x = 0)) (off := 7) (t := 175) vr_148_168 rfl rfl rfl (fun x1388 e1388 q1388 => ?_) (fun x1388 e1388 q1388 => ?_)
    · cases e1388
      have c1388 := of_decide_eq_true q1388
      refine zSp0 (pc' := 176) (st' := .int (0) :: _) vr_148_175 rfl rfl ?_
      refine zS2 (f := fun x y => .int (x ||| y)) vr_148_176 rfl rfl (fun x1390 y1390 e1390 f1390 => ?_)
      cases e1390
      cases f1390
      refine zLput vr_148_177 rfl (fun p1391 k1391 e1391 t1391 g1391 => ?_)
      cases e1391
      obtain ⟨d2, f2⟩ := d1.putB g1391 (by first | exact or01 d.or (Or.inr rfl) | exact or01 d.or (Or.inl rfl))
      refine zL_K _ _ _ _ _ _ _ _ _ (zL_pm _ _ _ [(3, _), (2, _), (0, _), (1, _), (4, _)] _ _ _ _ _ ⟨(List.forall_mem_cons.mpr ⟨List.mem_cons_self, (List.forall_mem_cons.mpr ⟨(List.mem_cons_of_mem _ List.mem_cons_self), (List.forall_mem_cons.mpr ⟨(List.mem_cons_of_mem _ (List.mem_cons_of_mem _ List.mem_cons_self)), (List.forall_mem_cons.mpr ⟨(List.mem_cons_of_mem _ (List.mem_cons_of_mem _ (List.mem_cons_of_mem _ List.mem_cons_self))), (List.forall_mem_cons.mpr ⟨(List.mem_cons_of_mem _ (List.mem_cons_of_mem _ (List.mem_cons_of_mem _ (List.mem_cons_of_mem _ List.mem_cons_self)))), (fun _ h => absurd h List.not_mem_nil)⟩)⟩)⟩)⟩)⟩), show ([3, 2, 0, 1, 4] : List Nat).Nodup by decide⟩ (C_rd2b (r := r.bind (xEq T L)) hn hA d2 ?_ _ _ _ _)) (fun o h2 u2 q => ?_)
      · rcases gr with ⟨g1, g2⟩ | ⟨g1, p, F, g2, g3, g4, g5⟩
        · subst g2
          exact Or.inl ⟨by rw [g1]; decide, rfl⟩
        · subst g2
          obtain ⟨w1, w2⟩ := k1 p g3 g4
          first
            | (refine Or.inr ⟨by rw [g1]; decide, _, F, ?_, (tkS_b (T := T) (c := 61) g3 (by decide)).1, w2, (g5.fm f1).fm f2⟩
               show xEq T L (p, F) = _
               unfold xEq
               dsimp only
               rw [if_neg (by rw [← w1]; exact c1388)])
            | (refine Or.inl ⟨by rw [g1]; decide, ?_⟩
               show xEq T L (p, F) = _
               unfold xEq
               dsimp only
               rw [if_pos (by rw [← w1]; exact Decidable.not_not.mp c1388)])
      · rw [Option.bind_assoc] at q
        exact q.pre (FA.fm (f1.trans f2))
    · cases e1388
      have c1388 := ndc q1388
      refine zSp0 (pc' := 172) (st' := .int (1) :: _) vr_148_171 rfl rfl ?_
      refine zSgo (t := 176) vr_148_172 rfl rfl ?_
      refine zS2 (f := fun x y => .int (x ||| y)) vr_148_176 rfl rfl (fun x1394 y1394 e1394 f1394 => ?_)
      cases e1394
      cases f1394
      refine zLput vr_148_177 rfl (fun p1395 k1395 e1395 t1395 g1395 => ?_)
      cases e1395
      obtain ⟨d2, f2⟩ := d1.putB g1395 (by first | exact or01 d.or (Or.inr rfl) | exact or01 d.or (Or.inl rfl))
      refine zL_K _ _ _ _ _ _ _ _ _ (zL_pm _ _ _ [(3, _), (2, _), (0, _), (1, _), (4, _)] _ _ _ _ _ ⟨(List.forall_mem_cons.mpr ⟨List.mem_cons_self, (List.forall_mem_cons.mpr ⟨(List.mem_cons_of_mem _ List.mem_cons_self), (List.forall_mem_cons.mpr ⟨(List.mem_cons_of_mem _ (List.mem_cons_of_mem _ List.mem_cons_self)), (List.forall_mem_cons.mpr ⟨(List.mem_cons_of_mem _ (List.mem_cons_of_mem _ (List.mem_cons_of_mem _ List.mem_cons_self))), (List.forall_mem_cons.mpr ⟨(List.mem_cons_of_mem _ (List.mem_cons_of_mem _ (List.mem_cons_of_mem _ (List.mem_cons_of_mem _ List.mem_cons_self)))), (fun _ h => absurd h List.not_mem_nil)⟩)⟩)⟩)⟩)⟩), show ([3, 2, 0, 1, 4] : List Nat).Nodup by decide⟩ (C_rd2b (r := r.bind (xEq T L)) hn hA d2 ?_ _ _ _ _)) (fun o h2 u2 q => ?_)
      · rcases gr with ⟨g1, g2⟩ | ⟨g1, p, F, g2, g3, g4, g5⟩
        · subst g2
          exact Or.inl ⟨by rw [g1]; decide, rfl⟩
        · subst g2
          obtain ⟨w1, w2⟩ := k1 p g3 g4
          first
            | (refine Or.inr ⟨by rw [g1]; decide, _, F, ?_, (tkS_b (T := T) (c := 61) g3 (by decide)).1, w2, (g5.fm f1).fm f2⟩
               show xEq T L (p, F) = _
               unfold xEq
               dsimp only
               rw [if_neg (by rw [← w1]; exact c1388)])
            | (refine Or.inl ⟨by rw [g1]; decide, ?_⟩
               show xEq T L (p, F) = _
               unfold xEq
               dsimp only
               rw [if_pos (by rw [← w1]; exact Decidable.not_not.mp c1388)])
      · rw [Option.bind_assoc] at q
        exact q.pre (FA.fm (f1.trans f2))
  · obtain ⟨-, _, _, z, -⟩ := q1387
    cases z
set_option maxRecDepth 20000 in
theorem C_rdc {T : Nat → Int32} {L s b A AS AN : Nat} {nb : Int32} (hn : NE s b A AS AN) (hA : 239 ≤ A) : ∀ (n m : Nat) (a bd : Int32) (r : Option (Nat × (Nat → Int32))) (v3 w : Value) (h : List zC) (u : Nat), MB T L s b h a bd → GR T L A AS AN h a bd r → (∀ y, r = some y → L - y.1 < m) → zL zrx zi n 148 133 [(3, v3), (2, .ref A), (0, .ref 213), (1, .int nb), (4, w)] [] h u (fun o h2 _ => RP T L s b A AS AN h h2 (r.bind (rdc T L nb m)) o)
  | 0, _, _, _, _, _, _, _, _ => fun _ _ _ => trivial
  | n + 1, m, a, bd, r, v3, w, h, u => fun d gr hf => by
    refine zLp vr_148_133 rfl rfl ?_
    refine zLget vr_148_134 rfl (fun p1396 w1396 e1396 t1396 g1396 => ?_)
    cases e1396
    first | (rw [d.fl] at g1396; cases g1396) | skip
    refine zSb1 (f := fun x => decide (¬ x = 0)) (off := 20) (t := 157) vr_148_137 rfl rfl rfl (fun x1397 e1397 q1397 => ?_) (fun x1397 e1397 q1397 => ?_)
    · cases e1397
      have c1397 := of_decide_eq_true q1397
      first
        | (obtain ⟨w1, w2⟩ := k1 p g3 g4
           have ns : sg T L p = 61 := (sgM_c d.hT (by decide) (by decide)).mp (w1.symm.trans c1262)
           refine zL_K _ _ _ _ _ _ _ _ _ (zL_pm _ _ _ [(3, _), (2, _), (0, _), (1, _), (4, _)] _ _ _ _ _ ⟨(List.forall_mem_cons.mpr ⟨List.mem_cons_self, (List.forall_mem_cons.mpr ⟨(List.mem_cons_of_mem _ List.mem_cons_self), (List.forall_mem_cons.mpr ⟨(List.mem_cons_of_mem _ (List.mem_cons_of_mem _ List.mem_cons_self)), (List.forall_mem_cons.mpr ⟨(List.mem_cons_of_mem _ (List.mem_cons_of_mem _ (List.mem_cons_of_mem _ List.mem_cons_self))), (List.forall_mem_cons.mpr ⟨(List.mem_cons_of_mem _ (List.mem_cons_of_mem _ (List.mem_cons_of_mem _ (List.mem_cons_of_mem _ List.mem_cons_self)))), (fun _ h => absurd h List.not_mem_nil)⟩)⟩)⟩)⟩)⟩), show ([3, 2, 0, 1, 4] : List Nat).Nodup by decide⟩ (C_rd2 (r := some (skp T L p, F)) hn hA d1 ?_ _ _ _ _)) (fun o h2 u2 q => ?_)
           · exact Or.inr ⟨rfl, _, _, rfl, sl.2.1, w2, g5.fm f1⟩
           · have e : (some (p, F)).bind (rdc T L nb (m + 1)) = (some (skp T L p, F)).bind (rd2 T L nb) := by
               show (scF T L (m + 1) (p, F)).bind (rd2 T L nb) = _
               rw [scF_y (y := (p, F)) ns]
             rw [e]
             exact q.pre (FA.fm f1))
        | (have e := gr.bad c1397
           subst e
           exact zL_pm _ _ _ [(3, _), (2, _), (0, _), (1, _), (4, _)] _ _ _ _ _ ⟨(List.forall_mem_cons.mpr ⟨List.mem_cons_self, (List.forall_mem_cons.mpr ⟨(List.mem_cons_of_mem _ List.mem_cons_self), (List.forall_mem_cons.mpr ⟨(List.mem_cons_of_mem _ (List.mem_cons_of_mem _ List.mem_cons_self)), (List.forall_mem_cons.mpr ⟨(List.mem_cons_of_mem _ (List.mem_cons_of_mem _ (List.mem_cons_of_mem _ List.mem_cons_self))), (List.forall_mem_cons.mpr ⟨(List.mem_cons_of_mem _ (List.mem_cons_of_mem _ (List.mem_cons_of_mem _ (List.mem_cons_of_mem _ List.mem_cons_self)))), (fun _ h => absurd h List.not_mem_nil)⟩)⟩)⟩)⟩)⟩), show ([3, 2, 0, 1, 4] : List Nat).Nodup by decide⟩ (C_rd2 (r := none) hn hA d gr _ _ _ _))
    · cases e1397
      have c1397 := ndc q1397
      have b0 := Decidable.not_not.mp c1397
      subst b0
      obtain ⟨p, F, e2, g3, g4, g5⟩ := gr.good rfl
      subst e2
      have hm : L - p < m := hf _ rfl
      obtain ⟨m, rfl⟩ : ∃ k, m = k + 1 := ⟨m - 1, by omega⟩
      have sl := skp_b (T := T) _ p rfl g3
      refine zSaload (m := 1) (k := 0) vr_148_140 rfl rfl rfl ?_
      refine zScall vr_148_141 rfl rfl rfl (fun m1399 _ => C_msg _ _ _ _ d) (fun v1399 h1399 u1399 q1399 => ?_) (fun E1399 h1399 u1399 q1399 => ?_)
      · obtain ⟨f1, a1, c1, z1399, d1, k1⟩ := q1399
        cases z1399
        show zL zrx zi _ 148 144 [(3, _), (2, _), (0, _), (1, _), (4, _)] [_] _ _ _
        refine zSp0 (pc' := 146) (st' := .int (61) :: _) vr_148_144 rfl rfl ?_
        refine zSb2 (f := fun x y => decide (x = y)) (off := 11) (t := 157) vr_148_146 rfl rfl rfl (fun x1401 y1401 e1401 f1401 q1401 => ?_) (fun x1401 y1401 e1401 f1401 q1401 => ?_)
        · cases e1401
          cases f1401
          have c1401 := of_decide_eq_true q1401
          first
            | (obtain ⟨w1, w2⟩ := k1 p g3 g4
               have ns : sg T L p = 61 := (sgM_c d.hT (by decide) (by decide)).mp (w1.symm.trans c1401)
               refine zL_K _ _ _ _ _ _ _ _ _ (zL_pm _ _ _ [(3, _), (2, _), (0, _), (1, _), (4, _)] _ _ _ _ _ ⟨(List.forall_mem_cons.mpr ⟨List.mem_cons_self, (List.forall_mem_cons.mpr ⟨(List.mem_cons_of_mem _ List.mem_cons_self), (List.forall_mem_cons.mpr ⟨(List.mem_cons_of_mem _ (List.mem_cons_of_mem _ List.mem_cons_self)), (List.forall_mem_cons.mpr ⟨(List.mem_cons_of_mem _ (List.mem_cons_of_mem _ (List.mem_cons_of_mem _ List.mem_cons_self))), (List.forall_mem_cons.mpr ⟨(List.mem_cons_of_mem _ (List.mem_cons_of_mem _ (List.mem_cons_of_mem _ (List.mem_cons_of_mem _ List.mem_cons_self)))), (fun _ h => absurd h List.not_mem_nil)⟩)⟩)⟩)⟩)⟩), show ([3, 2, 0, 1, 4] : List Nat).Nodup by decide⟩ (C_rd2 (r := some (skp T L p, F)) hn hA d1 ?_ _ _ _ _)) (fun o h2 u2 q => ?_)
               · exact Or.inr ⟨rfl, _, _, rfl, sl.2.1, w2, g5.fm f1⟩
               · have e : (some (p, F)).bind (rdc T L nb (m + 1)) = (some (skp T L p, F)).bind (rd2 T L nb) := by
                   show (scF T L (m + 1) (p, F)).bind (rd2 T L nb) = _
                   rw [scF_y (y := (p, F)) ns]
                 rw [e]
                 exact q.pre (FA.fm f1))
            | (have e := gr.bad c1397
               subst e
               exact zL_pm _ _ _ [(3, _), (2, _), (0, _), (1, _), (4, _)] _ _ _ _ _ ⟨(List.forall_mem_cons.mpr ⟨List.mem_cons_self, (List.forall_mem_cons.mpr ⟨(List.mem_cons_of_mem _ List.mem_cons_self), (List.forall_mem_cons.mpr ⟨(List.mem_cons_of_mem _ (List.mem_cons_of_mem _ List.mem_cons_self)), (List.forall_mem_cons.mpr ⟨(List.mem_cons_of_mem _ (List.mem_cons_of_mem _ (List.mem_cons_of_mem _ List.mem_cons_self))), (List.forall_mem_cons.mpr ⟨(List.mem_cons_of_mem _ (List.mem_cons_of_mem _ (List.mem_cons_of_mem _ (List.mem_cons_of_mem _ List.mem_cons_self)))), (fun _ h => absurd h List.not_mem_nil)⟩)⟩)⟩)⟩)⟩), show ([3, 2, 0, 1, 4] : List Nat).Nodup by decide⟩ (C_rd2 (r := none) hn hA d gr _ _ _ _))
        · cases e1401
          cases f1401
          have c1401 := ndc q1401
          obtain ⟨w1, w2⟩ := k1 p g3 g4
          have ns : ¬ sg T L p = 61 := fun z => c1401 (w1.trans ((sgM_c d.hT (by decide) (by decide)).mpr z))
          refine zSaload (m := 1) (k := 0) vr_148_149 rfl rfl rfl ?_
          refine zSaload (m := 1) (k := 2) vr_148_150 rfl rfl rfl ?_
          refine zScall vr_148_151 rfl rfl rfl (fun m1404 _ => C_mcon _ _ _ hn d1 (g5.fm f1) sl.2.1 w2) (fun v1404 h1404 u1404 q1404 => ?_) (fun E1404 h1404 u1404 q1404 => ?_)
          · obtain ⟨fa1404, z1404, a2, bd2, d2, gr2⟩ := q1404
            cases z1404
            show zL zrx zi _ 148 154 [(3, _), (2, _), (0, _), (1, _), (4, _)] [] _ _ _
            refine zSgo (t := 133) vr_148_154 rfl rfl ?_
            refine zL_K _ _ _ _ _ _ _ _ _ (zL_pm _ _ _ [(3, _), (2, _), (0, _), (1, _), (4, _)] _ _ _ _ _ ⟨(List.forall_mem_cons.mpr ⟨List.mem_cons_self, (List.forall_mem_cons.mpr ⟨(List.mem_cons_of_mem _ List.mem_cons_self), (List.forall_mem_cons.mpr ⟨(List.mem_cons_of_mem _ (List.mem_cons_of_mem _ List.mem_cons_self)), (List.forall_mem_cons.mpr ⟨(List.mem_cons_of_mem _ (List.mem_cons_of_mem _ (List.mem_cons_of_mem _ List.mem_cons_self))), (List.forall_mem_cons.mpr ⟨(List.mem_cons_of_mem _ (List.mem_cons_of_mem _ (List.mem_cons_of_mem _ (List.mem_cons_of_mem _ List.mem_cons_self)))), (fun _ h => absurd h List.not_mem_nil)⟩)⟩)⟩)⟩)⟩), show ([3, 2, 0, 1, 4] : List Nat).Nodup by decide⟩ (C_rdc hn hA n m _ _ _ _ _ _ _ d2 gr2 (fun y e => ?_))) (fun o h2 u2 q => ?_)
            · have := sCon_b sl.2.1 e
              omega
            · have e : (some (p, F)).bind (rdc T L nb (m + 1)) = (sCon T L (skp T L p) F).bind (rdc T L nb m) := by
                show (scF T L (m + 1) (p, F)).bind (rd2 T L nb) = _
                rw [scF_n (y := (p, F)) ns, Option.bind_assoc]
                rfl
              rw [e]
              exact q.pre ((FA.fm f1).trans fa1404)
          · obtain ⟨-, z, -⟩ := q1404
            cases z
      · obtain ⟨-, _, _, z, -⟩ := q1399
        cases z
set_option maxRecDepth 20000 in
theorem C_rdk {T : Nat → Int32} {L s b A AS AN : Nat} {nb : Int32} (hn : NE s b A AS AN) (hA : 239 ≤ A) : ∀ (n m : Nat) (a bd last : Int32) (r : Option (Nat × (Nat → Int32))) (w : Value) (h : List zC) (u : Nat), MB T L s b h a bd → GR T L A AS AN h a bd r → (∀ y, r = some y → L - y.1 < m) → zL zrx zi n 148 65 [(3, .int last), (2, .ref A), (0, .ref 213), (1, .int nb), (4, w)] [] h u (fun o h2 _ => RP T L s b A AS AN h h2 (r.bind (rdk T L nb m last)) o)
  | 0, _, _, _, _, _, _, _, _ => fun _ _ _ => trivial
  | n + 1, m, a, bd, last, r, w, h, u => fun d gr hf => by
    have l60 := d.sb.l60
    refine zLp vr_148_65 rfl rfl ?_
    refine zLget vr_148_66 rfl (fun p1406 w1406 e1406 t1406 g1406 => ?_)
    cases e1406
    first | (rw [d.fl] at g1406; cases g1406) | skip
    refine zSb1 (f := fun x => decide (¬ x = 0)) (off := 64) (t := 133) vr_148_69 rfl rfl rfl (fun x1407 e1407 q1407 => ?_) (fun x1407 e1407 q1407 => ?_)
    · cases e1407
      have c1407 := of_decide_eq_true q1407
      first
        | (obtain ⟨w1, w2⟩ := k1 p g3 g4
           have nd : ¬ rI 48 57 (sg T L p) := fun y => isD_n (Decidable.not_not.mp c604) (by rw [w1]; exact sgM_D.mpr y)
           have nl : ¬ (rI 48 57 (sg T L p) ∨ last = -1) := fun y => by
             rcases y with y | y
             · exact nd y
             · exact c1285 y
           refine zL_K _ _ _ _ _ _ _ _ _ (zL_pm _ _ _ [(3, _), (2, _), (0, _), (1, _), (4, _)] _ _ _ _ _ ⟨(List.forall_mem_cons.mpr ⟨List.mem_cons_self, (List.forall_mem_cons.mpr ⟨(List.mem_cons_of_mem _ List.mem_cons_self), (List.forall_mem_cons.mpr ⟨(List.mem_cons_of_mem _ (List.mem_cons_of_mem _ List.mem_cons_self)), (List.forall_mem_cons.mpr ⟨(List.mem_cons_of_mem _ (List.mem_cons_of_mem _ (List.mem_cons_of_mem _ List.mem_cons_self))), (List.forall_mem_cons.mpr ⟨(List.mem_cons_of_mem _ (List.mem_cons_of_mem _ (List.mem_cons_of_mem _ (List.mem_cons_of_mem _ List.mem_cons_self)))), (fun _ h => absurd h List.not_mem_nil)⟩)⟩)⟩)⟩)⟩), show ([3, 2, 0, 1, 4] : List Nat).Nodup by decide⟩ (C_rdc hn hA _ 61 _ _ (some (skp T L p, F)) _ _ _ _ d1 ?_ (fun y e => ?_))) (fun o h2 u2 q => ?_)
           · exact Or.inr ⟨rfl, _, _, rfl, sl.2.1, w2, g5.fm f1⟩
           · omega
           · have e : (some (p, F)).bind (rdk T L nb (m + 1) last) = (some (skp T L p, F)).bind (rdc T L nb 61) := by
               show (slF T L (m + 1) last (p, F)).bind (rdc T L nb 61) = _
               rw [slF_e (y := (p, F)) nl]
             rw [e]
             exact q.pre (FA.fm f1))
        | (have e := gr.bad c1407
           subst e
           exact zL_pm _ _ _ [(3, _), (2, _), (0, _), (1, _), (4, _)] _ _ _ _ _ ⟨(List.forall_mem_cons.mpr ⟨List.mem_cons_self, (List.forall_mem_cons.mpr ⟨(List.mem_cons_of_mem _ List.mem_cons_self), (List.forall_mem_cons.mpr ⟨(List.mem_cons_of_mem _ (List.mem_cons_of_mem _ List.mem_cons_self)), (List.forall_mem_cons.mpr ⟨(List.mem_cons_of_mem _ (List.mem_cons_of_mem _ (List.mem_cons_of_mem _ List.mem_cons_self))), (List.forall_mem_cons.mpr ⟨(List.mem_cons_of_mem _ (List.mem_cons_of_mem _ (List.mem_cons_of_mem _ (List.mem_cons_of_mem _ List.mem_cons_self)))), (fun _ h => absurd h List.not_mem_nil)⟩)⟩)⟩)⟩)⟩), show ([3, 2, 0, 1, 4] : List Nat).Nodup by decide⟩ (C_rdc hn hA _ 61 _ _ none _ _ _ _ d gr (fun y e => by cases e)))
    · cases e1407
      have c1407 := ndc q1407
      have b0 := Decidable.not_not.mp c1407
      subst b0
      obtain ⟨p, F, e2, g3, g4, g5⟩ := gr.good rfl
      subst e2
      have hm : L - p < m := hf _ rfl
      obtain ⟨m, rfl⟩ : ∃ k, m = k + 1 := ⟨m - 1, by omega⟩
      have sl := skp_b (T := T) _ p rfl g3
      refine zSaload (m := 1) (k := 0) vr_148_72 rfl rfl rfl ?_
      refine zScall vr_148_73 rfl rfl rfl (fun m1409 _ => C_msg _ _ _ _ d) (fun v1409 h1409 u1409 q1409 => ?_) (fun E1409 h1409 u1409 q1409 => ?_)
      · obtain ⟨f1, a1, c1, z1409, d1, k1⟩ := q1409
        cases z1409
        show zL zrx zi _ 148 76 [(3, _), (2, _), (0, _), (1, _), (4, _)] [_] _ _ _
        refine zScall vr_148_76 rfl rfl rfl (fun m1410 _ => C_isD _ _ _ _) (fun v1410 h1410 u1410 q1410 => ?_) (fun E1410 h1410 u1410 q1410 => ?_)
        · obtain ⟨eh1410, z1410⟩ := q1410
          replace eh1410 := eh1410.symm
          subst eh1410
          cases z1410
          show zL zrx zi _ 148 79 [(3, _), (2, _), (0, _), (1, _), (4, _)] [_] _ _ _
          refine zSb1 (f := fun x => decide (¬ x = 0)) (off := 8) (t := 87) vr_148_79 rfl rfl rfl (fun x1411 e1411 q1411 => ?_) (fun x1411 e1411 q1411 => ?_)
          · cases e1411
            have c1411 := of_decide_eq_true q1411
            obtain ⟨w1, w2⟩ := k1 p g3 g4
            refine zSaload (m := 1) (k := 0) vr_148_87 rfl rfl rfl ?_
            refine zSp0 (pc' := 89) (st' := .int (4) :: _) vr_148_88 rfl rfl ?_
            refine zScall vr_148_89 rfl rfl rfl (fun m1414 _ => C_mdg _ _ _ _ d1 ⟨by decide, by decide⟩) (fun v1414 h1414 u1414 q1414 => ?_) (fun E1414 h1414 u1414 q1414 => ?_)
            · obtain ⟨f2, a2, bd2, v2, z1414, d2, i2, k2⟩ := q1414
              cases z1414
              show zL zrx zi _ 148 92 [(3, _), (2, _), (0, _), (1, _), (4, _)] [_] _ _ _
              refine zSistore (m := 2) (k := 4) vr_148_92 rfl rfl (fun x1415 e1415 => ?_)
              cases e1415
              show zL zrx zi _ 148 94 [(4, _), (3, _), (2, _), (0, _), (1, _)] [] _ _ _
              refine zSaload (m := 1) (k := 0) vr_148_94 rfl rfl rfl ?_
              refine zSdup vr_148_95 rfl ?_
              refine zLget vr_148_96 rfl (fun p1418 w1418 e1418 t1418 g1418 => ?_)
              cases e1418
              first | (rw [d2.fl] at g1418; cases g1418) | skip
              refine zSiload (m := 2) (k := 4) vr_148_99 rfl rfl rfl (fun x1419 e1419 => ?_)
              cases e1419
              refine zSiload (m := 1) (k := 3) vr_148_101 rfl rfl rfl (fun x1420 e1420 => ?_)
              cases e1420
              refine zSb2 (f := fun x y => decide (y < x)) (off := 7) (t := 109) vr_148_102 rfl rfl rfl (fun x1421 y1421 e1421 f1421 q1421 => ?_) (fun x1421 y1421 e1421 f1421 q1421 => ?_)
              · cases e1421
                cases f1421
                have c1421 := of_decide_eq_true q1421
                refine zSp0 (pc' := 110) (st' := .int (0) :: _) vr_148_109 rfl rfl ?_
                refine zS2 (f := fun x y => .int (x ||| y)) vr_148_110 rfl rfl (fun x1423 y1423 e1423 f1423 => ?_)
                cases e1423
                cases f1423
                refine zLput vr_148_111 rfl (fun p1424 k1424 e1424 t1424 g1424 => ?_)
                cases e1424
                obtain ⟨d3, f3⟩ := d2.putB g1424 (by first | exact or01 d2.or (Or.inr rfl) | exact or01 d2.or (Or.inl rfl))
                refine zSiload (m := 2) (k := 4) vr_148_114 rfl rfl rfl (fun x1425 e1425 => ?_)
                cases e1425
                refine zSistore (m := 1) (k := 3) vr_148_116 rfl rfl (fun x1426 e1426 => ?_)
                cases e1426
                show zL zrx zi _ 148 117 [(3, _), (4, _), (2, _), (0, _), (1, _)] [] _ _ _
                refine zSaload (m := 1) (k := 2) vr_148_117 rfl rfl rfl ?_
                refine zSdup vr_148_118 rfl ?_
                refine zLget vr_148_119 rfl (fun p1429 w1429 e1429 t1429 g1429 => ?_)
                cases e1429
                refine zSp0 (pc' := 123) (st' := .int (1) :: _) vr_148_122 rfl rfl ?_
                refine zSiload (m := 2) (k := 4) vr_148_123 rfl rfl rfl (fun x1431 e1431 => ?_)
                cases e1431
                refine zS2 (f := fun x y => .int (x <<< (y &&& 31))) vr_148_125 rfl rfl (fun x1432 y1432 e1432 f1432 => ?_)
                cases e1432
                cases f1432
                refine zS2 (f := fun x y => .int (x ||| y)) vr_148_126 rfl rfl (fun x1433 y1433 e1433 f1433 => ?_)
                cases e1433
                cases f1433
                refine zLput vr_148_127 rfl (fun p1434 k1434 e1434 t1434 g1434 => ?_)
                cases e1434
                refine zSgo (t := 65) vr_148_130 rfl rfl ?_
                have d4 := d3.putC g1434 hA hn.1.1 hn.1.2
                have kk := k2 rfl _ sl.2.1 w2
                rw [tkD_skp g3] at kk
                have az3 := ((g5.fm f1).fm f2).fm f3
                have ex := g1429.symm.trans (az3.1 (1, 1) (by decide))
                cases ex
                have fa : FA A AS AN h k1434 := (((FA.fm f1).trans (FA.fm f2)).trans (FA.fm f3)).trans (FA.put g1434 (Or.inl ⟨rfl, by decide⟩))
                have gd : rI 48 57 (sg T L p) ∨ last = -1 := by
                  first
                    | exact Or.inl (sgM_D.mp (by rw [← w1]; exact isD_y c1411))
                    | exact Or.inr (Decidable.not_not.mp c1285)
                have bad : (tkD T L 4 p).1 = -1 ∨ (tkD T L 4 p).1 ≤ last → (some (p, F)).bind (rdk T L nb (m + 1) last) = none := fun y => by
                  show (slF T L (m + 1) last (p, F)).bind (rdc T L nb 61) = _
                  rw [slF_b (y := (p, F)) gd y]
                  rfl
                rcases kk with ⟨y1, y2⟩ | ⟨y1, y2, y3, y4⟩
                · refine zL_K _ _ _ _ _ _ _ _ _ (zL_pm _ _ _ [(3, _), (2, _), (0, _), (1, _), (4, _)] _ _ _ _ _ ⟨(List.forall_mem_cons.mpr ⟨List.mem_cons_self, (List.forall_mem_cons.mpr ⟨(List.mem_cons_of_mem _ (List.mem_cons_of_mem _ (List.mem_cons_of_mem _ (List.mem_cons_of_mem _ List.mem_cons_self)))), (List.forall_mem_cons.mpr ⟨(List.mem_cons_of_mem _ List.mem_cons_self), (List.forall_mem_cons.mpr ⟨(List.mem_cons_of_mem _ (List.mem_cons_of_mem _ List.mem_cons_self)), (List.forall_mem_cons.mpr ⟨(List.mem_cons_of_mem _ (List.mem_cons_of_mem _ (List.mem_cons_of_mem _ List.mem_cons_self))), (fun _ h => absurd h List.not_mem_nil)⟩)⟩)⟩)⟩)⟩), show ([3, 2, 0, 1, 4] : List Nat).Nodup by decide⟩ (C_rdk hn hA n m _ _ _ none _ _ _ d4 ?_ (fun y e => by cases e))) (fun o h2 u2 q => ?_)
                  · exact Or.inl ⟨by rw [y2]; decide, rfl⟩
                  · rw [bad (Or.inl y1)]
                    exact q.pre fa
                · first
                    | (have gt : ¬ (tkD T L 4 p).1 ≤ last := Int32.not_le.mpr (by rw [← y3]; exact c1421)
                       refine zL_K _ _ _ _ _ _ _ _ _ (zL_pm _ _ _ [(3, _), (2, _), (0, _), (1, _), (4, _)] _ _ _ _ _ ⟨(List.forall_mem_cons.mpr ⟨List.mem_cons_self, (List.forall_mem_cons.mpr ⟨(List.mem_cons_of_mem _ (List.mem_cons_of_mem _ (List.mem_cons_of_mem _ (List.mem_cons_of_mem _ List.mem_cons_self)))), (List.forall_mem_cons.mpr ⟨(List.mem_cons_of_mem _ List.mem_cons_self), (List.forall_mem_cons.mpr ⟨(List.mem_cons_of_mem _ (List.mem_cons_of_mem _ List.mem_cons_self)), (List.forall_mem_cons.mpr ⟨(List.mem_cons_of_mem _ (List.mem_cons_of_mem _ (List.mem_cons_of_mem _ List.mem_cons_self))), (fun _ h => absurd h List.not_mem_nil)⟩)⟩)⟩)⟩)⟩), show ([3, 2, 0, 1, 4] : List Nat).Nodup by decide⟩ (C_rdk hn hA n m _ _ _ (some ((tkD T L 4 p).2, upF F 1 (F 1 ||| (1 <<< ((tkD T L 4 p).1 &&& 31))))) _ _ _ d4 ?_ (fun y e => ?_))) (fun o h2 u2 q => ?_)
                       · refine Or.inr ⟨by rw [y2]; decide, _, _, rfl, (tkD_b (T := T) g3).1, y4, ?_⟩
                         rw [← y3]
                         exact az3.put (i := 1) (j := 1) (by decide) (fun z => absurd z (by decide)) g1434
                       · cases e
                         have := tkD_adv g3 y1
                         have := (tkD_b (T := T) (m := 4) g3).1
                         show L - (tkD T L 4 p).2 < m
                         omega
                       · have e : (some (p, F)).bind (rdk T L nb (m + 1) last) = rdk T L nb m (tkD T L 4 p).1 ((tkD T L 4 p).2, upF F 1 (F 1 ||| (1 <<< ((tkD T L 4 p).1 &&& 31)))) := by
                           show (slF T L (m + 1) last (p, F)).bind (rdc T L nb 61) = _
                           rw [slF_y (y := (p, F)) gd y1 gt]
                           rfl
                         rw [e, ← y3]
                         rw [← y3] at q
                         exact q.pre fa)
                    | (have le : (tkD T L 4 p).1 ≤ last := Int32.not_lt.mp (by rw [← y3]; exact c1421)
                       refine zL_K _ _ _ _ _ _ _ _ _ (zL_pm _ _ _ [(3, _), (2, _), (0, _), (1, _), (4, _)] _ _ _ _ _ ⟨(List.forall_mem_cons.mpr ⟨List.mem_cons_self, (List.forall_mem_cons.mpr ⟨(List.mem_cons_of_mem _ (List.mem_cons_of_mem _ (List.mem_cons_of_mem _ (List.mem_cons_of_mem _ List.mem_cons_self)))), (List.forall_mem_cons.mpr ⟨(List.mem_cons_of_mem _ List.mem_cons_self), (List.forall_mem_cons.mpr ⟨(List.mem_cons_of_mem _ (List.mem_cons_of_mem _ List.mem_cons_self)), (List.forall_mem_cons.mpr ⟨(List.mem_cons_of_mem _ (List.mem_cons_of_mem _ (List.mem_cons_of_mem _ List.mem_cons_self))), (fun _ h => absurd h List.not_mem_nil)⟩)⟩)⟩)⟩)⟩), show ([3, 2, 0, 1, 4] : List Nat).Nodup by decide⟩ (C_rdk hn hA n m _ _ _ none _ _ _ d4 ?_ (fun y e => by cases e))) (fun o h2 u2 q => ?_)
                       · exact Or.inl ⟨by rw [y2]; decide, rfl⟩
                       · rw [bad (Or.inr le)]
                         exact q.pre fa)
              · cases e1421
                cases f1421
                have c1421 := ndc q1421
                refine zSp0 (pc' := 106) (st' := .int (1) :: _) vr_148_105 rfl rfl ?_
                refine zSgo (t := 110) vr_148_106 rfl rfl ?_
                refine zS2 (f := fun x y => .int (x ||| y)) vr_148_110 rfl rfl (fun x1438 y1438 e1438 f1438 => ?_)
                cases e1438
                cases f1438
                refine zLput vr_148_111 rfl (fun p1439 k1439 e1439 t1439 g1439 => ?_)
                cases e1439
                obtain ⟨d3, f3⟩ := d2.putB g1439 (by first | exact or01 d2.or (Or.inr rfl) | exact or01 d2.or (Or.inl rfl))
                refine zSiload (m := 2) (k := 4) vr_148_114 rfl rfl rfl (fun x1440 e1440 => ?_)
                cases e1440
                refine zSistore (m := 1) (k := 3) vr_148_116 rfl rfl (fun x1441 e1441 => ?_)
                cases e1441
                show zL zrx zi _ 148 117 [(3, _), (4, _), (2, _), (0, _), (1, _)] [] _ _ _
                refine zSaload (m := 1) (k := 2) vr_148_117 rfl rfl rfl ?_
                refine zSdup vr_148_118 rfl ?_
                refine zLget vr_148_119 rfl (fun p1444 w1444 e1444 t1444 g1444 => ?_)
                cases e1444
                refine zSp0 (pc' := 123) (st' := .int (1) :: _) vr_148_122 rfl rfl ?_
                refine zSiload (m := 2) (k := 4) vr_148_123 rfl rfl rfl (fun x1446 e1446 => ?_)
                cases e1446
                refine zS2 (f := fun x y => .int (x <<< (y &&& 31))) vr_148_125 rfl rfl (fun x1447 y1447 e1447 f1447 => ?_)
                cases e1447
                cases f1447
                refine zS2 (f := fun x y => .int (x ||| y)) vr_148_126 rfl rfl (fun x1448 y1448 e1448 f1448 => ?_)
                cases e1448
                cases f1448
                refine zLput vr_148_127 rfl (fun p1449 k1449 e1449 t1449 g1449 => ?_)
                cases e1449
                refine zSgo (t := 65) vr_148_130 rfl rfl ?_
                have d4 := d3.putC g1449 hA hn.1.1 hn.1.2
                have kk := k2 rfl _ sl.2.1 w2
                rw [tkD_skp g3] at kk
                have az3 := ((g5.fm f1).fm f2).fm f3
                have ex := g1444.symm.trans (az3.1 (1, 1) (by decide))
                cases ex
                have fa : FA A AS AN h k1449 := (((FA.fm f1).trans (FA.fm f2)).trans (FA.fm f3)).trans (FA.put g1449 (Or.inl ⟨rfl, by decide⟩))
                have gd : rI 48 57 (sg T L p) ∨ last = -1 := by
                  first
                    | exact Or.inl (sgM_D.mp (by rw [← w1]; exact isD_y c1411))
                    | exact Or.inr (Decidable.not_not.mp c1285)
                have bad : (tkD T L 4 p).1 = -1 ∨ (tkD T L 4 p).1 ≤ last → (some (p, F)).bind (rdk T L nb (m + 1) last) = none := fun y => by
                  show (slF T L (m + 1) last (p, F)).bind (rdc T L nb 61) = _
                  rw [slF_b (y := (p, F)) gd y]
                  rfl
                rcases kk with ⟨y1, y2⟩ | ⟨y1, y2, y3, y4⟩
                · refine zL_K _ _ _ _ _ _ _ _ _ (zL_pm _ _ _ [(3, _), (2, _), (0, _), (1, _), (4, _)] _ _ _ _ _ ⟨(List.forall_mem_cons.mpr ⟨List.mem_cons_self, (List.forall_mem_cons.mpr ⟨(List.mem_cons_of_mem _ (List.mem_cons_of_mem _ (List.mem_cons_of_mem _ (List.mem_cons_of_mem _ List.mem_cons_self)))), (List.forall_mem_cons.mpr ⟨(List.mem_cons_of_mem _ List.mem_cons_self), (List.forall_mem_cons.mpr ⟨(List.mem_cons_of_mem _ (List.mem_cons_of_mem _ List.mem_cons_self)), (List.forall_mem_cons.mpr ⟨(List.mem_cons_of_mem _ (List.mem_cons_of_mem _ (List.mem_cons_of_mem _ List.mem_cons_self))), (fun _ h => absurd h List.not_mem_nil)⟩)⟩)⟩)⟩)⟩), show ([3, 2, 0, 1, 4] : List Nat).Nodup by decide⟩ (C_rdk hn hA n m _ _ _ none _ _ _ d4 ?_ (fun y e => by cases e))) (fun o h2 u2 q => ?_)
                  · exact Or.inl ⟨by rw [y2]; decide, rfl⟩
                  · rw [bad (Or.inl y1)]
                    exact q.pre fa
                · first
                    | (have gt : ¬ (tkD T L 4 p).1 ≤ last := Int32.not_le.mpr (by rw [← y3]; exact c1421)
                       refine zL_K _ _ _ _ _ _ _ _ _ (zL_pm _ _ _ [(3, _), (2, _), (0, _), (1, _), (4, _)] _ _ _ _ _ ⟨(List.forall_mem_cons.mpr ⟨List.mem_cons_self, (List.forall_mem_cons.mpr ⟨(List.mem_cons_of_mem _ (List.mem_cons_of_mem _ (List.mem_cons_of_mem _ (List.mem_cons_of_mem _ List.mem_cons_self)))), (List.forall_mem_cons.mpr ⟨(List.mem_cons_of_mem _ List.mem_cons_self), (List.forall_mem_cons.mpr ⟨(List.mem_cons_of_mem _ (List.mem_cons_of_mem _ List.mem_cons_self)), (List.forall_mem_cons.mpr ⟨(List.mem_cons_of_mem _ (List.mem_cons_of_mem _ (List.mem_cons_of_mem _ List.mem_cons_self))), (fun _ h => absurd h List.not_mem_nil)⟩)⟩)⟩)⟩)⟩), show ([3, 2, 0, 1, 4] : List Nat).Nodup by decide⟩ (C_rdk hn hA n m _ _ _ (some ((tkD T L 4 p).2, upF F 1 (F 1 ||| (1 <<< ((tkD T L 4 p).1 &&& 31))))) _ _ _ d4 ?_ (fun y e => ?_))) (fun o h2 u2 q => ?_)
                       · refine Or.inr ⟨by rw [y2]; decide, _, _, rfl, (tkD_b (T := T) g3).1, y4, ?_⟩
                         rw [← y3]
                         exact az3.put (i := 1) (j := 1) (by decide) (fun z => absurd z (by decide)) g1449
                       · cases e
                         have := tkD_adv g3 y1
                         have := (tkD_b (T := T) (m := 4) g3).1
                         show L - (tkD T L 4 p).2 < m
                         omega
                       · have e : (some (p, F)).bind (rdk T L nb (m + 1) last) = rdk T L nb m (tkD T L 4 p).1 ((tkD T L 4 p).2, upF F 1 (F 1 ||| (1 <<< ((tkD T L 4 p).1 &&& 31)))) := by
                           show (slF T L (m + 1) last (p, F)).bind (rdc T L nb 61) = _
                           rw [slF_y (y := (p, F)) gd y1 gt]
                           rfl
                         rw [e, ← y3]
                         rw [← y3] at q
                         exact q.pre fa)
                    | (have le : (tkD T L 4 p).1 ≤ last := Int32.not_lt.mp (by rw [← y3]; exact c1421)
                       refine zL_K _ _ _ _ _ _ _ _ _ (zL_pm _ _ _ [(3, _), (2, _), (0, _), (1, _), (4, _)] _ _ _ _ _ ⟨(List.forall_mem_cons.mpr ⟨List.mem_cons_self, (List.forall_mem_cons.mpr ⟨(List.mem_cons_of_mem _ (List.mem_cons_of_mem _ (List.mem_cons_of_mem _ (List.mem_cons_of_mem _ List.mem_cons_self)))), (List.forall_mem_cons.mpr ⟨(List.mem_cons_of_mem _ List.mem_cons_self), (List.forall_mem_cons.mpr ⟨(List.mem_cons_of_mem _ (List.mem_cons_of_mem _ List.mem_cons_self)), (List.forall_mem_cons.mpr ⟨(List.mem_cons_of_mem _ (List.mem_cons_of_mem _ (List.mem_cons_of_mem _ List.mem_cons_self))), (fun _ h => absurd h List.not_mem_nil)⟩)⟩)⟩)⟩)⟩), show ([3, 2, 0, 1, 4] : List Nat).Nodup by decide⟩ (C_rdk hn hA n m _ _ _ none _ _ _ d4 ?_ (fun y e => by cases e))) (fun o h2 u2 q => ?_)
                       · exact Or.inl ⟨by rw [y2]; decide, rfl⟩
                       · rw [bad (Or.inr le)]
                         exact q.pre fa)
            · obtain ⟨-, _, _, _, z, -⟩ := q1414
              cases z
          · cases e1411
            have c1411 := ndc q1411
            refine zSiload (m := 1) (k := 3) vr_148_82 rfl rfl rfl (fun x1451 e1451 => ?_)
            cases e1451
            refine zSp0 (pc' := 84) (st' := .int (-1) :: _) vr_148_83 rfl rfl ?_
            refine zSb2 (f := fun x y => decide (¬ x = y)) (off := 49) (t := 133) vr_148_84 rfl rfl rfl (fun x1453 y1453 e1453 f1453 q1453 => ?_) (fun x1453 y1453 e1453 f1453 q1453 => ?_)
            · cases e1453
              cases f1453
              have c1453 := of_decide_eq_true q1453
              first
                | (obtain ⟨w1, w2⟩ := k1 p g3 g4
                   have nd : ¬ rI 48 57 (sg T L p) := fun y => isD_n (Decidable.not_not.mp c1411) (by rw [w1]; exact sgM_D.mpr y)
                   have nl : ¬ (rI 48 57 (sg T L p) ∨ last = -1) := fun y => by
                     rcases y with y | y
                     · exact nd y
                     · exact c1453 y
                   refine zL_K _ _ _ _ _ _ _ _ _ (zL_pm _ _ _ [(3, _), (2, _), (0, _), (1, _), (4, _)] _ _ _ _ _ ⟨(List.forall_mem_cons.mpr ⟨List.mem_cons_self, (List.forall_mem_cons.mpr ⟨(List.mem_cons_of_mem _ List.mem_cons_self), (List.forall_mem_cons.mpr ⟨(List.mem_cons_of_mem _ (List.mem_cons_of_mem _ List.mem_cons_self)), (List.forall_mem_cons.mpr ⟨(List.mem_cons_of_mem _ (List.mem_cons_of_mem _ (List.mem_cons_of_mem _ List.mem_cons_self))), (List.forall_mem_cons.mpr ⟨(List.mem_cons_of_mem _ (List.mem_cons_of_mem _ (List.mem_cons_of_mem _ (List.mem_cons_of_mem _ List.mem_cons_self)))), (fun _ h => absurd h List.not_mem_nil)⟩)⟩)⟩)⟩)⟩), show ([3, 2, 0, 1, 4] : List Nat).Nodup by decide⟩ (C_rdc hn hA _ 61 _ _ (some (skp T L p, F)) _ _ _ _ d1 ?_ (fun y e => ?_))) (fun o h2 u2 q => ?_)
                   · exact Or.inr ⟨rfl, _, _, rfl, sl.2.1, w2, g5.fm f1⟩
                   · omega
                   · have e : (some (p, F)).bind (rdk T L nb (m + 1) last) = (some (skp T L p, F)).bind (rdc T L nb 61) := by
                       show (slF T L (m + 1) last (p, F)).bind (rdc T L nb 61) = _
                       rw [slF_e (y := (p, F)) nl]
                     rw [e]
                     exact q.pre (FA.fm f1))
                | (have e := gr.bad c1407
                   subst e
                   exact zL_pm _ _ _ [(3, _), (2, _), (0, _), (1, _), (4, _)] _ _ _ _ _ ⟨(List.forall_mem_cons.mpr ⟨List.mem_cons_self, (List.forall_mem_cons.mpr ⟨(List.mem_cons_of_mem _ List.mem_cons_self), (List.forall_mem_cons.mpr ⟨(List.mem_cons_of_mem _ (List.mem_cons_of_mem _ List.mem_cons_self)), (List.forall_mem_cons.mpr ⟨(List.mem_cons_of_mem _ (List.mem_cons_of_mem _ (List.mem_cons_of_mem _ List.mem_cons_self))), (List.forall_mem_cons.mpr ⟨(List.mem_cons_of_mem _ (List.mem_cons_of_mem _ (List.mem_cons_of_mem _ (List.mem_cons_of_mem _ List.mem_cons_self)))), (fun _ h => absurd h List.not_mem_nil)⟩)⟩)⟩)⟩)⟩), show ([3, 2, 0, 1, 4] : List Nat).Nodup by decide⟩ (C_rdc hn hA _ 61 _ _ none _ _ _ _ d gr (fun y e => by cases e)))
            · cases e1453
              cases f1453
              have c1453 := ndc q1453
              obtain ⟨w1, w2⟩ := k1 p g3 g4
              refine zSaload (m := 1) (k := 0) vr_148_87 rfl rfl rfl ?_
              refine zSp0 (pc' := 89) (st' := .int (4) :: _) vr_148_88 rfl rfl ?_
              refine zScall vr_148_89 rfl rfl rfl (fun m1456 _ => C_mdg _ _ _ _ d1 ⟨by decide, by decide⟩) (fun v1456 h1456 u1456 q1456 => ?_) (fun E1456 h1456 u1456 q1456 => ?_)
              · obtain ⟨f2, a2, bd2, v2, z1456, d2, i2, k2⟩ := q1456
                cases z1456
                show zL zrx zi _ 148 92 [(3, _), (2, _), (0, _), (1, _), (4, _)] [_] _ _ _
                refine zSistore (m := 2) (k := 4) vr_148_92 rfl rfl (fun x1457 e1457 => ?_)
                cases e1457
                show zL zrx zi _ 148 94 [(4, _), (3, _), (2, _), (0, _), (1, _)] [] _ _ _
                refine zSaload (m := 1) (k := 0) vr_148_94 rfl rfl rfl ?_
                refine zSdup vr_148_95 rfl ?_
                refine zLget vr_148_96 rfl (fun p1460 w1460 e1460 t1460 g1460 => ?_)
                cases e1460
                first | (rw [d2.fl] at g1460; cases g1460) | skip
                refine zSiload (m := 2) (k := 4) vr_148_99 rfl rfl rfl (fun x1461 e1461 => ?_)
                cases e1461
                refine zSiload (m := 1) (k := 3) vr_148_101 rfl rfl rfl (fun x1462 e1462 => ?_)
                cases e1462
                refine zSb2 (f := fun x y => decide (y < x)) (off := 7) (t := 109) vr_148_102 rfl rfl rfl (fun x1463 y1463 e1463 f1463 q1463 => ?_) (fun x1463 y1463 e1463 f1463 q1463 => ?_)
                · cases e1463
                  cases f1463
                  have c1463 := of_decide_eq_true q1463
                  refine zSp0 (pc' := 110) (st' := .int (0) :: _) vr_148_109 rfl rfl ?_
                  refine zS2 (f := fun x y => .int (x ||| y)) vr_148_110 rfl rfl (fun x1465 y1465 e1465 f1465 => ?_)
                  cases e1465
                  cases f1465
                  refine zLput vr_148_111 rfl (fun p1466 k1466 e1466 t1466 g1466 => ?_)
                  cases e1466
                  obtain ⟨d3, f3⟩ := d2.putB g1466 (by first | exact or01 d2.or (Or.inr rfl) | exact or01 d2.or (Or.inl rfl))
                  refine zSiload (m := 2) (k := 4) vr_148_114 rfl rfl rfl (fun x1467 e1467 => ?_)
                  cases e1467
                  refine zSistore (m := 1) (k := 3) vr_148_116 rfl rfl (fun x1468 e1468 => ?_)
                  cases e1468
                  show zL zrx zi _ 148 117 [(3, _), (4, _), (2, _), (0, _), (1, _)] [] _ _ _
                  refine zSaload (m := 1) (k := 2) vr_148_117 rfl rfl rfl ?_
                  refine zSdup vr_148_118 rfl ?_
                  refine zLget vr_148_119 rfl (fun p1471 w1471 e1471 t1471 g1471 => ?_)
                  cases e1471
                  refine zSp0 (pc' := 123) (st' := .int (1) :: _) vr_148_122 rfl rfl ?_
                  refine zSiload (m := 2) (k := 4) vr_148_123 rfl rfl rfl (fun x1473 e1473 => ?_)
                  cases e1473
                  refine zS2 (f := fun x y => .int (x <<< (y &&& 31))) vr_148_125 rfl rfl (fun x1474 y1474 e1474 f1474 => ?_)
                  cases e1474
                  cases f1474
                  refine zS2 (f := fun x y => .int (x ||| y)) vr_148_126 rfl rfl (fun x1475 y1475 e1475 f1475 => ?_)
                  cases e1475
                  cases f1475
                  refine zLput vr_148_127 rfl (fun p1476 k1476 e1476 t1476 g1476 => ?_)
                  cases e1476
                  refine zSgo (t := 65) vr_148_130 rfl rfl ?_
                  have d4 := d3.putC g1476 hA hn.1.1 hn.1.2
                  have kk := k2 rfl _ sl.2.1 w2
                  rw [tkD_skp g3] at kk
                  have az3 := ((g5.fm f1).fm f2).fm f3
                  have ex := g1471.symm.trans (az3.1 (1, 1) (by decide))
                  cases ex
                  have fa : FA A AS AN h k1476 := (((FA.fm f1).trans (FA.fm f2)).trans (FA.fm f3)).trans (FA.put g1476 (Or.inl ⟨rfl, by decide⟩))
                  have gd : rI 48 57 (sg T L p) ∨ last = -1 := by
                    first
                      | exact Or.inl (sgM_D.mp (by rw [← w1]; exact isD_y c1411))
                      | exact Or.inr (Decidable.not_not.mp c1453)
                  have bad : (tkD T L 4 p).1 = -1 ∨ (tkD T L 4 p).1 ≤ last → (some (p, F)).bind (rdk T L nb (m + 1) last) = none := fun y => by
                    show (slF T L (m + 1) last (p, F)).bind (rdc T L nb 61) = _
                    rw [slF_b (y := (p, F)) gd y]
                    rfl
                  rcases kk with ⟨y1, y2⟩ | ⟨y1, y2, y3, y4⟩
                  · refine zL_K _ _ _ _ _ _ _ _ _ (zL_pm _ _ _ [(3, _), (2, _), (0, _), (1, _), (4, _)] _ _ _ _ _ ⟨(List.forall_mem_cons.mpr ⟨List.mem_cons_self, (List.forall_mem_cons.mpr ⟨(List.mem_cons_of_mem _ (List.mem_cons_of_mem _ (List.mem_cons_of_mem _ (List.mem_cons_of_mem _ List.mem_cons_self)))), (List.forall_mem_cons.mpr ⟨(List.mem_cons_of_mem _ List.mem_cons_self), (List.forall_mem_cons.mpr ⟨(List.mem_cons_of_mem _ (List.mem_cons_of_mem _ List.mem_cons_self)), (List.forall_mem_cons.mpr ⟨(List.mem_cons_of_mem _ (List.mem_cons_of_mem _ (List.mem_cons_of_mem _ List.mem_cons_self))), (fun _ h => absurd h List.not_mem_nil)⟩)⟩)⟩)⟩)⟩), show ([3, 2, 0, 1, 4] : List Nat).Nodup by decide⟩ (C_rdk hn hA n m _ _ _ none _ _ _ d4 ?_ (fun y e => by cases e))) (fun o h2 u2 q => ?_)
                    · exact Or.inl ⟨by rw [y2]; decide, rfl⟩
                    · rw [bad (Or.inl y1)]
                      exact q.pre fa
                  · first
                      | (have gt : ¬ (tkD T L 4 p).1 ≤ last := Int32.not_le.mpr (by rw [← y3]; exact c1463)
                         refine zL_K _ _ _ _ _ _ _ _ _ (zL_pm _ _ _ [(3, _), (2, _), (0, _), (1, _), (4, _)] _ _ _ _ _ ⟨(List.forall_mem_cons.mpr ⟨List.mem_cons_self, (List.forall_mem_cons.mpr ⟨(List.mem_cons_of_mem _ (List.mem_cons_of_mem _ (List.mem_cons_of_mem _ (List.mem_cons_of_mem _ List.mem_cons_self)))), (List.forall_mem_cons.mpr ⟨(List.mem_cons_of_mem _ List.mem_cons_self), (List.forall_mem_cons.mpr ⟨(List.mem_cons_of_mem _ (List.mem_cons_of_mem _ List.mem_cons_self)), (List.forall_mem_cons.mpr ⟨(List.mem_cons_of_mem _ (List.mem_cons_of_mem _ (List.mem_cons_of_mem _ List.mem_cons_self))), (fun _ h => absurd h List.not_mem_nil)⟩)⟩)⟩)⟩)⟩), show ([3, 2, 0, 1, 4] : List Nat).Nodup by decide⟩ (C_rdk hn hA n m _ _ _ (some ((tkD T L 4 p).2, upF F 1 (F 1 ||| (1 <<< ((tkD T L 4 p).1 &&& 31))))) _ _ _ d4 ?_ (fun y e => ?_))) (fun o h2 u2 q => ?_)
                         · refine Or.inr ⟨by rw [y2]; decide, _, _, rfl, (tkD_b (T := T) g3).1, y4, ?_⟩
                           rw [← y3]
                           exact az3.put (i := 1) (j := 1) (by decide) (fun z => absurd z (by decide)) g1476
                         · cases e
                           have := tkD_adv g3 y1
                           have := (tkD_b (T := T) (m := 4) g3).1
                           show L - (tkD T L 4 p).2 < m
                           omega
                         · have e : (some (p, F)).bind (rdk T L nb (m + 1) last) = rdk T L nb m (tkD T L 4 p).1 ((tkD T L 4 p).2, upF F 1 (F 1 ||| (1 <<< ((tkD T L 4 p).1 &&& 31)))) := by
                             show (slF T L (m + 1) last (p, F)).bind (rdc T L nb 61) = _
                             rw [slF_y (y := (p, F)) gd y1 gt]
                             rfl
                           rw [e, ← y3]
                           rw [← y3] at q
                           exact q.pre fa)
                      | (have le : (tkD T L 4 p).1 ≤ last := Int32.not_lt.mp (by rw [← y3]; exact c1463)
                         refine zL_K _ _ _ _ _ _ _ _ _ (zL_pm _ _ _ [(3, _), (2, _), (0, _), (1, _), (4, _)] _ _ _ _ _ ⟨(List.forall_mem_cons.mpr ⟨List.mem_cons_self, (List.forall_mem_cons.mpr ⟨(List.mem_cons_of_mem _ (List.mem_cons_of_mem _ (List.mem_cons_of_mem _ (List.mem_cons_of_mem _ List.mem_cons_self)))), (List.forall_mem_cons.mpr ⟨(List.mem_cons_of_mem _ List.mem_cons_self), (List.forall_mem_cons.mpr ⟨(List.mem_cons_of_mem _ (List.mem_cons_of_mem _ List.mem_cons_self)), (List.forall_mem_cons.mpr ⟨(List.mem_cons_of_mem _ (List.mem_cons_of_mem _ (List.mem_cons_of_mem _ List.mem_cons_self))), (fun _ h => absurd h List.not_mem_nil)⟩)⟩)⟩)⟩)⟩), show ([3, 2, 0, 1, 4] : List Nat).Nodup by decide⟩ (C_rdk hn hA n m _ _ _ none _ _ _ d4 ?_ (fun y e => by cases e))) (fun o h2 u2 q => ?_)
                         · exact Or.inl ⟨by rw [y2]; decide, rfl⟩
                         · rw [bad (Or.inr le)]
                           exact q.pre fa)
                · cases e1463
                  cases f1463
                  have c1463 := ndc q1463
                  refine zSp0 (pc' := 106) (st' := .int (1) :: _) vr_148_105 rfl rfl ?_
                  refine zSgo (t := 110) vr_148_106 rfl rfl ?_
                  refine zS2 (f := fun x y => .int (x ||| y)) vr_148_110 rfl rfl (fun x1480 y1480 e1480 f1480 => ?_)
                  cases e1480
                  cases f1480
                  refine zLput vr_148_111 rfl (fun p1481 k1481 e1481 t1481 g1481 => ?_)
                  cases e1481
                  obtain ⟨d3, f3⟩ := d2.putB g1481 (by first | exact or01 d2.or (Or.inr rfl) | exact or01 d2.or (Or.inl rfl))
                  refine zSiload (m := 2) (k := 4) vr_148_114 rfl rfl rfl (fun x1482 e1482 => ?_)
                  cases e1482
                  refine zSistore (m := 1) (k := 3) vr_148_116 rfl rfl (fun x1483 e1483 => ?_)
                  cases e1483
                  show zL zrx zi _ 148 117 [(3, _), (4, _), (2, _), (0, _), (1, _)] [] _ _ _
                  refine zSaload (m := 1) (k := 2) vr_148_117 rfl rfl rfl ?_
                  refine zSdup vr_148_118 rfl ?_
                  refine zLget vr_148_119 rfl (fun p1486 w1486 e1486 t1486 g1486 => ?_)
                  cases e1486
                  refine zSp0 (pc' := 123) (st' := .int (1) :: _) vr_148_122 rfl rfl ?_
                  refine zSiload (m := 2) (k := 4) vr_148_123 rfl rfl rfl (fun x1488 e1488 => ?_)
                  cases e1488
                  refine zS2 (f := fun x y => .int (x <<< (y &&& 31))) vr_148_125 rfl rfl (fun x1489 y1489 e1489 f1489 => ?_)
                  cases e1489
                  cases f1489
                  refine zS2 (f := fun x y => .int (x ||| y)) vr_148_126 rfl rfl (fun x1490 y1490 e1490 f1490 => ?_)
                  cases e1490
                  cases f1490
                  refine zLput vr_148_127 rfl (fun p1491 k1491 e1491 t1491 g1491 => ?_)
                  cases e1491
                  refine zSgo (t := 65) vr_148_130 rfl rfl ?_
                  have d4 := d3.putC g1491 hA hn.1.1 hn.1.2
                  have kk := k2 rfl _ sl.2.1 w2
                  rw [tkD_skp g3] at kk
                  have az3 := ((g5.fm f1).fm f2).fm f3
                  have ex := g1486.symm.trans (az3.1 (1, 1) (by decide))
                  cases ex
                  have fa : FA A AS AN h k1491 := (((FA.fm f1).trans (FA.fm f2)).trans (FA.fm f3)).trans (FA.put g1491 (Or.inl ⟨rfl, by decide⟩))
                  have gd : rI 48 57 (sg T L p) ∨ last = -1 := by
                    first
                      | exact Or.inl (sgM_D.mp (by rw [← w1]; exact isD_y c1411))
                      | exact Or.inr (Decidable.not_not.mp c1453)
                  have bad : (tkD T L 4 p).1 = -1 ∨ (tkD T L 4 p).1 ≤ last → (some (p, F)).bind (rdk T L nb (m + 1) last) = none := fun y => by
                    show (slF T L (m + 1) last (p, F)).bind (rdc T L nb 61) = _
                    rw [slF_b (y := (p, F)) gd y]
                    rfl
                  rcases kk with ⟨y1, y2⟩ | ⟨y1, y2, y3, y4⟩
                  · refine zL_K _ _ _ _ _ _ _ _ _ (zL_pm _ _ _ [(3, _), (2, _), (0, _), (1, _), (4, _)] _ _ _ _ _ ⟨(List.forall_mem_cons.mpr ⟨List.mem_cons_self, (List.forall_mem_cons.mpr ⟨(List.mem_cons_of_mem _ (List.mem_cons_of_mem _ (List.mem_cons_of_mem _ (List.mem_cons_of_mem _ List.mem_cons_self)))), (List.forall_mem_cons.mpr ⟨(List.mem_cons_of_mem _ List.mem_cons_self), (List.forall_mem_cons.mpr ⟨(List.mem_cons_of_mem _ (List.mem_cons_of_mem _ List.mem_cons_self)), (List.forall_mem_cons.mpr ⟨(List.mem_cons_of_mem _ (List.mem_cons_of_mem _ (List.mem_cons_of_mem _ List.mem_cons_self))), (fun _ h => absurd h List.not_mem_nil)⟩)⟩)⟩)⟩)⟩), show ([3, 2, 0, 1, 4] : List Nat).Nodup by decide⟩ (C_rdk hn hA n m _ _ _ none _ _ _ d4 ?_ (fun y e => by cases e))) (fun o h2 u2 q => ?_)
                    · exact Or.inl ⟨by rw [y2]; decide, rfl⟩
                    · rw [bad (Or.inl y1)]
                      exact q.pre fa
                  · first
                      | (have gt : ¬ (tkD T L 4 p).1 ≤ last := Int32.not_le.mpr (by rw [← y3]; exact c1463)
                         refine zL_K _ _ _ _ _ _ _ _ _ (zL_pm _ _ _ [(3, _), (2, _), (0, _), (1, _), (4, _)] _ _ _ _ _ ⟨(List.forall_mem_cons.mpr ⟨List.mem_cons_self, (List.forall_mem_cons.mpr ⟨(List.mem_cons_of_mem _ (List.mem_cons_of_mem _ (List.mem_cons_of_mem _ (List.mem_cons_of_mem _ List.mem_cons_self)))), (List.forall_mem_cons.mpr ⟨(List.mem_cons_of_mem _ List.mem_cons_self), (List.forall_mem_cons.mpr ⟨(List.mem_cons_of_mem _ (List.mem_cons_of_mem _ List.mem_cons_self)), (List.forall_mem_cons.mpr ⟨(List.mem_cons_of_mem _ (List.mem_cons_of_mem _ (List.mem_cons_of_mem _ List.mem_cons_self))), (fun _ h => absurd h List.not_mem_nil)⟩)⟩)⟩)⟩)⟩), show ([3, 2, 0, 1, 4] : List Nat).Nodup by decide⟩ (C_rdk hn hA n m _ _ _ (some ((tkD T L 4 p).2, upF F 1 (F 1 ||| (1 <<< ((tkD T L 4 p).1 &&& 31))))) _ _ _ d4 ?_ (fun y e => ?_))) (fun o h2 u2 q => ?_)
                         · refine Or.inr ⟨by rw [y2]; decide, _, _, rfl, (tkD_b (T := T) g3).1, y4, ?_⟩
                           rw [← y3]
                           exact az3.put (i := 1) (j := 1) (by decide) (fun z => absurd z (by decide)) g1491
                         · cases e
                           have := tkD_adv g3 y1
                           have := (tkD_b (T := T) (m := 4) g3).1
                           show L - (tkD T L 4 p).2 < m
                           omega
                         · have e : (some (p, F)).bind (rdk T L nb (m + 1) last) = rdk T L nb m (tkD T L 4 p).1 ((tkD T L 4 p).2, upF F 1 (F 1 ||| (1 <<< ((tkD T L 4 p).1 &&& 31)))) := by
                             show (slF T L (m + 1) last (p, F)).bind (rdc T L nb 61) = _
                             rw [slF_y (y := (p, F)) gd y1 gt]
                             rfl
                           rw [e, ← y3]
                           rw [← y3] at q
                           exact q.pre fa)
                      | (have le : (tkD T L 4 p).1 ≤ last := Int32.not_lt.mp (by rw [← y3]; exact c1463)
                         refine zL_K _ _ _ _ _ _ _ _ _ (zL_pm _ _ _ [(3, _), (2, _), (0, _), (1, _), (4, _)] _ _ _ _ _ ⟨(List.forall_mem_cons.mpr ⟨List.mem_cons_self, (List.forall_mem_cons.mpr ⟨(List.mem_cons_of_mem _ (List.mem_cons_of_mem _ (List.mem_cons_of_mem _ (List.mem_cons_of_mem _ List.mem_cons_self)))), (List.forall_mem_cons.mpr ⟨(List.mem_cons_of_mem _ List.mem_cons_self), (List.forall_mem_cons.mpr ⟨(List.mem_cons_of_mem _ (List.mem_cons_of_mem _ List.mem_cons_self)), (List.forall_mem_cons.mpr ⟨(List.mem_cons_of_mem _ (List.mem_cons_of_mem _ (List.mem_cons_of_mem _ List.mem_cons_self))), (fun _ h => absurd h List.not_mem_nil)⟩)⟩)⟩)⟩)⟩), show ([3, 2, 0, 1, 4] : List Nat).Nodup by decide⟩ (C_rdk hn hA n m _ _ _ none _ _ _ d4 ?_ (fun y e => by cases e))) (fun o h2 u2 q => ?_)
                         · exact Or.inl ⟨by rw [y2]; decide, rfl⟩
                         · rw [bad (Or.inr le)]
                           exact q.pre fa)
              · obtain ⟨-, _, _, _, z, -⟩ := q1456
                cases z
        · obtain ⟨-, z⟩ := q1410
          cases z
      · obtain ⟨-, _, _, z, -⟩ := q1409
        cases z
set_option maxRecDepth 20000 in
theorem C_rd0 {T : Nat → Int32} {L s b A AS AN : Nat} {bd nb : Int32} {F : Nat → Int32} {h : List zC} (hn : NE s b A AS AN) (hA : 239 ≤ A) (d : MB T L s b h 0 bd) (az : AZ A AS AN h F) (n u : Nat) : zL zrx zi n 148 13 [(2, .ref A), (0, .ref 213), (1, .int nb)] [] h u (fun o h2 _ => RP T L s b A AS AN h h2 (rd0 T L nb F) o) := by
  refine zSaload (m := 1) (k := 0) vr_148_13 rfl rfl rfl ?_
  refine zSaload (m := 1) (k := 0) vr_148_14 rfl rfl rfl ?_
  refine zSp0 (pc' := 17) (st' := .int (109) :: _) vr_148_15 rfl rfl ?_
  refine zScall vr_148_17 rfl rfl rfl (fun m1496 _ => C_mtk _ _ _ _ d ⟨by decide, by decide⟩) (fun v1496 h1496 u1496 q1496 => ?_) (fun E1496 h1496 u1496 q1496 => ?_)
  · obtain ⟨f1, a1, r1, z1496, d1, k1⟩ := q1496
    cases z1496
    show zL zrx zi _ 148 20 [(2, _), (0, _), (1, _)] [_, _] _ _ _
    refine zSb1 (f := fun x => decide (¬ x = 0)) (off := 7) (t := 27) vr_148_20 rfl rfl rfl (fun x1497 e1497 q1497 => ?_) (fun x1497 e1497 q1497 => ?_)
    · cases e1497
      have c1497 := of_decide_eq_true q1497
      refine zSp0 (pc' := 28) (st' := .int (0) :: _) vr_148_27 rfl rfl ?_
      refine zLput vr_148_28 rfl (fun p1499 k1499 e1499 t1499 g1499 => ?_)
      cases e1499
      obtain ⟨d2, f2⟩ := d1.putB g1499 (by first | exact Or.inl rfl | exact Or.inr rfl)
      refine zSaload (m := 1) (k := 2) vr_148_31 rfl rfl rfl ?_
      refine zSaload (m := 1) (k := 0) vr_148_32 rfl rfl rfl ?_
      refine zSp0 (pc' := 34) (st' := .int (4) :: _) vr_148_33 rfl rfl ?_
      refine zScall vr_148_34 rfl rfl rfl (fun m1503 _ => C_mdg _ _ _ _ d2 ⟨by decide, by decide⟩) (fun v1503 h1503 u1503 q1503 => ?_) (fun E1503 h1503 u1503 q1503 => ?_)
      · obtain ⟨f3, a3, bd3, v3, z1503, d3, i3, k3⟩ := q1503
        cases z1503
        show zL zrx zi _ 148 37 [(2, _), (0, _), (1, _)] [_, _] _ _ _
        refine zLput vr_148_37 rfl (fun p1504 k1504 e1504 t1504 g1504 => ?_)
        cases e1504
        have d4 := d3.putC g1504 hA hn.1.1 hn.1.2
        refine zSaload (m := 1) (k := 0) vr_148_40 rfl rfl rfl ?_
        refine zSdup vr_148_41 rfl ?_
        refine zLget vr_148_42 rfl (fun p1507 w1507 e1507 t1507 g1507 => ?_)
        cases e1507
        first | (rw [d4.fl] at g1507; cases g1507) | skip
        refine zSaload (m := 1) (k := 0) vr_148_45 rfl rfl rfl ?_
        refine zSp0 (pc' := 48) (st' := .int (99) :: _) vr_148_46 rfl rfl ?_
        refine zScall vr_148_48 rfl rfl rfl (fun m1510 _ => C_mtk _ _ _ _ d4 ⟨by decide, by decide⟩) (fun v1510 h1510 u1510 q1510 => ?_) (fun E1510 h1510 u1510 q1510 => ?_)
        · obtain ⟨f5, a5, r5, z1510, d5, k5⟩ := q1510
          cases z1510
          show zL zrx zi _ 148 51 [(2, _), (0, _), (1, _)] [_, _, _] _ _ _
          refine zSb1 (f := fun x => decide (¬ x = 0)) (off := 7) (t := 58) vr_148_51 rfl rfl rfl (fun x1511 e1511 q1511 => ?_) (fun x1511 e1511 q1511 => ?_)
          · cases e1511
            have c1511 := of_decide_eq_true q1511
            refine zSp0 (pc' := 59) (st' := .int (0) :: _) vr_148_58 rfl rfl ?_
            refine zS2 (f := fun x y => .int (x ||| y)) vr_148_59 rfl rfl (fun x1513 y1513 e1513 f1513 => ?_)
            cases e1513
            cases f1513
            refine zLput vr_148_60 rfl (fun p1514 k1514 e1514 t1514 g1514 => ?_)
            cases e1514
            obtain ⟨d6, f6⟩ := d5.putB g1514 (by first | exact or01 d4.or (Or.inr rfl) | exact or01 d4.or (Or.inl rfl))
            refine zSp0 (pc' := 64) (st' := .int (-1) :: _) vr_148_63 rfl rfl ?_
            refine zSistore (m := 1) (k := 3) vr_148_64 rfl rfl (fun x1516 e1516 => ?_)
            cases e1516
            show zL zrx zi _ 148 65 [(3, _), (2, _), (0, _), (1, _)] [] _ _ _
            have l60 := d.sb.l60
            have fa : FA A AS AN h k1514 := ((((FA.fm f1).trans (FA.fm f2)).trans (FA.fm f3)).trans (FA.put g1504 (Or.inl ⟨rfl, by decide⟩))).trans ((FA.fm f5).trans (FA.fm f6))
            obtain ⟨w1, w2⟩ := k1 0 (Nat.zero_le _) rfl
            have t1 := (tkS_b (T := T) (c := 109) (Nat.zero_le L) (by decide)).1
            refine zL_K _ _ _ _ _ _ _ _ _ (zL_pm _ _ _ [(3, _), (2, _), (0, _), (1, _), (4, _)] _ _ _ _ _ ⟨(List.forall_mem_cons.mpr ⟨List.mem_cons_self, (List.forall_mem_cons.mpr ⟨(List.mem_cons_of_mem _ List.mem_cons_self), (List.forall_mem_cons.mpr ⟨(List.mem_cons_of_mem _ (List.mem_cons_of_mem _ List.mem_cons_self)), (List.forall_mem_cons.mpr ⟨(List.mem_cons_of_mem _ (List.mem_cons_of_mem _ (List.mem_cons_of_mem _ List.mem_cons_self))), (fun _ h => absurd h List.not_mem_nil)⟩)⟩)⟩)⟩), show ([3, 2, 0, 1, 4] : List Nat).Nodup by decide⟩ (C_rdk hn hA _ 61 _ _ _ ((pMat T L 0 F).bind (sCh T L)) .null _ _ d6 ?_ (fun y e => ?_))) (fun o h2 u2 q => ?_)
            · first
                | (have nz : ¬ (tkS T L 109 0).1 = 0 := by rw [← w1]; exact c1497
                   rcases k3 rfl _ t1 w2 with ⟨y1, y2⟩ | ⟨y1, y2, y3, y4⟩
                   · refine Or.inl ⟨by rw [y2]; decide, ?_⟩
                     unfold pMat
                     rw [if_neg nz, if_pos y1]
                     rfl
                   · have t2 := (tkD_b (T := T) (m := 4) t1).1
                     obtain ⟨x1, x2⟩ := k5 _ t2 y4
                     have e : (pMat T L 0 F).bind (sCh T L) = sCh T L ((tkD T L 4 (tkS T L 109 0).2).2, upF F 0 (tkD T L 4 (tkS T L 109 0).2).1) := by
                       unfold pMat
                       rw [if_neg nz, if_neg y1]
                       rfl
                     rw [e]
                     unfold sCh
                     dsimp only
                     first
                       | (rw [if_neg (by rw [← x1]; exact c1511)]
                          refine Or.inr ⟨by rw [y2]; decide, _, _, rfl, (tkS_b (T := T) (c := 99) t2 (by decide)).1, x2, ?_⟩
                          rw [← y3]
                          exact (((((az.fm f1).fm f2).fm f3).put (i := 0) (j := 0) (by decide) (fun z => absurd z (by decide)) g1504).fm f5).fm f6)
                       | (rw [if_pos (by rw [← x1]; exact Decidable.not_not.mp c1511)]
                          exact Or.inl ⟨by rw [y2]; decide, rfl⟩))
                | (refine Or.inl ⟨by rw [i3 rfl]; decide, ?_⟩
                   unfold pMat
                   rw [if_pos (by rw [← w1]; exact Decidable.not_not.mp c1497)]
                   rfl)
            · omega
            · exact q.pre fa
          · cases e1511
            have c1511 := ndc q1511
            refine zSp0 (pc' := 55) (st' := .int (1) :: _) vr_148_54 rfl rfl ?_
            refine zSgo (t := 59) vr_148_55 rfl rfl ?_
            refine zS2 (f := fun x y => .int (x ||| y)) vr_148_59 rfl rfl (fun x1519 y1519 e1519 f1519 => ?_)
            cases e1519
            cases f1519
            refine zLput vr_148_60 rfl (fun p1520 k1520 e1520 t1520 g1520 => ?_)
            cases e1520
            obtain ⟨d6, f6⟩ := d5.putB g1520 (by first | exact or01 d4.or (Or.inr rfl) | exact or01 d4.or (Or.inl rfl))
            refine zSp0 (pc' := 64) (st' := .int (-1) :: _) vr_148_63 rfl rfl ?_
            refine zSistore (m := 1) (k := 3) vr_148_64 rfl rfl (fun x1522 e1522 => ?_)
            cases e1522
            show zL zrx zi _ 148 65 [(3, _), (2, _), (0, _), (1, _)] [] _ _ _
            have l60 := d.sb.l60
            have fa : FA A AS AN h k1520 := ((((FA.fm f1).trans (FA.fm f2)).trans (FA.fm f3)).trans (FA.put g1504 (Or.inl ⟨rfl, by decide⟩))).trans ((FA.fm f5).trans (FA.fm f6))
            obtain ⟨w1, w2⟩ := k1 0 (Nat.zero_le _) rfl
            have t1 := (tkS_b (T := T) (c := 109) (Nat.zero_le L) (by decide)).1
            refine zL_K _ _ _ _ _ _ _ _ _ (zL_pm _ _ _ [(3, _), (2, _), (0, _), (1, _), (4, _)] _ _ _ _ _ ⟨(List.forall_mem_cons.mpr ⟨List.mem_cons_self, (List.forall_mem_cons.mpr ⟨(List.mem_cons_of_mem _ List.mem_cons_self), (List.forall_mem_cons.mpr ⟨(List.mem_cons_of_mem _ (List.mem_cons_of_mem _ List.mem_cons_self)), (List.forall_mem_cons.mpr ⟨(List.mem_cons_of_mem _ (List.mem_cons_of_mem _ (List.mem_cons_of_mem _ List.mem_cons_self))), (fun _ h => absurd h List.not_mem_nil)⟩)⟩)⟩)⟩), show ([3, 2, 0, 1, 4] : List Nat).Nodup by decide⟩ (C_rdk hn hA _ 61 _ _ _ ((pMat T L 0 F).bind (sCh T L)) .null _ _ d6 ?_ (fun y e => ?_))) (fun o h2 u2 q => ?_)
            · first
                | (have nz : ¬ (tkS T L 109 0).1 = 0 := by rw [← w1]; exact c1497
                   rcases k3 rfl _ t1 w2 with ⟨y1, y2⟩ | ⟨y1, y2, y3, y4⟩
                   · refine Or.inl ⟨by rw [y2]; decide, ?_⟩
                     unfold pMat
                     rw [if_neg nz, if_pos y1]
                     rfl
                   · have t2 := (tkD_b (T := T) (m := 4) t1).1
                     obtain ⟨x1, x2⟩ := k5 _ t2 y4
                     have e : (pMat T L 0 F).bind (sCh T L) = sCh T L ((tkD T L 4 (tkS T L 109 0).2).2, upF F 0 (tkD T L 4 (tkS T L 109 0).2).1) := by
                       unfold pMat
                       rw [if_neg nz, if_neg y1]
                       rfl
                     rw [e]
                     unfold sCh
                     dsimp only
                     first
                       | (rw [if_neg (by rw [← x1]; exact c1511)]
                          refine Or.inr ⟨by rw [y2]; decide, _, _, rfl, (tkS_b (T := T) (c := 99) t2 (by decide)).1, x2, ?_⟩
                          rw [← y3]
                          exact (((((az.fm f1).fm f2).fm f3).put (i := 0) (j := 0) (by decide) (fun z => absurd z (by decide)) g1504).fm f5).fm f6)
                       | (rw [if_pos (by rw [← x1]; exact Decidable.not_not.mp c1511)]
                          exact Or.inl ⟨by rw [y2]; decide, rfl⟩))
                | (refine Or.inl ⟨by rw [i3 rfl]; decide, ?_⟩
                   unfold pMat
                   rw [if_pos (by rw [← w1]; exact Decidable.not_not.mp c1497)]
                   rfl)
            · omega
            · exact q.pre fa
        · obtain ⟨-, _, _, z, -⟩ := q1510
          cases z
      · obtain ⟨-, _, _, _, z, -⟩ := q1503
        cases z
    · cases e1497
      have c1497 := ndc q1497
      refine zSp0 (pc' := 24) (st' := .int (1) :: _) vr_148_23 rfl rfl ?_
      refine zSgo (t := 28) vr_148_24 rfl rfl ?_
      refine zLput vr_148_28 rfl (fun p1525 k1525 e1525 t1525 g1525 => ?_)
      cases e1525
      obtain ⟨d2, f2⟩ := d1.putB g1525 (by first | exact Or.inl rfl | exact Or.inr rfl)
      refine zSaload (m := 1) (k := 2) vr_148_31 rfl rfl rfl ?_
      refine zSaload (m := 1) (k := 0) vr_148_32 rfl rfl rfl ?_
      refine zSp0 (pc' := 34) (st' := .int (4) :: _) vr_148_33 rfl rfl ?_
      refine zScall vr_148_34 rfl rfl rfl (fun m1529 _ => C_mdg _ _ _ _ d2 ⟨by decide, by decide⟩) (fun v1529 h1529 u1529 q1529 => ?_) (fun E1529 h1529 u1529 q1529 => ?_)
      · obtain ⟨f3, a3, bd3, v3, z1529, d3, i3, k3⟩ := q1529
        cases z1529
        show zL zrx zi _ 148 37 [(2, _), (0, _), (1, _)] [_, _] _ _ _
        refine zLput vr_148_37 rfl (fun p1530 k1530 e1530 t1530 g1530 => ?_)
        cases e1530
        have d4 := d3.putC g1530 hA hn.1.1 hn.1.2
        refine zSaload (m := 1) (k := 0) vr_148_40 rfl rfl rfl ?_
        refine zSdup vr_148_41 rfl ?_
        refine zLget vr_148_42 rfl (fun p1533 w1533 e1533 t1533 g1533 => ?_)
        cases e1533
        first | (rw [d4.fl] at g1533; cases g1533) | skip
        refine zSaload (m := 1) (k := 0) vr_148_45 rfl rfl rfl ?_
        refine zSp0 (pc' := 48) (st' := .int (99) :: _) vr_148_46 rfl rfl ?_
        refine zScall vr_148_48 rfl rfl rfl (fun m1536 _ => C_mtk _ _ _ _ d4 ⟨by decide, by decide⟩) (fun v1536 h1536 u1536 q1536 => ?_) (fun E1536 h1536 u1536 q1536 => ?_)
        · obtain ⟨f5, a5, r5, z1536, d5, k5⟩ := q1536
          cases z1536
          show zL zrx zi _ 148 51 [(2, _), (0, _), (1, _)] [_, _, _] _ _ _
          refine zSb1 (f := fun x => decide (¬ x = 0)) (off := 7) (t := 58) vr_148_51 rfl rfl rfl (fun x1537 e1537 q1537 => ?_) (fun x1537 e1537 q1537 => ?_)
          · cases e1537
            have c1537 := of_decide_eq_true q1537
            refine zSp0 (pc' := 59) (st' := .int (0) :: _) vr_148_58 rfl rfl ?_
            refine zS2 (f := fun x y => .int (x ||| y)) vr_148_59 rfl rfl (fun x1539 y1539 e1539 f1539 => ?_)
            cases e1539
            cases f1539
            refine zLput vr_148_60 rfl (fun p1540 k1540 e1540 t1540 g1540 => ?_)
            cases e1540
            obtain ⟨d6, f6⟩ := d5.putB g1540 (by first | exact or01 d4.or (Or.inr rfl) | exact or01 d4.or (Or.inl rfl))
            refine zSp0 (pc' := 64) (st' := .int (-1) :: _) vr_148_63 rfl rfl ?_
            refine zSistore (m := 1) (k := 3) vr_148_64 rfl rfl (fun x1542 e1542 => ?_)
            cases e1542
            show zL zrx zi _ 148 65 [(3, _), (2, _), (0, _), (1, _)] [] _ _ _
            have l60 := d.sb.l60
            have fa : FA A AS AN h k1540 := ((((FA.fm f1).trans (FA.fm f2)).trans (FA.fm f3)).trans (FA.put g1530 (Or.inl ⟨rfl, by decide⟩))).trans ((FA.fm f5).trans (FA.fm f6))
            obtain ⟨w1, w2⟩ := k1 0 (Nat.zero_le _) rfl
            have t1 := (tkS_b (T := T) (c := 109) (Nat.zero_le L) (by decide)).1
            refine zL_K _ _ _ _ _ _ _ _ _ (zL_pm _ _ _ [(3, _), (2, _), (0, _), (1, _), (4, _)] _ _ _ _ _ ⟨(List.forall_mem_cons.mpr ⟨List.mem_cons_self, (List.forall_mem_cons.mpr ⟨(List.mem_cons_of_mem _ List.mem_cons_self), (List.forall_mem_cons.mpr ⟨(List.mem_cons_of_mem _ (List.mem_cons_of_mem _ List.mem_cons_self)), (List.forall_mem_cons.mpr ⟨(List.mem_cons_of_mem _ (List.mem_cons_of_mem _ (List.mem_cons_of_mem _ List.mem_cons_self))), (fun _ h => absurd h List.not_mem_nil)⟩)⟩)⟩)⟩), show ([3, 2, 0, 1, 4] : List Nat).Nodup by decide⟩ (C_rdk hn hA _ 61 _ _ _ ((pMat T L 0 F).bind (sCh T L)) .null _ _ d6 ?_ (fun y e => ?_))) (fun o h2 u2 q => ?_)
            · first
                | (have nz : ¬ (tkS T L 109 0).1 = 0 := by rw [← w1]; exact c1497
                   rcases k3 rfl _ t1 w2 with ⟨y1, y2⟩ | ⟨y1, y2, y3, y4⟩
                   · refine Or.inl ⟨by rw [y2]; decide, ?_⟩
                     unfold pMat
                     rw [if_neg nz, if_pos y1]
                     rfl
                   · have t2 := (tkD_b (T := T) (m := 4) t1).1
                     obtain ⟨x1, x2⟩ := k5 _ t2 y4
                     have e : (pMat T L 0 F).bind (sCh T L) = sCh T L ((tkD T L 4 (tkS T L 109 0).2).2, upF F 0 (tkD T L 4 (tkS T L 109 0).2).1) := by
                       unfold pMat
                       rw [if_neg nz, if_neg y1]
                       rfl
                     rw [e]
                     unfold sCh
                     dsimp only
                     first
                       | (rw [if_neg (by rw [← x1]; exact c1537)]
                          refine Or.inr ⟨by rw [y2]; decide, _, _, rfl, (tkS_b (T := T) (c := 99) t2 (by decide)).1, x2, ?_⟩
                          rw [← y3]
                          exact (((((az.fm f1).fm f2).fm f3).put (i := 0) (j := 0) (by decide) (fun z => absurd z (by decide)) g1530).fm f5).fm f6)
                       | (rw [if_pos (by rw [← x1]; exact Decidable.not_not.mp c1537)]
                          exact Or.inl ⟨by rw [y2]; decide, rfl⟩))
                | (refine Or.inl ⟨by rw [i3 rfl]; decide, ?_⟩
                   unfold pMat
                   rw [if_pos (by rw [← w1]; exact Decidable.not_not.mp c1497)]
                   rfl)
            · omega
            · exact q.pre fa
          · cases e1537
            have c1537 := ndc q1537
            refine zSp0 (pc' := 55) (st' := .int (1) :: _) vr_148_54 rfl rfl ?_
            refine zSgo (t := 59) vr_148_55 rfl rfl ?_
            refine zS2 (f := fun x y => .int (x ||| y)) vr_148_59 rfl rfl (fun x1545 y1545 e1545 f1545 => ?_)
            cases e1545
            cases f1545
            refine zLput vr_148_60 rfl (fun p1546 k1546 e1546 t1546 g1546 => ?_)
            cases e1546
            obtain ⟨d6, f6⟩ := d5.putB g1546 (by first | exact or01 d4.or (Or.inr rfl) | exact or01 d4.or (Or.inl rfl))
            refine zSp0 (pc' := 64) (st' := .int (-1) :: _) vr_148_63 rfl rfl ?_
            refine zSistore (m := 1) (k := 3) vr_148_64 rfl rfl (fun x1548 e1548 => ?_)
            cases e1548
            show zL zrx zi _ 148 65 [(3, _), (2, _), (0, _), (1, _)] [] _ _ _
            have l60 := d.sb.l60
            have fa : FA A AS AN h k1546 := ((((FA.fm f1).trans (FA.fm f2)).trans (FA.fm f3)).trans (FA.put g1530 (Or.inl ⟨rfl, by decide⟩))).trans ((FA.fm f5).trans (FA.fm f6))
            obtain ⟨w1, w2⟩ := k1 0 (Nat.zero_le _) rfl
            have t1 := (tkS_b (T := T) (c := 109) (Nat.zero_le L) (by decide)).1
            refine zL_K _ _ _ _ _ _ _ _ _ (zL_pm _ _ _ [(3, _), (2, _), (0, _), (1, _), (4, _)] _ _ _ _ _ ⟨(List.forall_mem_cons.mpr ⟨List.mem_cons_self, (List.forall_mem_cons.mpr ⟨(List.mem_cons_of_mem _ List.mem_cons_self), (List.forall_mem_cons.mpr ⟨(List.mem_cons_of_mem _ (List.mem_cons_of_mem _ List.mem_cons_self)), (List.forall_mem_cons.mpr ⟨(List.mem_cons_of_mem _ (List.mem_cons_of_mem _ (List.mem_cons_of_mem _ List.mem_cons_self))), (fun _ h => absurd h List.not_mem_nil)⟩)⟩)⟩)⟩), show ([3, 2, 0, 1, 4] : List Nat).Nodup by decide⟩ (C_rdk hn hA _ 61 _ _ _ ((pMat T L 0 F).bind (sCh T L)) .null _ _ d6 ?_ (fun y e => ?_))) (fun o h2 u2 q => ?_)
            · first
                | (have nz : ¬ (tkS T L 109 0).1 = 0 := by rw [← w1]; exact c1497
                   rcases k3 rfl _ t1 w2 with ⟨y1, y2⟩ | ⟨y1, y2, y3, y4⟩
                   · refine Or.inl ⟨by rw [y2]; decide, ?_⟩
                     unfold pMat
                     rw [if_neg nz, if_pos y1]
                     rfl
                   · have t2 := (tkD_b (T := T) (m := 4) t1).1
                     obtain ⟨x1, x2⟩ := k5 _ t2 y4
                     have e : (pMat T L 0 F).bind (sCh T L) = sCh T L ((tkD T L 4 (tkS T L 109 0).2).2, upF F 0 (tkD T L 4 (tkS T L 109 0).2).1) := by
                       unfold pMat
                       rw [if_neg nz, if_neg y1]
                       rfl
                     rw [e]
                     unfold sCh
                     dsimp only
                     first
                       | (rw [if_neg (by rw [← x1]; exact c1537)]
                          refine Or.inr ⟨by rw [y2]; decide, _, _, rfl, (tkS_b (T := T) (c := 99) t2 (by decide)).1, x2, ?_⟩
                          rw [← y3]
                          exact (((((az.fm f1).fm f2).fm f3).put (i := 0) (j := 0) (by decide) (fun z => absurd z (by decide)) g1530).fm f5).fm f6)
                       | (rw [if_pos (by rw [← x1]; exact Decidable.not_not.mp c1537)]
                          exact Or.inl ⟨by rw [y2]; decide, rfl⟩))
                | (refine Or.inl ⟨by rw [i3 rfl]; decide, ?_⟩
                   unfold pMat
                   rw [if_pos (by rw [← w1]; exact Decidable.not_not.mp c1497)]
                   rfl)
            · omega
            · exact q.pre fa
        · obtain ⟨-, _, _, z, -⟩ := q1536
          cases z
      · obtain ⟨-, _, _, _, z, -⟩ := q1529
        cases z
  · obtain ⟨-, _, _, z, -⟩ := q1496
    cases z
