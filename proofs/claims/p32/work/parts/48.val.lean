/-! ===== all rows of the tables: zVal ===== -/
theorem zBlk_W {l : Launch} {zi : Nat → zI} {j pc ik ic k : Nat} (hl : l.stackTraces = false) (hj : (zYn (zi j)).cls = zCh) (htb : zTb (zi j) = []) (hfit : Bundle.fit (zEx k) = true) (hfn : ∀ n ∈ ["java/lang/RuntimeException", "java/lang/Exception"], Bundle.fit n = true)
    (hk : zWd (.classLink zCh ik (zEx k))) (hini : zWd (.initialized (zEx k))) (hat : ∀ w ∈ vx_atS zCh ic (zEx k) ["java/lang/RuntimeException", "java/lang/Exception"], zWd w) (hg : ∀ w ∈ Cond.classLink zCh ik (zEx k) :: Cond.initialized (zEx k) :: vx_atS zCh ic (zEx k) ["java/lang/RuntimeException", "java/lang/Exception"], vx_ot w = true)
    (d0 : decode (zBy (zi j)) pc = .ok (.new ik, 3)) (d3 : decode (zBy (zi j)) (pc + 3) = .ok (.dup, 1)) (d4 : decode (zBy (zi j)) (pc + 4) = .ok (.ldc_w (zMi k), 3)) (d7 : decode (zBy (zi j)) (pc + 7) = .ok (.invokespecial ic, 3)) (d10 : decode (zBy (zi j)) (pc + 10) = .ok (.athrow, 1)) : zBlk l zi j pc k := by
  intro p e R s m args below meth c H locs cells slots base mc ms ls rest Qc XC hx hb hown hts hE hS htab hls hrest hR1 hR2 hR3 hR4 hlocks hXC hmc hms
  subst hrest
  rw [hj] at hown
  obtain ⟨sa, hstr⟩ := hE.2.2.2.2.1 k
  exact vx_throwSW (A := zAb base) (text := zMt k) (sa := sa) (is := zMi k) (names := ["java/lang/RuntimeException", "java/lang/Exception"]) hx hb hl hown hfit hfn (zWd_ok hts hE hk) (zWd_ok hts hE hini) hstr (fun w hw => zWd_ok hts hE (hat w hw)) hg hE.2.2.1 hE.2.2.2.1 hS hls d0 d3 d4 d7 d10
    (by rw [htab]; unfold zHh tableOf; rw [htb]; intro x hx; cases hx) (by show 2 + 3 < R.frames; omega) (by show 0 + (13 * (2 + 1) + 43) ≤ R.locals; omega) hR3 hR4 hlocks hXC hS.2.2 hmc hms
theorem zfind_mem {pc : Nat} {y : Instr × Nat × Nat} : ∀ {t : List (Nat × Instr × Nat × Nat)}, zfind pc t = some y → (pc, y) ∈ t
  | [], h => by cases h
  | x :: r, h => by
    unfold zfind at h
    split at h
    · rename_i e
      cases h
      rw [← e]
      exact List.mem_cons_self
    · exact List.mem_cons_of_mem _ (zfind_mem h)
theorem zMem_ok {l : List Cond} (h : l.all (fun w => decide (w ∈ lw_tbl) && (goodWord w || zxw w)) = true) : ∀ w ∈ l, zWd w := fun w hw => by
  obtain ⟨h1, h2⟩ := Bool.and_eq_true_iff.mp (List.all_eq_true.mp h w hw)
  rcases Bool.or_eq_true_iff.mp h2 with q | q
  · exact Or.inl (List.mem_filter.mpr ⟨of_decide_eq_true h1, q⟩)
  · exact Or.inr ⟨of_decide_eq_true h1, q⟩
/-- what is shown of each method of the tables -/
def zPj (l : Launch) (j : Nat) : Prop := (ztab j).all (zRowOk j) = true ∧ (∀ w ∈ (ztab j).flatMap (zNds j), zWd w) ∧ zVm zi j ∧ ((ztab j).isEmpty || (zfind 0 (ztab j)).isSome) = true ∧ ∀ x ∈ ztab j, zKd x.2.1 x.2.2.1 x.2.2.2 = 5 → zBlk l zi j x.1 (x.2.2.1 - 1000) ∧ zTb (zi j) = []
theorem zNo5 {l : Launch} {j : Nat} {t : List (Nat × Instr × Nat × Nat)} (h : t.all (fun x => !(zKd x.2.1 x.2.2.1 x.2.2.2 == 5)) = true) : ∀ x ∈ t, zKd x.2.1 x.2.2.1 x.2.2.2 = 5 → zBlk l zi j x.1 (x.2.2.1 - 1000) ∧ zTb (zi j) = [] := fun x hx q => by
  have h1 := List.all_eq_true.mp h x hx
  rw [q] at h1
  cases h1
theorem zv_0 : zVm zi 0 := ⟨plainFor_of_name (by decide +kernel), fun r h => nomatch (show r ∈ ([] : List (Nat × Nat × Nat × Nat × Nat)) from h)⟩
theorem zv_1 : zVm zi 1 := ⟨plainFor_of_name (by decide +kernel), fun r h => nomatch (show r ∈ ([] : List (Nat × Nat × Nat × Nat × Nat)) from h)⟩
theorem zv_2 : zVm zi 2 := ⟨plainFor_of_name (by decide +kernel), fun r h => nomatch (show r ∈ ([] : List (Nat × Nat × Nat × Nat × Nat)) from h)⟩
theorem zv_3 : zVm zi 3 := ⟨plainFor_of_name (by decide +kernel), fun r h => nomatch (show r ∈ ([] : List (Nat × Nat × Nat × Nat × Nat)) from h)⟩
theorem zv_4 : zVm zi 4 := ⟨plainFor_of_name (by decide +kernel), fun r h => nomatch (show r ∈ ([] : List (Nat × Nat × Nat × Nat × Nat)) from h)⟩
theorem zv_5 : zVm zi 5 := ⟨plainFor_of_name (by decide +kernel), fun r h => nomatch (show r ∈ ([] : List (Nat × Nat × Nat × Nat × Nat)) from h)⟩
theorem zv_6 : zVm zi 6 := ⟨plainFor_of_name (by decide +kernel), fun r h => nomatch (show r ∈ ([] : List (Nat × Nat × Nat × Nat × Nat)) from h)⟩
theorem zv_7 : zVm zi 7 := ⟨plainFor_of_name (by decide +kernel), fun r h => nomatch (show r ∈ ([] : List (Nat × Nat × Nat × Nat × Nat)) from h)⟩
theorem zv_8 : zVm zi 8 := ⟨plainFor_of_name (by decide +kernel), fun r h => nomatch (show r ∈ ([] : List (Nat × Nat × Nat × Nat × Nat)) from h)⟩
theorem zv_9 : zVm zi 9 := ⟨plainFor_of_name (by decide +kernel), fun r h => nomatch (show r ∈ ([] : List (Nat × Nat × Nat × Nat × Nat)) from h)⟩
theorem zv_10 : zVm zi 10 := ⟨plainFor_of_name (by decide +kernel), fun r h => nomatch (show r ∈ ([] : List (Nat × Nat × Nat × Nat × Nat)) from h)⟩
theorem zv_11 : zVm zi 11 := ⟨plainFor_of_name (by decide +kernel), fun r h => nomatch (show r ∈ ([] : List (Nat × Nat × Nat × Nat × Nat)) from h)⟩
theorem zv_12 : zVm zi 12 := ⟨plainFor_of_name (by decide +kernel), fun r h => nomatch (show r ∈ ([] : List (Nat × Nat × Nat × Nat × Nat)) from h)⟩
theorem zv_13 : zVm zi 13 := ⟨plainFor_of_name (by decide +kernel), fun r h => nomatch (show r ∈ ([] : List (Nat × Nat × Nat × Nat × Nat)) from h)⟩
theorem zv_14 : zVm zi 14 := ⟨plainFor_of_name (by decide +kernel), fun r h => nomatch (show r ∈ ([] : List (Nat × Nat × Nat × Nat × Nat)) from h)⟩
theorem zv_15 : zVm zi 15 := ⟨plainFor_of_name (by decide +kernel), fun r h => nomatch (show r ∈ ([] : List (Nat × Nat × Nat × Nat × Nat)) from h)⟩
theorem zv_16 : zVm zi 16 := ⟨plainFor_of_name (by decide +kernel), fun r h => nomatch (show r ∈ ([] : List (Nat × Nat × Nat × Nat × Nat)) from h)⟩
theorem zv_17 : zVm zi 17 := ⟨plainFor_of_name (by decide +kernel), fun r h => nomatch (show r ∈ ([] : List (Nat × Nat × Nat × Nat × Nat)) from h)⟩
theorem zv_18 : zVm zi 18 := ⟨plainFor_of_name (by decide +kernel), fun r h => nomatch (show r ∈ ([] : List (Nat × Nat × Nat × Nat × Nat)) from h)⟩
theorem zv_19 : zVm zi 19 := ⟨plainFor_of_name (by decide +kernel), fun r h => nomatch (show r ∈ ([] : List (Nat × Nat × Nat × Nat × Nat)) from h)⟩
theorem zv_20 : zVm zi 20 := ⟨plainFor_of_name (by decide +kernel), fun r h => nomatch (show r ∈ ([] : List (Nat × Nat × Nat × Nat × Nat)) from h)⟩
theorem zv_21 : zVm zi 21 := ⟨plainFor_of_name (by decide +kernel), fun r h => nomatch (show r ∈ ([] : List (Nat × Nat × Nat × Nat × Nat)) from h)⟩
theorem zv_22 : zVm zi 22 := ⟨plainFor_of_name (by decide +kernel), fun r h => nomatch (show r ∈ ([] : List (Nat × Nat × Nat × Nat × Nat)) from h)⟩
theorem zv_23 : zVm zi 23 := ⟨plainFor_of_name (by decide +kernel), fun r h => nomatch (show r ∈ ([] : List (Nat × Nat × Nat × Nat × Nat)) from h)⟩
theorem zv_24 : zVm zi 24 := ⟨plainFor_of_name (by decide +kernel), fun r h => nomatch (show r ∈ ([] : List (Nat × Nat × Nat × Nat × Nat)) from h)⟩
theorem zv_25 : zVm zi 25 := ⟨plainFor_of_name (by decide +kernel), fun r h => nomatch (show r ∈ ([] : List (Nat × Nat × Nat × Nat × Nat)) from h)⟩
theorem zv_26 : zVm zi 26 := ⟨plainFor_of_name (by decide +kernel), fun r h => nomatch (show r ∈ ([] : List (Nat × Nat × Nat × Nat × Nat)) from h)⟩
theorem zv_27 : zVm zi 27 := ⟨plainFor_of_name (by decide +kernel), fun r h => nomatch (show r ∈ ([] : List (Nat × Nat × Nat × Nat × Nat)) from h)⟩
theorem zv_28 : zVm zi 28 := ⟨plainFor_of_name (by decide +kernel), fun r h => nomatch (show r ∈ ([] : List (Nat × Nat × Nat × Nat × Nat)) from h)⟩
theorem zv_29 : zVm zi 29 := ⟨plainFor_of_name (by decide +kernel), fun r h => nomatch (show r ∈ ([] : List (Nat × Nat × Nat × Nat × Nat)) from h)⟩
theorem zv_30 : zVm zi 30 := ⟨plainFor_of_name (by decide +kernel), fun r h => nomatch (show r ∈ ([] : List (Nat × Nat × Nat × Nat × Nat)) from h)⟩
theorem zv_31 : zVm zi 31 := ⟨plainFor_of_name (by decide +kernel), fun r h => nomatch (show r ∈ ([] : List (Nat × Nat × Nat × Nat × Nat)) from h)⟩
theorem zv_32 : zVm zi 32 := ⟨plainFor_of_name (by decide +kernel), fun r h => nomatch (show r ∈ ([] : List (Nat × Nat × Nat × Nat × Nat)) from h)⟩
theorem zv_33 : zVm zi 33 := ⟨plainFor_of_name (by decide +kernel), fun r h => nomatch (show r ∈ ([] : List (Nat × Nat × Nat × Nat × Nat)) from h)⟩
theorem zv_34 : zVm zi 34 := ⟨plainFor_of_name (by decide +kernel), fun r h => nomatch (show r ∈ ([] : List (Nat × Nat × Nat × Nat × Nat)) from h)⟩
theorem zv_35 : zVm zi 35 := ⟨plainFor_of_name (by decide +kernel), fun r h => nomatch (show r ∈ ([] : List (Nat × Nat × Nat × Nat × Nat)) from h)⟩
theorem zv_36 : zVm zi 36 := ⟨plainFor_of_name (by decide +kernel), fun r h => nomatch (show r ∈ ([] : List (Nat × Nat × Nat × Nat × Nat)) from h)⟩
theorem zv_37 : zVm zi 37 := ⟨plainFor_of_name (by decide +kernel), fun r h => nomatch (show r ∈ ([] : List (Nat × Nat × Nat × Nat × Nat)) from h)⟩
theorem zv_38 : zVm zi 38 := ⟨plainFor_of_name (by decide +kernel), fun r h => nomatch (show r ∈ ([] : List (Nat × Nat × Nat × Nat × Nat)) from h)⟩
theorem zv_39 : zVm zi 39 := ⟨plainFor_of_name (by decide +kernel), fun r h => nomatch (show r ∈ ([] : List (Nat × Nat × Nat × Nat × Nat)) from h)⟩
theorem zv_40 : zVm zi 40 := ⟨plainFor_of_name (by decide +kernel), fun r h => nomatch (show r ∈ ([] : List (Nat × Nat × Nat × Nat × Nat)) from h)⟩
theorem zv_41 : zVm zi 41 := ⟨plainFor_of_name (by decide +kernel), fun r h => nomatch (show r ∈ ([] : List (Nat × Nat × Nat × Nat × Nat)) from h)⟩
theorem zv_42 : zVm zi 42 := ⟨plainFor_of_name (by decide +kernel), fun r h => nomatch (show r ∈ ([] : List (Nat × Nat × Nat × Nat × Nat)) from h)⟩
theorem zv_43 : zVm zi 43 := ⟨plainFor_of_name (by decide +kernel), fun r h => nomatch (show r ∈ ([] : List (Nat × Nat × Nat × Nat × Nat)) from h)⟩
theorem zv_44 : zVm zi 44 := ⟨plainFor_of_name (by decide +kernel), fun r h => nomatch (show r ∈ ([] : List (Nat × Nat × Nat × Nat × Nat)) from h)⟩
theorem zv_45 : zVm zi 45 := ⟨plainFor_of_name (by decide +kernel), fun r h => nomatch (show r ∈ ([] : List (Nat × Nat × Nat × Nat × Nat)) from h)⟩
theorem zv_46 : zVm zi 46 := ⟨plainFor_of_name (by decide +kernel), fun r h => nomatch (show r ∈ ([] : List (Nat × Nat × Nat × Nat × Nat)) from h)⟩
theorem zv_47 : zVm zi 47 := ⟨plainFor_of_name (by decide +kernel), fun r h => nomatch (show r ∈ ([] : List (Nat × Nat × Nat × Nat × Nat)) from h)⟩
theorem zv_48 : zVm zi 48 := ⟨plainFor_of_name (by decide +kernel), fun r h => nomatch (show r ∈ ([] : List (Nat × Nat × Nat × Nat × Nat)) from h)⟩
theorem zv_49 : zVm zi 49 := ⟨plainFor_of_name (by decide +kernel), fun r h => nomatch (show r ∈ ([] : List (Nat × Nat × Nat × Nat × Nat)) from h)⟩
theorem zv_50 : zVm zi 50 := ⟨plainFor_of_name (by decide +kernel), fun r h => nomatch (show r ∈ ([] : List (Nat × Nat × Nat × Nat × Nat)) from h)⟩
theorem zv_51 : zVm zi 51 := ⟨plainFor_of_name (by decide +kernel), fun r h => nomatch (show r ∈ ([] : List (Nat × Nat × Nat × Nat × Nat)) from h)⟩
theorem zv_52 : zVm zi 52 := ⟨plainFor_of_name (by decide +kernel), fun r h => nomatch (show r ∈ ([] : List (Nat × Nat × Nat × Nat × Nat)) from h)⟩
theorem zv_53 : zVm zi 53 := ⟨plainFor_of_name (by decide +kernel), fun r h => nomatch (show r ∈ ([] : List (Nat × Nat × Nat × Nat × Nat)) from h)⟩
theorem zv_54 : zVm zi 54 := ⟨plainFor_of_name (by decide +kernel), fun r h => nomatch (show r ∈ ([] : List (Nat × Nat × Nat × Nat × Nat)) from h)⟩
theorem zv_55 : zVm zi 55 := ⟨plainFor_of_name (by decide +kernel), fun r h => nomatch (show r ∈ ([] : List (Nat × Nat × Nat × Nat × Nat)) from h)⟩
theorem zv_56 : zVm zi 56 := ⟨plainFor_of_name (by decide +kernel), fun r h => nomatch (show r ∈ ([] : List (Nat × Nat × Nat × Nat × Nat)) from h)⟩
theorem zv_57 : zVm zi 57 := ⟨plainFor_of_name (by decide +kernel), fun r h => nomatch (show r ∈ ([] : List (Nat × Nat × Nat × Nat × Nat)) from h)⟩
theorem zv_58 : zVm zi 58 := ⟨plainFor_of_name (by decide +kernel), fun r h => nomatch (show r ∈ ([] : List (Nat × Nat × Nat × Nat × Nat)) from h)⟩
theorem zv_59 : zVm zi 59 := ⟨plainFor_of_name (by decide +kernel), fun r h => nomatch (show r ∈ ([] : List (Nat × Nat × Nat × Nat × Nat)) from h)⟩
theorem zv_60 : zVm zi 60 := ⟨plainFor_of_name (by decide +kernel), fun r h => nomatch (show r ∈ ([] : List (Nat × Nat × Nat × Nat × Nat)) from h)⟩
theorem zv_61 : zVm zi 61 := ⟨plainFor_of_name (by decide +kernel), fun r h => nomatch (show r ∈ ([] : List (Nat × Nat × Nat × Nat × Nat)) from h)⟩
theorem zv_62 : zVm zi 62 := ⟨plainFor_of_name (by decide +kernel), fun r h => nomatch (show r ∈ ([] : List (Nat × Nat × Nat × Nat × Nat)) from h)⟩
theorem zv_63 : zVm zi 63 := ⟨plainFor_of_name (by decide +kernel), fun r h => nomatch (show r ∈ ([] : List (Nat × Nat × Nat × Nat × Nat)) from h)⟩
theorem zv_64 : zVm zi 64 := ⟨plainFor_of_name (by decide +kernel), fun r h => nomatch (show r ∈ ([] : List (Nat × Nat × Nat × Nat × Nat)) from h)⟩
theorem zv_65 : zVm zi 65 := ⟨plainFor_of_name (by decide +kernel), fun r h => nomatch (show r ∈ ([] : List (Nat × Nat × Nat × Nat × Nat)) from h)⟩
theorem zv_66 : zVm zi 66 := ⟨plainFor_of_name (by decide +kernel), fun r h => nomatch (show r ∈ ([] : List (Nat × Nat × Nat × Nat × Nat)) from h)⟩
theorem zv_67 : zVm zi 67 := ⟨plainFor_of_name (by decide +kernel), fun r h => nomatch (show r ∈ ([] : List (Nat × Nat × Nat × Nat × Nat)) from h)⟩
theorem zv_68 : zVm zi 68 := ⟨plainFor_of_name (by decide +kernel), fun r h => nomatch (show r ∈ ([] : List (Nat × Nat × Nat × Nat × Nat)) from h)⟩
theorem zv_69 : zVm zi 69 := ⟨plainFor_of_name (by decide +kernel), fun r h => nomatch (show r ∈ ([] : List (Nat × Nat × Nat × Nat × Nat)) from h)⟩
theorem zv_70 : zVm zi 70 := ⟨plainFor_of_name (by decide +kernel), fun r h => nomatch (show r ∈ ([] : List (Nat × Nat × Nat × Nat × Nat)) from h)⟩
theorem zv_71 : zVm zi 71 := ⟨plainFor_of_name (by decide +kernel), fun r h => nomatch (show r ∈ ([] : List (Nat × Nat × Nat × Nat × Nat)) from h)⟩
theorem zv_72 : zVm zi 72 := ⟨plainFor_of_name (by decide +kernel), fun r h => nomatch (show r ∈ ([] : List (Nat × Nat × Nat × Nat × Nat)) from h)⟩
theorem zv_73 : zVm zi 73 := ⟨plainFor_of_name (by decide +kernel), fun r h => nomatch (show r ∈ ([] : List (Nat × Nat × Nat × Nat × Nat)) from h)⟩
theorem zv_74 : zVm zi 74 := ⟨plainFor_of_name (by decide +kernel), fun r h => nomatch (show r ∈ ([] : List (Nat × Nat × Nat × Nat × Nat)) from h)⟩
theorem zv_75 : zVm zi 75 := ⟨plainFor_of_name (by decide +kernel), fun r h => nomatch (show r ∈ ([] : List (Nat × Nat × Nat × Nat × Nat)) from h)⟩
theorem zv_76 : zVm zi 76 := ⟨plainFor_of_name (by decide +kernel), fun r h => nomatch (show r ∈ ([] : List (Nat × Nat × Nat × Nat × Nat)) from h)⟩
theorem zv_77 : zVm zi 77 := ⟨plainFor_of_name (by decide +kernel), fun r h => nomatch (show r ∈ ([] : List (Nat × Nat × Nat × Nat × Nat)) from h)⟩
theorem zv_78 : zVm zi 78 := ⟨plainFor_of_name (by decide +kernel), fun r h => nomatch (show r ∈ ([] : List (Nat × Nat × Nat × Nat × Nat)) from h)⟩
theorem zv_79 : zVm zi 79 := ⟨plainFor_of_name (by decide +kernel), fun r h => nomatch (show r ∈ ([] : List (Nat × Nat × Nat × Nat × Nat)) from h)⟩
theorem zv_80 : zVm zi 80 := ⟨plainFor_of_name (by decide +kernel), fun r h => nomatch (show r ∈ ([] : List (Nat × Nat × Nat × Nat × Nat)) from h)⟩
theorem zv_81 : zVm zi 81 := ⟨plainFor_of_name (by decide +kernel), fun r h => nomatch (show r ∈ ([] : List (Nat × Nat × Nat × Nat × Nat)) from h)⟩
theorem zv_82 : zVm zi 82 := ⟨plainFor_of_name (by decide +kernel), fun r h => nomatch (show r ∈ ([] : List (Nat × Nat × Nat × Nat × Nat)) from h)⟩
theorem zv_83 : zVm zi 83 := ⟨plainFor_of_name (by decide +kernel), fun r h => nomatch (show r ∈ ([] : List (Nat × Nat × Nat × Nat × Nat)) from h)⟩
theorem zv_84 : zVm zi 84 := ⟨plainFor_of_name (by decide +kernel), fun r h => nomatch (show r ∈ ([] : List (Nat × Nat × Nat × Nat × Nat)) from h)⟩
theorem zv_85 : zVm zi 85 := ⟨plainFor_of_name (by decide +kernel), fun r h => nomatch (show r ∈ ([] : List (Nat × Nat × Nat × Nat × Nat)) from h)⟩
theorem zv_86 : zVm zi 86 := ⟨plainFor_of_name (by decide +kernel), fun r h => nomatch (show r ∈ ([] : List (Nat × Nat × Nat × Nat × Nat)) from h)⟩
theorem zv_87 : zVm zi 87 := ⟨plainFor_of_name (by decide +kernel), fun r h => nomatch (show r ∈ ([] : List (Nat × Nat × Nat × Nat × Nat)) from h)⟩
theorem zv_88 : zVm zi 88 := ⟨plainFor_of_name (by decide +kernel), fun r h => nomatch (show r ∈ ([] : List (Nat × Nat × Nat × Nat × Nat)) from h)⟩
theorem zv_89 : zVm zi 89 := ⟨plainFor_of_name (by decide +kernel), fun r h => nomatch (show r ∈ ([] : List (Nat × Nat × Nat × Nat × Nat)) from h)⟩
theorem zv_90 : zVm zi 90 := ⟨plainFor_of_name (by decide +kernel), fun r h => nomatch (show r ∈ ([] : List (Nat × Nat × Nat × Nat × Nat)) from h)⟩
theorem zv_91 : zVm zi 91 := ⟨plainFor_of_name (by decide +kernel), fun r h => nomatch (show r ∈ ([] : List (Nat × Nat × Nat × Nat × Nat)) from h)⟩
theorem zv_92 : zVm zi 92 := ⟨plainFor_of_name (by decide +kernel), fun r h => nomatch (show r ∈ ([] : List (Nat × Nat × Nat × Nat × Nat)) from h)⟩
theorem zv_93 : zVm zi 93 := ⟨plainFor_of_name (by decide +kernel), fun r h => nomatch (show r ∈ ([] : List (Nat × Nat × Nat × Nat × Nat)) from h)⟩
theorem zv_94 : zVm zi 94 := ⟨plainFor_of_name (by decide +kernel), fun r h => nomatch (show r ∈ ([] : List (Nat × Nat × Nat × Nat × Nat)) from h)⟩
theorem zv_95 : zVm zi 95 := ⟨plainFor_of_name (by decide +kernel), fun r h => nomatch (show r ∈ ([] : List (Nat × Nat × Nat × Nat × Nat)) from h)⟩
theorem zv_96 : zVm zi 96 := ⟨plainFor_of_name (by decide +kernel), fun r h => nomatch (show r ∈ ([] : List (Nat × Nat × Nat × Nat × Nat)) from h)⟩
theorem zv_97 : zVm zi 97 := ⟨plainFor_of_name (by decide +kernel), fun r h => nomatch (show r ∈ ([] : List (Nat × Nat × Nat × Nat × Nat)) from h)⟩
theorem zv_98 : zVm zi 98 := ⟨plainFor_of_name (by decide +kernel), fun r h => nomatch (show r ∈ ([] : List (Nat × Nat × Nat × Nat × Nat)) from h)⟩
theorem zv_99 : zVm zi 99 := ⟨plainFor_of_name (by decide +kernel), fun r h => nomatch (show r ∈ ([] : List (Nat × Nat × Nat × Nat × Nat)) from h)⟩
theorem zv_100 : zVm zi 100 := ⟨plainFor_of_name (by decide +kernel), fun r h => nomatch (show r ∈ ([] : List (Nat × Nat × Nat × Nat × Nat)) from h)⟩
theorem zv_101 : zVm zi 101 := ⟨plainFor_of_name (by decide +kernel), fun r h => nomatch (show r ∈ ([] : List (Nat × Nat × Nat × Nat × Nat)) from h)⟩
theorem zv_102 : zVm zi 102 := ⟨plainFor_of_name (by decide +kernel), fun r h => nomatch (show r ∈ ([] : List (Nat × Nat × Nat × Nat × Nat)) from h)⟩
theorem zv_103 : zVm zi 103 := ⟨plainFor_of_name (by decide +kernel), fun r h => nomatch (show r ∈ ([] : List (Nat × Nat × Nat × Nat × Nat)) from h)⟩
theorem zv_104 : zVm zi 104 := ⟨plainFor_of_name (by decide +kernel), fun r h => nomatch (show r ∈ ([] : List (Nat × Nat × Nat × Nat × Nat)) from h)⟩
theorem zv_105 : zVm zi 105 := ⟨plainFor_of_name (by decide +kernel), fun r h => nomatch (show r ∈ ([] : List (Nat × Nat × Nat × Nat × Nat)) from h)⟩
theorem zv_106 : zVm zi 106 := ⟨plainFor_of_name (by decide +kernel), fun r h => nomatch (show r ∈ ([] : List (Nat × Nat × Nat × Nat × Nat)) from h)⟩
theorem zv_107 : zVm zi 107 := ⟨plainFor_of_name (by decide +kernel), fun r h => nomatch (show r ∈ ([] : List (Nat × Nat × Nat × Nat × Nat)) from h)⟩
theorem zv_108 : zVm zi 108 := ⟨plainFor_of_name (by decide +kernel), fun r h => nomatch (show r ∈ ([] : List (Nat × Nat × Nat × Nat × Nat)) from h)⟩
theorem zv_109 : zVm zi 109 := ⟨plainFor_of_name (by decide +kernel), fun r h => nomatch (show r ∈ ([] : List (Nat × Nat × Nat × Nat × Nat)) from h)⟩
theorem zv_110 : zVm zi 110 := ⟨plainFor_of_name (by decide +kernel), fun r h => nomatch (show r ∈ ([] : List (Nat × Nat × Nat × Nat × Nat)) from h)⟩
theorem zv_111 : zVm zi 111 := ⟨plainFor_of_name (by decide +kernel), fun r h => nomatch (show r ∈ ([] : List (Nat × Nat × Nat × Nat × Nat)) from h)⟩
theorem zv_112 : zVm zi 112 := ⟨plainFor_of_name (by decide +kernel), fun r h => nomatch (show r ∈ ([] : List (Nat × Nat × Nat × Nat × Nat)) from h)⟩
theorem zv_113 : zVm zi 113 := ⟨plainFor_of_name (by decide +kernel), fun r h => nomatch (show r ∈ ([] : List (Nat × Nat × Nat × Nat × Nat)) from h)⟩
theorem zv_114 : zVm zi 114 := ⟨plainFor_of_name (by decide +kernel), fun r h => nomatch (show r ∈ ([] : List (Nat × Nat × Nat × Nat × Nat)) from h)⟩
theorem zv_115 : zVm zi 115 := ⟨plainFor_of_name (by decide +kernel), fun r h => nomatch (show r ∈ ([] : List (Nat × Nat × Nat × Nat × Nat)) from h)⟩
theorem zv_116 : zVm zi 116 := ⟨plainFor_of_name (by decide +kernel), fun r h => nomatch (show r ∈ ([] : List (Nat × Nat × Nat × Nat × Nat)) from h)⟩
theorem zv_117 : zVm zi 117 := ⟨plainFor_of_name (by decide +kernel), fun r h => nomatch (show r ∈ ([] : List (Nat × Nat × Nat × Nat × Nat)) from h)⟩
theorem zv_118 : zVm zi 118 := ⟨plainFor_of_name (by decide +kernel), fun r h => nomatch (show r ∈ ([] : List (Nat × Nat × Nat × Nat × Nat)) from h)⟩
theorem zv_119 : zVm zi 119 := ⟨plainFor_of_name (by decide +kernel), fun r h => nomatch (show r ∈ ([] : List (Nat × Nat × Nat × Nat × Nat)) from h)⟩
theorem zv_120 : zVm zi 120 := ⟨plainFor_of_name (by decide +kernel), fun r h => nomatch (show r ∈ ([] : List (Nat × Nat × Nat × Nat × Nat)) from h)⟩
theorem zv_121 : zVm zi 121 := ⟨plainFor_of_name (by decide +kernel), fun r h => nomatch (show r ∈ ([] : List (Nat × Nat × Nat × Nat × Nat)) from h)⟩
theorem zv_122 : zVm zi 122 := ⟨plainFor_of_name (by decide +kernel), fun r h => nomatch (show r ∈ ([] : List (Nat × Nat × Nat × Nat × Nat)) from h)⟩
theorem zv_123 : zVm zi 123 := ⟨plainFor_of_name (by decide +kernel), fun r h => nomatch (show r ∈ ([] : List (Nat × Nat × Nat × Nat × Nat)) from h)⟩
theorem zv_124 : zVm zi 124 := ⟨plainFor_of_name (by decide +kernel), fun r h => nomatch (show r ∈ ([] : List (Nat × Nat × Nat × Nat × Nat)) from h)⟩
theorem zv_125 : zVm zi 125 := ⟨plainFor_of_name (by decide +kernel), fun r h => nomatch (show r ∈ ([] : List (Nat × Nat × Nat × Nat × Nat)) from h)⟩
theorem zv_126 : zVm zi 126 := ⟨plainFor_of_name (by decide +kernel), fun r h => nomatch (show r ∈ ([] : List (Nat × Nat × Nat × Nat × Nat)) from h)⟩
theorem zv_127 : zVm zi 127 := ⟨plainFor_of_name (by decide +kernel), fun r h => nomatch (show r ∈ ([] : List (Nat × Nat × Nat × Nat × Nat)) from h)⟩
theorem zv_128 : zVm zi 128 := ⟨plainFor_of_name (by decide +kernel), fun r h => nomatch (show r ∈ ([] : List (Nat × Nat × Nat × Nat × Nat)) from h)⟩
theorem zv_129 : zVm zi 129 := ⟨plainFor_of_name (by decide +kernel), fun r h => nomatch (show r ∈ ([] : List (Nat × Nat × Nat × Nat × Nat)) from h)⟩
theorem zv_130 : zVm zi 130 := ⟨plainFor_of_name (by decide +kernel), fun r h => nomatch (show r ∈ ([] : List (Nat × Nat × Nat × Nat × Nat)) from h)⟩
theorem zv_131 : zVm zi 131 := ⟨plainFor_of_name (by decide +kernel), fun r h => nomatch (show r ∈ ([] : List (Nat × Nat × Nat × Nat × Nat)) from h)⟩
theorem zv_132 : zVm zi 132 := ⟨plainFor_of_name (by decide +kernel), fun r h => nomatch (show r ∈ ([] : List (Nat × Nat × Nat × Nat × Nat)) from h)⟩
theorem zv_133 : zVm zi 133 := ⟨plainFor_of_name (by decide +kernel), fun r h => nomatch (show r ∈ ([] : List (Nat × Nat × Nat × Nat × Nat)) from h)⟩
theorem zv_134 : zVm zi 134 := ⟨plainFor_of_name (by decide +kernel), fun r h => nomatch (show r ∈ ([] : List (Nat × Nat × Nat × Nat × Nat)) from h)⟩
theorem zv_135 : zVm zi 135 := ⟨plainFor_of_name (by decide +kernel), fun r h => nomatch (show r ∈ ([] : List (Nat × Nat × Nat × Nat × Nat)) from h)⟩
theorem zv_136 : zVm zi 136 := ⟨plainFor_of_name (by decide +kernel), fun r h => nomatch (show r ∈ ([] : List (Nat × Nat × Nat × Nat × Nat)) from h)⟩
theorem zv_137 : zVm zi 137 := ⟨plainFor_of_name (by decide +kernel), fun r h => nomatch (show r ∈ ([] : List (Nat × Nat × Nat × Nat × Nat)) from h)⟩
theorem zv_138 : zVm zi 138 := ⟨plainFor_of_name (by decide +kernel), fun r h => nomatch (show r ∈ ([] : List (Nat × Nat × Nat × Nat × Nat)) from h)⟩
theorem zv_139 : zVm zi 139 := ⟨plainFor_of_name (by decide +kernel), fun r h => nomatch (show r ∈ ([] : List (Nat × Nat × Nat × Nat × Nat)) from h)⟩
theorem zv_140 : zVm zi 140 := ⟨plainFor_of_name (by decide +kernel), fun r h => nomatch (show r ∈ ([] : List (Nat × Nat × Nat × Nat × Nat)) from h)⟩
theorem zv_141 : zVm zi 141 := ⟨plainFor_of_name (by decide +kernel), fun r h => nomatch (show r ∈ ([] : List (Nat × Nat × Nat × Nat × Nat)) from h)⟩
theorem zv_142 : zVm zi 142 := ⟨plainFor_of_name (by decide +kernel), fun r h => nomatch (show r ∈ ([] : List (Nat × Nat × Nat × Nat × Nat)) from h)⟩
theorem zv_143 : zVm zi 143 := ⟨plainFor_of_name (by decide +kernel), fun r h => nomatch (show r ∈ ([] : List (Nat × Nat × Nat × Nat × Nat)) from h)⟩
theorem zv_144 : zVm zi 144 := ⟨plainFor_of_name (by decide +kernel), fun r h => nomatch (show r ∈ ([] : List (Nat × Nat × Nat × Nat × Nat)) from h)⟩
theorem zv_145 : zVm zi 145 := ⟨plainFor_of_name (by decide +kernel), fun r h => nomatch (show r ∈ ([] : List (Nat × Nat × Nat × Nat × Nat)) from h)⟩
theorem zv_146 : zVm zi 146 := ⟨plainFor_of_name (by decide +kernel), fun r h => nomatch (show r ∈ ([] : List (Nat × Nat × Nat × Nat × Nat)) from h)⟩
theorem zv_147 : zVm zi 147 := ⟨plainFor_of_name (by decide +kernel), fun r h => nomatch (show r ∈ ([] : List (Nat × Nat × Nat × Nat × Nat)) from h)⟩
theorem zv_148 : zVm zi 148 := ⟨plainFor_of_name (by decide +kernel), fun r h => nomatch (show r ∈ ([] : List (Nat × Nat × Nat × Nat × Nat)) from h)⟩
theorem zv_149 : zVm zi 149 := ⟨plainFor_of_name (by decide +kernel), fun r h => nomatch (show r ∈ ([] : List (Nat × Nat × Nat × Nat × Nat)) from h)⟩
theorem zv_150 : zVm zi 150 := ⟨plainFor_of_name (by decide +kernel), fun r h => nomatch (show r ∈ ([] : List (Nat × Nat × Nat × Nat × Nat)) from h)⟩
theorem zv_151 : zVm zi 151 := ⟨plainFor_of_name (by decide +kernel), fun r h => nomatch (show r ∈ ([] : List (Nat × Nat × Nat × Nat × Nat)) from h)⟩
theorem zv_152 : zVm zi 152 := ⟨plainFor_of_name (by decide +kernel), fun r h => nomatch (show r ∈ ([] : List (Nat × Nat × Nat × Nat × Nat)) from h)⟩
theorem zv_153 : zVm zi 153 := ⟨plainFor_of_name (by decide +kernel), fun r h => nomatch (show r ∈ ([] : List (Nat × Nat × Nat × Nat × Nat)) from h)⟩
theorem zv_154 : zVm zi 154 := ⟨plainFor_of_name (by decide +kernel), fun r h => nomatch (show r ∈ ([] : List (Nat × Nat × Nat × Nat × Nat)) from h)⟩
theorem zv_155 : zVm zi 155 := ⟨plainFor_of_name (by decide +kernel), fun r h => nomatch (show r ∈ ([] : List (Nat × Nat × Nat × Nat × Nat)) from h)⟩
theorem zv_156 : zVm zi 156 := ⟨plainFor_of_name (by decide +kernel), fun r h => nomatch (show r ∈ ([] : List (Nat × Nat × Nat × Nat × Nat)) from h)⟩
theorem zv_157 : zVm zi 157 := ⟨plainFor_of_name (by decide +kernel), fun r h => nomatch (show r ∈ ([] : List (Nat × Nat × Nat × Nat × Nat)) from h)⟩
theorem zv_158 : zVm zi 158 := ⟨plainFor_of_name (by decide +kernel), fun r h => nomatch (show r ∈ ([] : List (Nat × Nat × Nat × Nat × Nat)) from h)⟩
theorem zv_159 : zVm zi 159 := ⟨plainFor_of_name (by decide +kernel), fun r h => nomatch (show r ∈ ([] : List (Nat × Nat × Nat × Nat × Nat)) from h)⟩
theorem zv_160 : zVm zi 160 := ⟨plainFor_of_name (by decide +kernel), fun r h => nomatch (show r ∈ ([] : List (Nat × Nat × Nat × Nat × Nat)) from h)⟩
theorem zv_161 : zVm zi 161 := ⟨plainFor_of_name (by decide +kernel), fun r h => nomatch (show r ∈ ([] : List (Nat × Nat × Nat × Nat × Nat)) from h)⟩
theorem zv_162 : zVm zi 162 := ⟨plainFor_of_name (by decide +kernel), fun r h => nomatch (show r ∈ ([] : List (Nat × Nat × Nat × Nat × Nat)) from h)⟩
theorem zv_163 : zVm zi 163 := ⟨plainFor_of_name (by decide +kernel), fun r h => nomatch (show r ∈ ([] : List (Nat × Nat × Nat × Nat × Nat)) from h)⟩
theorem zv_164 : zVm zi 164 := ⟨plainFor_of_name (by decide +kernel), fun r h => nomatch (show r ∈ ([] : List (Nat × Nat × Nat × Nat × Nat)) from h)⟩
theorem zv_165 : zVm zi 165 := ⟨plainFor_of_name (by decide +kernel), fun r h => nomatch (show r ∈ ([] : List (Nat × Nat × Nat × Nat × Nat)) from h)⟩
theorem zv_166 : zVm zi 166 := ⟨plainFor_of_name (by decide +kernel), fun r h => nomatch (show r ∈ ([] : List (Nat × Nat × Nat × Nat × Nat)) from h)⟩
theorem zv_167 : zVm zi 167 := ⟨plainFor_of_name (by decide +kernel), fun r h => nomatch (show r ∈ ([] : List (Nat × Nat × Nat × Nat × Nat)) from h)⟩
theorem zv_168 : zVm zi 168 := ⟨plainFor_of_name (by decide +kernel), fun r h => nomatch (show r ∈ ([] : List (Nat × Nat × Nat × Nat × Nat)) from h)⟩
theorem zv_169 : zVm zi 169 := ⟨plainFor_of_name (by decide +kernel), fun r h => nomatch (show r ∈ ([] : List (Nat × Nat × Nat × Nat × Nat)) from h)⟩
theorem zv_170 : zVm zi 170 := ⟨plainFor_of_name (by decide +kernel), fun r h => nomatch (show r ∈ ([] : List (Nat × Nat × Nat × Nat × Nat)) from h)⟩
theorem zv_171 : zVm zi 171 := ⟨plainFor_of_name (by decide +kernel), fun r h => nomatch (show r ∈ ([] : List (Nat × Nat × Nat × Nat × Nat)) from h)⟩
theorem zv_172 : zVm zi 172 := ⟨plainFor_of_name (by decide +kernel), fun r h => nomatch (show r ∈ ([] : List (Nat × Nat × Nat × Nat × Nat)) from h)⟩
theorem zv_173 : zVm zi 173 := ⟨plainFor_of_name (by decide +kernel), fun r h => nomatch (show r ∈ ([] : List (Nat × Nat × Nat × Nat × Nat)) from h)⟩
theorem zv_174 : zVm zi 174 := ⟨plainFor_of_name (by decide +kernel), fun r h => nomatch (show r ∈ ([] : List (Nat × Nat × Nat × Nat × Nat)) from h)⟩
theorem zv_175 : zVm zi 175 := ⟨plainFor_of_name (by decide +kernel), fun r h => nomatch (show r ∈ ([] : List (Nat × Nat × Nat × Nat × Nat)) from h)⟩
theorem zv_176 : zVm zi 176 := ⟨plainFor_of_name (by decide +kernel), fun r h => nomatch (show r ∈ ([] : List (Nat × Nat × Nat × Nat × Nat)) from h)⟩
theorem zv_177 : zVm zi 177 := ⟨plainFor_of_name (by decide +kernel), fun r h => nomatch (show r ∈ ([] : List (Nat × Nat × Nat × Nat × Nat)) from h)⟩
theorem zv_178 : zVm zi 178 := ⟨plainFor_of_name (by decide +kernel), fun r h => nomatch (show r ∈ ([] : List (Nat × Nat × Nat × Nat × Nat)) from h)⟩
theorem zv_179 : zVm zi 179 := ⟨plainFor_of_name (by decide +kernel), fun r h => nomatch (show r ∈ ([] : List (Nat × Nat × Nat × Nat × Nat)) from h)⟩
theorem zv_180 : zVm zi 180 := ⟨plainFor_of_name (by decide +kernel), fun r h => nomatch (show r ∈ ([] : List (Nat × Nat × Nat × Nat × Nat)) from h)⟩
theorem zv_181 : zVm zi 181 := ⟨plainFor_of_name (by decide +kernel), fun r h => nomatch (show r ∈ ([] : List (Nat × Nat × Nat × Nat × Nat)) from h)⟩
theorem zv_182 : zVm zi 182 := ⟨plainFor_of_name (by decide +kernel), fun r h => nomatch (show r ∈ ([] : List (Nat × Nat × Nat × Nat × Nat)) from h)⟩
theorem zv_183 : zVm zi 183 := ⟨plainFor_of_name (by decide +kernel), fun r h => nomatch (show r ∈ ([] : List (Nat × Nat × Nat × Nat × Nat)) from h)⟩
theorem zv_184 : zVm zi 184 := ⟨plainFor_of_name (by decide +kernel), fun r h => nomatch (show r ∈ ([] : List (Nat × Nat × Nat × Nat × Nat)) from h)⟩
theorem zv_185 : zVm zi 185 := ⟨plainFor_of_name (by decide +kernel), fun r h => nomatch (show r ∈ ([] : List (Nat × Nat × Nat × Nat × Nat)) from h)⟩
theorem zv_186 : zVm zi 186 := ⟨plainFor_of_name (by decide +kernel), fun r h => nomatch (show r ∈ ([] : List (Nat × Nat × Nat × Nat × Nat)) from h)⟩
theorem zv_187 : zVm zi 187 := ⟨plainFor_of_name (by decide +kernel), fun r h => nomatch (show r ∈ ([] : List (Nat × Nat × Nat × Nat × Nat)) from h)⟩
theorem zv_188 : zVm zi 188 := ⟨plainFor_of_name (by decide +kernel), fun r h => nomatch (show r ∈ ([] : List (Nat × Nat × Nat × Nat × Nat)) from h)⟩
theorem zv_189 : zVm zi 189 := ⟨plainFor_of_name (by decide +kernel), fun r h => nomatch (show r ∈ ([] : List (Nat × Nat × Nat × Nat × Nat)) from h)⟩
theorem zv_190 : zVm zi 190 := ⟨plainFor_of_name (by decide +kernel), fun r h => nomatch (show r ∈ ([] : List (Nat × Nat × Nat × Nat × Nat)) from h)⟩
theorem zv_191 : zVm zi 191 := ⟨plainFor_of_name (by decide +kernel), fun r h => nomatch (show r ∈ ([] : List (Nat × Nat × Nat × Nat × Nat)) from h)⟩
theorem zv_192 : zVm zi 192 := ⟨plainFor_of_name (by decide +kernel), fun r h => nomatch (show r ∈ ([] : List (Nat × Nat × Nat × Nat × Nat)) from h)⟩
theorem zv_193 : zVm zi 193 := ⟨plainFor_of_name (by decide +kernel), fun r h => nomatch (show r ∈ ([] : List (Nat × Nat × Nat × Nat × Nat)) from h)⟩
theorem zv_194 : zVm zi 194 := ⟨plainFor_of_name (by decide +kernel), fun r h => nomatch (show r ∈ ([] : List (Nat × Nat × Nat × Nat × Nat)) from h)⟩
theorem zv_195 : zVm zi 195 := ⟨plainFor_of_name (by decide +kernel), fun r h => nomatch (show r ∈ ([] : List (Nat × Nat × Nat × Nat × Nat)) from h)⟩
theorem zv_196 : zVm zi 196 := ⟨plainFor_of_name (by decide +kernel), fun r h => nomatch (show r ∈ ([] : List (Nat × Nat × Nat × Nat × Nat)) from h)⟩
theorem zv_197 : zVm zi 197 := ⟨plainFor_of_name (by decide +kernel), fun r h => nomatch (show r ∈ ([] : List (Nat × Nat × Nat × Nat × Nat)) from h)⟩
theorem zv_198 : zVm zi 198 := ⟨plainFor_of_name (by decide +kernel), fun r h => nomatch (show r ∈ ([] : List (Nat × Nat × Nat × Nat × Nat)) from h)⟩
theorem zv_199 : zVm zi 199 := ⟨plainFor_of_name (by decide +kernel), fun r h => nomatch (show r ∈ ([] : List (Nat × Nat × Nat × Nat × Nat)) from h)⟩
theorem zv_200 : zVm zi 200 := ⟨plainFor_of_name (by decide +kernel), fun r h => nomatch (show r ∈ ([] : List (Nat × Nat × Nat × Nat × Nat)) from h)⟩
theorem zv_201 : zVm zi 201 := ⟨plainFor_of_name (by decide +kernel), fun r h => nomatch (show r ∈ ([] : List (Nat × Nat × Nat × Nat × Nat)) from h)⟩
theorem zv_202 : zVm zi 202 := ⟨plainFor_of_name (by decide +kernel), fun r h => nomatch (show r ∈ ([] : List (Nat × Nat × Nat × Nat × Nat)) from h)⟩
theorem zv_203 : zVm zi 203 := ⟨plainFor_of_name (by decide +kernel), fun r h => nomatch (show r ∈ ([] : List (Nat × Nat × Nat × Nat × Nat)) from h)⟩
theorem zv_204 : zVm zi 204 := ⟨plainFor_of_name (by decide +kernel), fun r h => nomatch (show r ∈ ([] : List (Nat × Nat × Nat × Nat × Nat)) from h)⟩
theorem zv_205 : zVm zi 205 := ⟨plainFor_of_name (by decide +kernel), fun r h => nomatch (show r ∈ ([] : List (Nat × Nat × Nat × Nat × Nat)) from h)⟩
theorem zv_206 : zVm zi 206 := ⟨plainFor_of_name (by decide +kernel), fun r h => nomatch (show r ∈ ([] : List (Nat × Nat × Nat × Nat × Nat)) from h)⟩
theorem zv_207 : zVm zi 207 := ⟨plainFor_of_name (by decide +kernel), fun r h => nomatch (show r ∈ ([] : List (Nat × Nat × Nat × Nat × Nat)) from h)⟩
theorem zv_208 : zVm zi 208 := ⟨plainFor_of_name (by decide +kernel), by
  have h : ∀ w ∈ (zTb (zi 208)).flatMap (fun r => [Cond.classLink (zYn (zi 208)).cls r.2.2.2.1 (zEx r.2.2.2.2), Cond.castable (zEx r.2.2.2.2) (zEx r.2.2.2.2)]), zWd w := zPls_ok [833, 704, 834, 556] (by decide +kernel) (by decide +kernel)
  have h0 : (zTb (zi 208)).all (fun r => decide (r.2.2.2.1 ≠ 0)) = true := by decide +kernel
  intro r hr
  exact ⟨of_decide_eq_true (List.all_eq_true.mp h0 r hr), h _ (List.mem_flatMap.mpr ⟨r, hr, List.mem_cons_self⟩), h _ (List.mem_flatMap.mpr ⟨r, hr, List.mem_cons_of_mem _ List.mem_cons_self⟩)⟩⟩
theorem zv_209 : zVm zi 209 := ⟨plainFor_of_name (by decide +kernel), by
  have h : ∀ w ∈ (zTb (zi 209)).flatMap (fun r => [Cond.classLink (zYn (zi 209)).cls r.2.2.2.1 (zEx r.2.2.2.2), Cond.castable (zEx r.2.2.2.2) (zEx r.2.2.2.2)]), zWd w := zPls_ok [833, 704, 834, 556] (by decide +kernel) (by decide +kernel)
  have h0 : (zTb (zi 209)).all (fun r => decide (r.2.2.2.1 ≠ 0)) = true := by decide +kernel
  intro r hr
  exact ⟨of_decide_eq_true (List.all_eq_true.mp h0 r hr), h _ (List.mem_flatMap.mpr ⟨r, hr, List.mem_cons_self⟩), h _ (List.mem_flatMap.mpr ⟨r, hr, List.mem_cons_of_mem _ List.mem_cons_self⟩)⟩⟩
theorem zv_210 : zVm zi 210 := ⟨plainFor_of_name (by decide +kernel), by
  have h : ∀ w ∈ (zTb (zi 210)).flatMap (fun r => [Cond.classLink (zYn (zi 210)).cls r.2.2.2.1 (zEx r.2.2.2.2), Cond.castable (zEx r.2.2.2.2) (zEx r.2.2.2.2)]), zWd w := zPls_ok [833, 704, 834, 556] (by decide +kernel) (by decide +kernel)
  have h0 : (zTb (zi 210)).all (fun r => decide (r.2.2.2.1 ≠ 0)) = true := by decide +kernel
  intro r hr
  exact ⟨of_decide_eq_true (List.all_eq_true.mp h0 r hr), h _ (List.mem_flatMap.mpr ⟨r, hr, List.mem_cons_self⟩), h _ (List.mem_flatMap.mpr ⟨r, hr, List.mem_cons_of_mem _ List.mem_cons_self⟩)⟩⟩
theorem zv_211 : zVm zi 211 := ⟨plainFor_of_name (by decide +kernel), by
  have h : ∀ w ∈ (zTb (zi 211)).flatMap (fun r => [Cond.classLink (zYn (zi 211)).cls r.2.2.2.1 (zEx r.2.2.2.2), Cond.castable (zEx r.2.2.2.2) (zEx r.2.2.2.2)]), zWd w := zPls_ok [833, 704, 834, 556, 856, 866] (by decide +kernel) (by decide +kernel)
  have h0 : (zTb (zi 211)).all (fun r => decide (r.2.2.2.1 ≠ 0)) = true := by decide +kernel
  intro r hr
  exact ⟨of_decide_eq_true (List.all_eq_true.mp h0 r hr), h _ (List.mem_flatMap.mpr ⟨r, hr, List.mem_cons_self⟩), h _ (List.mem_flatMap.mpr ⟨r, hr, List.mem_cons_of_mem _ List.mem_cons_self⟩)⟩⟩
theorem zv_212 : zVm zi 212 := ⟨plainFor_of_name (by decide +kernel), by
  have h : ∀ w ∈ (zTb (zi 212)).flatMap (fun r => [Cond.classLink (zYn (zi 212)).cls r.2.2.2.1 (zEx r.2.2.2.2), Cond.castable (zEx r.2.2.2.2) (zEx r.2.2.2.2)]), zWd w := zPls_ok [833, 704, 834, 556] (by decide +kernel) (by decide +kernel)
  have h0 : (zTb (zi 212)).all (fun r => decide (r.2.2.2.1 ≠ 0)) = true := by decide +kernel
  intro r hr
  exact ⟨of_decide_eq_true (List.all_eq_true.mp h0 r hr), h _ (List.mem_flatMap.mpr ⟨r, hr, List.mem_cons_self⟩), h _ (List.mem_flatMap.mpr ⟨r, hr, List.mem_cons_of_mem _ List.mem_cons_self⟩)⟩⟩
theorem zv_213 : zVm zi 213 := ⟨plainFor_of_name (by decide +kernel), by
  have h : ∀ w ∈ (zTb (zi 213)).flatMap (fun r => [Cond.classLink (zYn (zi 213)).cls r.2.2.2.1 (zEx r.2.2.2.2), Cond.castable (zEx r.2.2.2.2) (zEx r.2.2.2.2)]), zWd w := zPls_ok [833, 704, 834, 556, 856, 866] (by decide +kernel) (by decide +kernel)
  have h0 : (zTb (zi 213)).all (fun r => decide (r.2.2.2.1 ≠ 0)) = true := by decide +kernel
  intro r hr
  exact ⟨of_decide_eq_true (List.all_eq_true.mp h0 r hr), h _ (List.mem_flatMap.mpr ⟨r, hr, List.mem_cons_self⟩), h _ (List.mem_flatMap.mpr ⟨r, hr, List.mem_cons_of_mem _ List.mem_cons_self⟩)⟩⟩
theorem zv_214 : zVm zi 214 := ⟨plainFor_of_name (by decide +kernel), by
  have h : ∀ w ∈ (zTb (zi 214)).flatMap (fun r => [Cond.classLink (zYn (zi 214)).cls r.2.2.2.1 (zEx r.2.2.2.2), Cond.castable (zEx r.2.2.2.2) (zEx r.2.2.2.2)]), zWd w := zPls_ok [834, 556, 856, 866] (by decide +kernel) (by decide +kernel)
  have h0 : (zTb (zi 214)).all (fun r => decide (r.2.2.2.1 ≠ 0)) = true := by decide +kernel
  intro r hr
  exact ⟨of_decide_eq_true (List.all_eq_true.mp h0 r hr), h _ (List.mem_flatMap.mpr ⟨r, hr, List.mem_cons_self⟩), h _ (List.mem_flatMap.mpr ⟨r, hr, List.mem_cons_of_mem _ List.mem_cons_self⟩)⟩⟩
theorem zv_215 : zVm zi 215 := ⟨plainFor_of_name (by decide +kernel), by
  have h : ∀ w ∈ (zTb (zi 215)).flatMap (fun r => [Cond.classLink (zYn (zi 215)).cls r.2.2.2.1 (zEx r.2.2.2.2), Cond.castable (zEx r.2.2.2.2) (zEx r.2.2.2.2)]), zWd w := zPls_ok [856, 866] (by decide +kernel) (by decide +kernel)
  have h0 : (zTb (zi 215)).all (fun r => decide (r.2.2.2.1 ≠ 0)) = true := by decide +kernel
  intro r hr
  exact ⟨of_decide_eq_true (List.all_eq_true.mp h0 r hr), h _ (List.mem_flatMap.mpr ⟨r, hr, List.mem_cons_self⟩), h _ (List.mem_flatMap.mpr ⟨r, hr, List.mem_cons_of_mem _ List.mem_cons_self⟩)⟩⟩
theorem zv_216 : zVm zi 216 := ⟨plainFor_of_name (by decide +kernel), by
  have h : ∀ w ∈ (zTb (zi 216)).flatMap (fun r => [Cond.classLink (zYn (zi 216)).cls r.2.2.2.1 (zEx r.2.2.2.2), Cond.castable (zEx r.2.2.2.2) (zEx r.2.2.2.2)]), zWd w := zPls_ok [833, 704, 856, 866] (by decide +kernel) (by decide +kernel)
  have h0 : (zTb (zi 216)).all (fun r => decide (r.2.2.2.1 ≠ 0)) = true := by decide +kernel
  intro r hr
  exact ⟨of_decide_eq_true (List.all_eq_true.mp h0 r hr), h _ (List.mem_flatMap.mpr ⟨r, hr, List.mem_cons_self⟩), h _ (List.mem_flatMap.mpr ⟨r, hr, List.mem_cons_of_mem _ List.mem_cons_self⟩)⟩⟩
theorem zv_217 : zVm zi 217 := ⟨plainFor_of_name (by decide +kernel), by
  have h : ∀ w ∈ (zTb (zi 217)).flatMap (fun r => [Cond.classLink (zYn (zi 217)).cls r.2.2.2.1 (zEx r.2.2.2.2), Cond.castable (zEx r.2.2.2.2) (zEx r.2.2.2.2)]), zWd w := zPls_ok [833, 704, 834, 556] (by decide +kernel) (by decide +kernel)
  have h0 : (zTb (zi 217)).all (fun r => decide (r.2.2.2.1 ≠ 0)) = true := by decide +kernel
  intro r hr
  exact ⟨of_decide_eq_true (List.all_eq_true.mp h0 r hr), h _ (List.mem_flatMap.mpr ⟨r, hr, List.mem_cons_self⟩), h _ (List.mem_flatMap.mpr ⟨r, hr, List.mem_cons_of_mem _ List.mem_cons_self⟩)⟩⟩
theorem zv_218 : zVm zi 218 := ⟨plainFor_of_name (by decide +kernel), by
  have h : ∀ w ∈ (zTb (zi 218)).flatMap (fun r => [Cond.classLink (zYn (zi 218)).cls r.2.2.2.1 (zEx r.2.2.2.2), Cond.castable (zEx r.2.2.2.2) (zEx r.2.2.2.2)]), zWd w := zPls_ok [833, 704, 834, 556] (by decide +kernel) (by decide +kernel)
  have h0 : (zTb (zi 218)).all (fun r => decide (r.2.2.2.1 ≠ 0)) = true := by decide +kernel
  intro r hr
  exact ⟨of_decide_eq_true (List.all_eq_true.mp h0 r hr), h _ (List.mem_flatMap.mpr ⟨r, hr, List.mem_cons_self⟩), h _ (List.mem_flatMap.mpr ⟨r, hr, List.mem_cons_of_mem _ List.mem_cons_self⟩)⟩⟩
theorem zv_219 : zVm zi 219 := ⟨plainFor_of_name (by decide +kernel), by
  have h : ∀ w ∈ (zTb (zi 219)).flatMap (fun r => [Cond.classLink (zYn (zi 219)).cls r.2.2.2.1 (zEx r.2.2.2.2), Cond.castable (zEx r.2.2.2.2) (zEx r.2.2.2.2)]), zWd w := zPls_ok [833, 704, 834, 556] (by decide +kernel) (by decide +kernel)
  have h0 : (zTb (zi 219)).all (fun r => decide (r.2.2.2.1 ≠ 0)) = true := by decide +kernel
  intro r hr
  exact ⟨of_decide_eq_true (List.all_eq_true.mp h0 r hr), h _ (List.mem_flatMap.mpr ⟨r, hr, List.mem_cons_self⟩), h _ (List.mem_flatMap.mpr ⟨r, hr, List.mem_cons_of_mem _ List.mem_cons_self⟩)⟩⟩
theorem zv_220 : zVm zi 220 := ⟨plainFor_of_name (by decide +kernel), by
  have h : ∀ w ∈ (zTb (zi 220)).flatMap (fun r => [Cond.classLink (zYn (zi 220)).cls r.2.2.2.1 (zEx r.2.2.2.2), Cond.castable (zEx r.2.2.2.2) (zEx r.2.2.2.2)]), zWd w := zPls_ok [833, 704, 856, 866] (by decide +kernel) (by decide +kernel)
  have h0 : (zTb (zi 220)).all (fun r => decide (r.2.2.2.1 ≠ 0)) = true := by decide +kernel
  intro r hr
  exact ⟨of_decide_eq_true (List.all_eq_true.mp h0 r hr), h _ (List.mem_flatMap.mpr ⟨r, hr, List.mem_cons_self⟩), h _ (List.mem_flatMap.mpr ⟨r, hr, List.mem_cons_of_mem _ List.mem_cons_self⟩)⟩⟩
theorem zv_221 : zVm zi 221 := ⟨plainFor_of_name (by decide +kernel), by
  have h : ∀ w ∈ (zTb (zi 221)).flatMap (fun r => [Cond.classLink (zYn (zi 221)).cls r.2.2.2.1 (zEx r.2.2.2.2), Cond.castable (zEx r.2.2.2.2) (zEx r.2.2.2.2)]), zWd w := zPls_ok [833, 704, 856, 866] (by decide +kernel) (by decide +kernel)
  have h0 : (zTb (zi 221)).all (fun r => decide (r.2.2.2.1 ≠ 0)) = true := by decide +kernel
  intro r hr
  exact ⟨of_decide_eq_true (List.all_eq_true.mp h0 r hr), h _ (List.mem_flatMap.mpr ⟨r, hr, List.mem_cons_self⟩), h _ (List.mem_flatMap.mpr ⟨r, hr, List.mem_cons_of_mem _ List.mem_cons_self⟩)⟩⟩
theorem zv_222 : zVm zi 222 := ⟨plainFor_of_name (by decide +kernel), by
  have h : ∀ w ∈ (zTb (zi 222)).flatMap (fun r => [Cond.classLink (zYn (zi 222)).cls r.2.2.2.1 (zEx r.2.2.2.2), Cond.castable (zEx r.2.2.2.2) (zEx r.2.2.2.2)]), zWd w := zPls_ok [833, 704, 856, 866] (by decide +kernel) (by decide +kernel)
  have h0 : (zTb (zi 222)).all (fun r => decide (r.2.2.2.1 ≠ 0)) = true := by decide +kernel
  intro r hr
  exact ⟨of_decide_eq_true (List.all_eq_true.mp h0 r hr), h _ (List.mem_flatMap.mpr ⟨r, hr, List.mem_cons_self⟩), h _ (List.mem_flatMap.mpr ⟨r, hr, List.mem_cons_of_mem _ List.mem_cons_self⟩)⟩⟩
theorem zv_223 : zVm zi 223 := ⟨plainFor_of_name (by decide +kernel), by
  have h : ∀ w ∈ (zTb (zi 223)).flatMap (fun r => [Cond.classLink (zYn (zi 223)).cls r.2.2.2.1 (zEx r.2.2.2.2), Cond.castable (zEx r.2.2.2.2) (zEx r.2.2.2.2)]), zWd w := zPls_ok [833, 704, 834, 556] (by decide +kernel) (by decide +kernel)
  have h0 : (zTb (zi 223)).all (fun r => decide (r.2.2.2.1 ≠ 0)) = true := by decide +kernel
  intro r hr
  exact ⟨of_decide_eq_true (List.all_eq_true.mp h0 r hr), h _ (List.mem_flatMap.mpr ⟨r, hr, List.mem_cons_self⟩), h _ (List.mem_flatMap.mpr ⟨r, hr, List.mem_cons_of_mem _ List.mem_cons_self⟩)⟩⟩
theorem zv_224 : zVm zi 224 := ⟨plainFor_of_name (by decide +kernel), by
  have h : ∀ w ∈ (zTb (zi 224)).flatMap (fun r => [Cond.classLink (zYn (zi 224)).cls r.2.2.2.1 (zEx r.2.2.2.2), Cond.castable (zEx r.2.2.2.2) (zEx r.2.2.2.2)]), zWd w := zPls_ok [833, 704, 856, 866] (by decide +kernel) (by decide +kernel)
  have h0 : (zTb (zi 224)).all (fun r => decide (r.2.2.2.1 ≠ 0)) = true := by decide +kernel
  intro r hr
  exact ⟨of_decide_eq_true (List.all_eq_true.mp h0 r hr), h _ (List.mem_flatMap.mpr ⟨r, hr, List.mem_cons_self⟩), h _ (List.mem_flatMap.mpr ⟨r, hr, List.mem_cons_of_mem _ List.mem_cons_self⟩)⟩⟩
theorem zv_225 : zVm zi 225 := ⟨plainFor_of_name (by decide +kernel), by
  have h : ∀ w ∈ (zTb (zi 225)).flatMap (fun r => [Cond.classLink (zYn (zi 225)).cls r.2.2.2.1 (zEx r.2.2.2.2), Cond.castable (zEx r.2.2.2.2) (zEx r.2.2.2.2)]), zWd w := zPls_ok [833, 704, 856, 866] (by decide +kernel) (by decide +kernel)
  have h0 : (zTb (zi 225)).all (fun r => decide (r.2.2.2.1 ≠ 0)) = true := by decide +kernel
  intro r hr
  exact ⟨of_decide_eq_true (List.all_eq_true.mp h0 r hr), h _ (List.mem_flatMap.mpr ⟨r, hr, List.mem_cons_self⟩), h _ (List.mem_flatMap.mpr ⟨r, hr, List.mem_cons_of_mem _ List.mem_cons_self⟩)⟩⟩
theorem zv_226 : zVm zi 226 := ⟨plainFor_of_name (by decide +kernel), by
  have h : ∀ w ∈ (zTb (zi 226)).flatMap (fun r => [Cond.classLink (zYn (zi 226)).cls r.2.2.2.1 (zEx r.2.2.2.2), Cond.castable (zEx r.2.2.2.2) (zEx r.2.2.2.2)]), zWd w := zPls_ok [834, 556, 856, 866] (by decide +kernel) (by decide +kernel)
  have h0 : (zTb (zi 226)).all (fun r => decide (r.2.2.2.1 ≠ 0)) = true := by decide +kernel
  intro r hr
  exact ⟨of_decide_eq_true (List.all_eq_true.mp h0 r hr), h _ (List.mem_flatMap.mpr ⟨r, hr, List.mem_cons_self⟩), h _ (List.mem_flatMap.mpr ⟨r, hr, List.mem_cons_of_mem _ List.mem_cons_self⟩)⟩⟩
theorem zv_227 : zVm zi 227 := ⟨plainFor_of_name (by decide +kernel), by
  have h : ∀ w ∈ (zTb (zi 227)).flatMap (fun r => [Cond.classLink (zYn (zi 227)).cls r.2.2.2.1 (zEx r.2.2.2.2), Cond.castable (zEx r.2.2.2.2) (zEx r.2.2.2.2)]), zWd w := zPls_ok [833, 704] (by decide +kernel) (by decide +kernel)
  have h0 : (zTb (zi 227)).all (fun r => decide (r.2.2.2.1 ≠ 0)) = true := by decide +kernel
  intro r hr
  exact ⟨of_decide_eq_true (List.all_eq_true.mp h0 r hr), h _ (List.mem_flatMap.mpr ⟨r, hr, List.mem_cons_self⟩), h _ (List.mem_flatMap.mpr ⟨r, hr, List.mem_cons_of_mem _ List.mem_cons_self⟩)⟩⟩
theorem zv_228 : zVm zi 228 := ⟨plainFor_of_name (by decide +kernel), by
  have h : ∀ w ∈ (zTb (zi 228)).flatMap (fun r => [Cond.classLink (zYn (zi 228)).cls r.2.2.2.1 (zEx r.2.2.2.2), Cond.castable (zEx r.2.2.2.2) (zEx r.2.2.2.2)]), zWd w := zPls_ok [833, 704, 834, 556] (by decide +kernel) (by decide +kernel)
  have h0 : (zTb (zi 228)).all (fun r => decide (r.2.2.2.1 ≠ 0)) = true := by decide +kernel
  intro r hr
  exact ⟨of_decide_eq_true (List.all_eq_true.mp h0 r hr), h _ (List.mem_flatMap.mpr ⟨r, hr, List.mem_cons_self⟩), h _ (List.mem_flatMap.mpr ⟨r, hr, List.mem_cons_of_mem _ List.mem_cons_self⟩)⟩⟩
theorem zv_229 : zVm zi 229 := ⟨plainFor_of_name (by decide +kernel), by
  have h : ∀ w ∈ (zTb (zi 229)).flatMap (fun r => [Cond.classLink (zYn (zi 229)).cls r.2.2.2.1 (zEx r.2.2.2.2), Cond.castable (zEx r.2.2.2.2) (zEx r.2.2.2.2)]), zWd w := zPls_ok [833, 704, 834, 556] (by decide +kernel) (by decide +kernel)
  have h0 : (zTb (zi 229)).all (fun r => decide (r.2.2.2.1 ≠ 0)) = true := by decide +kernel
  intro r hr
  exact ⟨of_decide_eq_true (List.all_eq_true.mp h0 r hr), h _ (List.mem_flatMap.mpr ⟨r, hr, List.mem_cons_self⟩), h _ (List.mem_flatMap.mpr ⟨r, hr, List.mem_cons_of_mem _ List.mem_cons_self⟩)⟩⟩
theorem zv_230 : zVm zi 230 := ⟨plainFor_of_name (by decide +kernel), by
  have h : ∀ w ∈ (zTb (zi 230)).flatMap (fun r => [Cond.classLink (zYn (zi 230)).cls r.2.2.2.1 (zEx r.2.2.2.2), Cond.castable (zEx r.2.2.2.2) (zEx r.2.2.2.2)]), zWd w := zPls_ok [833, 704] (by decide +kernel) (by decide +kernel)
  have h0 : (zTb (zi 230)).all (fun r => decide (r.2.2.2.1 ≠ 0)) = true := by decide +kernel
  intro r hr
  exact ⟨of_decide_eq_true (List.all_eq_true.mp h0 r hr), h _ (List.mem_flatMap.mpr ⟨r, hr, List.mem_cons_self⟩), h _ (List.mem_flatMap.mpr ⟨r, hr, List.mem_cons_of_mem _ List.mem_cons_self⟩)⟩⟩
theorem zv_231 : zVm zi 231 := ⟨plainFor_of_name (by decide +kernel), by
  have h : ∀ w ∈ (zTb (zi 231)).flatMap (fun r => [Cond.classLink (zYn (zi 231)).cls r.2.2.2.1 (zEx r.2.2.2.2), Cond.castable (zEx r.2.2.2.2) (zEx r.2.2.2.2)]), zWd w := zPls_ok [833, 704, 834, 556] (by decide +kernel) (by decide +kernel)
  have h0 : (zTb (zi 231)).all (fun r => decide (r.2.2.2.1 ≠ 0)) = true := by decide +kernel
  intro r hr
  exact ⟨of_decide_eq_true (List.all_eq_true.mp h0 r hr), h _ (List.mem_flatMap.mpr ⟨r, hr, List.mem_cons_self⟩), h _ (List.mem_flatMap.mpr ⟨r, hr, List.mem_cons_of_mem _ List.mem_cons_self⟩)⟩⟩
theorem zv_232 : zVm zi 232 := ⟨plainFor_of_name (by decide +kernel), by
  have h : ∀ w ∈ (zTb (zi 232)).flatMap (fun r => [Cond.classLink (zYn (zi 232)).cls r.2.2.2.1 (zEx r.2.2.2.2), Cond.castable (zEx r.2.2.2.2) (zEx r.2.2.2.2)]), zWd w := zPls_ok [833, 704] (by decide +kernel) (by decide +kernel)
  have h0 : (zTb (zi 232)).all (fun r => decide (r.2.2.2.1 ≠ 0)) = true := by decide +kernel
  intro r hr
  exact ⟨of_decide_eq_true (List.all_eq_true.mp h0 r hr), h _ (List.mem_flatMap.mpr ⟨r, hr, List.mem_cons_self⟩), h _ (List.mem_flatMap.mpr ⟨r, hr, List.mem_cons_of_mem _ List.mem_cons_self⟩)⟩⟩
theorem zv_233 : zVm zi 233 := ⟨plainFor_of_name (by decide +kernel), by
  have h : ∀ w ∈ (zTb (zi 233)).flatMap (fun r => [Cond.classLink (zYn (zi 233)).cls r.2.2.2.1 (zEx r.2.2.2.2), Cond.castable (zEx r.2.2.2.2) (zEx r.2.2.2.2)]), zWd w := zPls_ok [833, 704, 834, 556] (by decide +kernel) (by decide +kernel)
  have h0 : (zTb (zi 233)).all (fun r => decide (r.2.2.2.1 ≠ 0)) = true := by decide +kernel
  intro r hr
  exact ⟨of_decide_eq_true (List.all_eq_true.mp h0 r hr), h _ (List.mem_flatMap.mpr ⟨r, hr, List.mem_cons_self⟩), h _ (List.mem_flatMap.mpr ⟨r, hr, List.mem_cons_of_mem _ List.mem_cons_self⟩)⟩⟩
theorem zv_234 : zVm zi 234 := ⟨plainFor_of_name (by decide +kernel), by
  have h : ∀ w ∈ (zTb (zi 234)).flatMap (fun r => [Cond.classLink (zYn (zi 234)).cls r.2.2.2.1 (zEx r.2.2.2.2), Cond.castable (zEx r.2.2.2.2) (zEx r.2.2.2.2)]), zWd w := zPls_ok [833, 704, 834, 556] (by decide +kernel) (by decide +kernel)
  have h0 : (zTb (zi 234)).all (fun r => decide (r.2.2.2.1 ≠ 0)) = true := by decide +kernel
  intro r hr
  exact ⟨of_decide_eq_true (List.all_eq_true.mp h0 r hr), h _ (List.mem_flatMap.mpr ⟨r, hr, List.mem_cons_self⟩), h _ (List.mem_flatMap.mpr ⟨r, hr, List.mem_cons_of_mem _ List.mem_cons_self⟩)⟩⟩
theorem zv_235 : zVm zi 235 := ⟨plainFor_of_name (by decide +kernel), by
  have h : ∀ w ∈ (zTb (zi 235)).flatMap (fun r => [Cond.classLink (zYn (zi 235)).cls r.2.2.2.1 (zEx r.2.2.2.2), Cond.castable (zEx r.2.2.2.2) (zEx r.2.2.2.2)]), zWd w := zPls_ok [833, 704] (by decide +kernel) (by decide +kernel)
  have h0 : (zTb (zi 235)).all (fun r => decide (r.2.2.2.1 ≠ 0)) = true := by decide +kernel
  intro r hr
  exact ⟨of_decide_eq_true (List.all_eq_true.mp h0 r hr), h _ (List.mem_flatMap.mpr ⟨r, hr, List.mem_cons_self⟩), h _ (List.mem_flatMap.mpr ⟨r, hr, List.mem_cons_of_mem _ List.mem_cons_self⟩)⟩⟩
theorem zv_236 : zVm zi 236 := ⟨plainFor_of_name (by decide +kernel), by
  have h : ∀ w ∈ (zTb (zi 236)).flatMap (fun r => [Cond.classLink (zYn (zi 236)).cls r.2.2.2.1 (zEx r.2.2.2.2), Cond.castable (zEx r.2.2.2.2) (zEx r.2.2.2.2)]), zWd w := zPls_ok [833, 704] (by decide +kernel) (by decide +kernel)
  have h0 : (zTb (zi 236)).all (fun r => decide (r.2.2.2.1 ≠ 0)) = true := by decide +kernel
  intro r hr
  exact ⟨of_decide_eq_true (List.all_eq_true.mp h0 r hr), h _ (List.mem_flatMap.mpr ⟨r, hr, List.mem_cons_self⟩), h _ (List.mem_flatMap.mpr ⟨r, hr, List.mem_cons_of_mem _ List.mem_cons_self⟩)⟩⟩
theorem zv_237 : zVm zi 237 := ⟨plainFor_of_name (by decide +kernel), by
  have h : ∀ w ∈ (zTb (zi 237)).flatMap (fun r => [Cond.classLink (zYn (zi 237)).cls r.2.2.2.1 (zEx r.2.2.2.2), Cond.castable (zEx r.2.2.2.2) (zEx r.2.2.2.2)]), zWd w := zPls_ok [833, 704, 834, 556] (by decide +kernel) (by decide +kernel)
  have h0 : (zTb (zi 237)).all (fun r => decide (r.2.2.2.1 ≠ 0)) = true := by decide +kernel
  intro r hr
  exact ⟨of_decide_eq_true (List.all_eq_true.mp h0 r hr), h _ (List.mem_flatMap.mpr ⟨r, hr, List.mem_cons_self⟩), h _ (List.mem_flatMap.mpr ⟨r, hr, List.mem_cons_of_mem _ List.mem_cons_self⟩)⟩⟩
theorem zv_238 : zVm zi 238 := ⟨plainFor_of_name (by decide +kernel), by
  have h : ∀ w ∈ (zTb (zi 238)).flatMap (fun r => [Cond.classLink (zYn (zi 238)).cls r.2.2.2.1 (zEx r.2.2.2.2), Cond.castable (zEx r.2.2.2.2) (zEx r.2.2.2.2)]), zWd w := zPls_ok [834, 556] (by decide +kernel) (by decide +kernel)
  have h0 : (zTb (zi 238)).all (fun r => decide (r.2.2.2.1 ≠ 0)) = true := by decide +kernel
  intro r hr
  exact ⟨of_decide_eq_true (List.all_eq_true.mp h0 r hr), h _ (List.mem_flatMap.mpr ⟨r, hr, List.mem_cons_self⟩), h _ (List.mem_flatMap.mpr ⟨r, hr, List.mem_cons_of_mem _ List.mem_cons_self⟩)⟩⟩
theorem zv_239 : zVm zi 239 := ⟨plainFor_of_name (by decide +kernel), by
  have h : ∀ w ∈ (zTb (zi 239)).flatMap (fun r => [Cond.classLink (zYn (zi 239)).cls r.2.2.2.1 (zEx r.2.2.2.2), Cond.castable (zEx r.2.2.2.2) (zEx r.2.2.2.2)]), zWd w := zPls_ok [833, 704] (by decide +kernel) (by decide +kernel)
  have h0 : (zTb (zi 239)).all (fun r => decide (r.2.2.2.1 ≠ 0)) = true := by decide +kernel
  intro r hr
  exact ⟨of_decide_eq_true (List.all_eq_true.mp h0 r hr), h _ (List.mem_flatMap.mpr ⟨r, hr, List.mem_cons_self⟩), h _ (List.mem_flatMap.mpr ⟨r, hr, List.mem_cons_of_mem _ List.mem_cons_self⟩)⟩⟩
theorem zv_240 : zVm zi 240 := ⟨plainFor_of_name (by decide +kernel), by
  have h : ∀ w ∈ (zTb (zi 240)).flatMap (fun r => [Cond.classLink (zYn (zi 240)).cls r.2.2.2.1 (zEx r.2.2.2.2), Cond.castable (zEx r.2.2.2.2) (zEx r.2.2.2.2)]), zWd w := zPls_ok [833, 704] (by decide +kernel) (by decide +kernel)
  have h0 : (zTb (zi 240)).all (fun r => decide (r.2.2.2.1 ≠ 0)) = true := by decide +kernel
  intro r hr
  exact ⟨of_decide_eq_true (List.all_eq_true.mp h0 r hr), h _ (List.mem_flatMap.mpr ⟨r, hr, List.mem_cons_self⟩), h _ (List.mem_flatMap.mpr ⟨r, hr, List.mem_cons_of_mem _ List.mem_cons_self⟩)⟩⟩
theorem zv_241 : zVm zi 241 := ⟨plainFor_of_name (by decide +kernel), by
  have h : ∀ w ∈ (zTb (zi 241)).flatMap (fun r => [Cond.classLink (zYn (zi 241)).cls r.2.2.2.1 (zEx r.2.2.2.2), Cond.castable (zEx r.2.2.2.2) (zEx r.2.2.2.2)]), zWd w := zPls_ok [833, 704] (by decide +kernel) (by decide +kernel)
  have h0 : (zTb (zi 241)).all (fun r => decide (r.2.2.2.1 ≠ 0)) = true := by decide +kernel
  intro r hr
  exact ⟨of_decide_eq_true (List.all_eq_true.mp h0 r hr), h _ (List.mem_flatMap.mpr ⟨r, hr, List.mem_cons_self⟩), h _ (List.mem_flatMap.mpr ⟨r, hr, List.mem_cons_of_mem _ List.mem_cons_self⟩)⟩⟩
theorem zv_242 : zVm zi 242 := ⟨plainFor_of_name (by decide +kernel), by
  have h : ∀ w ∈ (zTb (zi 242)).flatMap (fun r => [Cond.classLink (zYn (zi 242)).cls r.2.2.2.1 (zEx r.2.2.2.2), Cond.castable (zEx r.2.2.2.2) (zEx r.2.2.2.2)]), zWd w := zPls_ok [833, 704] (by decide +kernel) (by decide +kernel)
  have h0 : (zTb (zi 242)).all (fun r => decide (r.2.2.2.1 ≠ 0)) = true := by decide +kernel
  intro r hr
  exact ⟨of_decide_eq_true (List.all_eq_true.mp h0 r hr), h _ (List.mem_flatMap.mpr ⟨r, hr, List.mem_cons_self⟩), h _ (List.mem_flatMap.mpr ⟨r, hr, List.mem_cons_of_mem _ List.mem_cons_self⟩)⟩⟩
theorem zv_243 : zVm zi 243 := ⟨plainFor_of_name (by decide +kernel), fun r h => nomatch (show r ∈ ([] : List (Nat × Nat × Nat × Nat × Nat)) from h)⟩
theorem zv_244 : zVm zi 244 := ⟨plainFor_of_name (by decide +kernel), fun r h => nomatch (show r ∈ ([] : List (Nat × Nat × Nat × Nat × Nat)) from h)⟩
theorem zv_245 : zVm zi 245 := ⟨plainFor_of_name (by decide +kernel), fun r h => nomatch (show r ∈ ([] : List (Nat × Nat × Nat × Nat × Nat)) from h)⟩
theorem zv_246 : zVm zi 246 := ⟨plainFor_of_name (by decide +kernel), fun r h => nomatch (show r ∈ ([] : List (Nat × Nat × Nat × Nat × Nat)) from h)⟩
theorem zv_247 : zVm zi 247 := ⟨plainFor_of_name (by decide +kernel), fun r h => nomatch (show r ∈ ([] : List (Nat × Nat × Nat × Nat × Nat)) from h)⟩
theorem zv_248 : zVm zi 248 := ⟨plainFor_of_name (by decide +kernel), fun r h => nomatch (show r ∈ ([] : List (Nat × Nat × Nat × Nat × Nat)) from h)⟩
theorem zv_249 : zVm zi 249 := ⟨plainFor_of_name (by decide +kernel), fun r h => nomatch (show r ∈ ([] : List (Nat × Nat × Nat × Nat × Nat)) from h)⟩
theorem zv_250 : zVm zi 250 := ⟨plainFor_of_name (by decide +kernel), fun r h => nomatch (show r ∈ ([] : List (Nat × Nat × Nat × Nat × Nat)) from h)⟩
theorem zv_251 : zVm zi 251 := ⟨plainFor_of_name (by decide +kernel), fun r h => nomatch (show r ∈ ([] : List (Nat × Nat × Nat × Nat × Nat)) from h)⟩
theorem zv_252 : zVm zi 252 := ⟨plainFor_of_name (by decide +kernel), fun r h => nomatch (show r ∈ ([] : List (Nat × Nat × Nat × Nat × Nat)) from h)⟩
theorem zv_253 : zVm zi 253 := ⟨plainFor_of_name (by decide +kernel), fun r h => nomatch (show r ∈ ([] : List (Nat × Nat × Nat × Nat × Nat)) from h)⟩
theorem zv_254 : zVm zi 254 := ⟨plainFor_of_name (by decide +kernel), fun r h => nomatch (show r ∈ ([] : List (Nat × Nat × Nat × Nat × Nat)) from h)⟩
theorem zv_255 : zVm zi 255 := ⟨plainFor_of_name (by decide +kernel), fun r h => nomatch (show r ∈ ([] : List (Nat × Nat × Nat × Nat × Nat)) from h)⟩
theorem zv_256 : zVm zi 256 := ⟨plainFor_of_name (by decide +kernel), fun r h => nomatch (show r ∈ ([] : List (Nat × Nat × Nat × Nat × Nat)) from h)⟩
theorem zv_257 : zVm zi 257 := ⟨plainFor_of_name (by decide +kernel), fun r h => nomatch (show r ∈ ([] : List (Nat × Nat × Nat × Nat × Nat)) from h)⟩
theorem zv_258 : zVm zi 258 := ⟨plainFor_of_name (by decide +kernel), fun r h => nomatch (show r ∈ ([] : List (Nat × Nat × Nat × Nat × Nat)) from h)⟩
theorem zv_259 : zVm zi 259 := ⟨plainFor_of_name (by decide +kernel), fun r h => nomatch (show r ∈ ([] : List (Nat × Nat × Nat × Nat × Nat)) from h)⟩
theorem zv_260 : zVm zi 260 := ⟨plainFor_of_name (by decide +kernel), fun r h => nomatch (show r ∈ ([] : List (Nat × Nat × Nat × Nat × Nat)) from h)⟩
theorem zv_261 : zVm zi 261 := ⟨by decide +kernel, fun r h => nomatch (show r ∈ ([] : List (Nat × Nat × Nat × Nat × Nat)) from h)⟩
theorem zv_262 : zVm zi 262 := ⟨by decide +kernel, fun r h => nomatch (show r ∈ ([] : List (Nat × Nat × Nat × Nat × Nat)) from h)⟩
theorem zv_263 : zVm zi 263 := ⟨plainFor_of_name (by decide +kernel), fun r h => nomatch (show r ∈ ([] : List (Nat × Nat × Nat × Nat × Nat)) from h)⟩
theorem zv_264 : zVm zi 264 := ⟨plainFor_of_name (by decide +kernel), fun r h => nomatch (show r ∈ ([] : List (Nat × Nat × Nat × Nat × Nat)) from h)⟩
theorem zv_265 : zVm zi 265 := ⟨plainFor_of_name (by decide +kernel), fun r h => nomatch (show r ∈ ([] : List (Nat × Nat × Nat × Nat × Nat)) from h)⟩
theorem zv_266 : zVm zi 266 := ⟨plainFor_of_name (by decide +kernel), fun r h => nomatch (show r ∈ ([] : List (Nat × Nat × Nat × Nat × Nat)) from h)⟩
theorem zv_267 : zVm zi 267 := ⟨plainFor_of_name (by decide +kernel), fun r h => nomatch (show r ∈ ([] : List (Nat × Nat × Nat × Nat × Nat)) from h)⟩
theorem zv_268 : zVm zi 268 := ⟨plainFor_of_name (by decide +kernel), fun r h => nomatch (show r ∈ ([] : List (Nat × Nat × Nat × Nat × Nat)) from h)⟩
theorem zv_269 : zVm zi 269 := ⟨plainFor_of_name (by decide +kernel), fun r h => nomatch (show r ∈ ([] : List (Nat × Nat × Nat × Nat × Nat)) from h)⟩
theorem zv_270 : zVm zi 270 := ⟨plainFor_of_name (by decide +kernel), fun r h => nomatch (show r ∈ ([] : List (Nat × Nat × Nat × Nat × Nat)) from h)⟩
theorem zv_271 : zVm zi 271 := ⟨plainFor_of_name (by decide +kernel), fun r h => nomatch (show r ∈ ([] : List (Nat × Nat × Nat × Nat × Nat)) from h)⟩
theorem zv_272 : zVm zi 272 := ⟨plainFor_of_name (by decide +kernel), fun r h => nomatch (show r ∈ ([] : List (Nat × Nat × Nat × Nat × Nat)) from h)⟩
theorem zv_273 : zVm zi 273 := ⟨plainFor_of_name (by decide +kernel), fun r h => nomatch (show r ∈ ([] : List (Nat × Nat × Nat × Nat × Nat)) from h)⟩
theorem zv_274 : zVm zi 274 := ⟨plainFor_of_name (by decide +kernel), fun r h => nomatch (show r ∈ ([] : List (Nat × Nat × Nat × Nat × Nat)) from h)⟩
theorem zv_275 : zVm zi 275 := ⟨plainFor_of_name (by decide +kernel), fun r h => nomatch (show r ∈ ([] : List (Nat × Nat × Nat × Nat × Nat)) from h)⟩
theorem zv_276 : zVm zi 276 := ⟨plainFor_of_name (by decide +kernel), fun r h => nomatch (show r ∈ ([] : List (Nat × Nat × Nat × Nat × Nat)) from h)⟩
theorem zv_277 : zVm zi 277 := ⟨plainFor_of_name (by decide +kernel), fun r h => nomatch (show r ∈ ([] : List (Nat × Nat × Nat × Nat × Nat)) from h)⟩
theorem zv_278 : zVm zi 278 := ⟨plainFor_of_name (by decide +kernel), fun r h => nomatch (show r ∈ ([] : List (Nat × Nat × Nat × Nat × Nat)) from h)⟩
theorem zv_279 : zVm zi 279 := ⟨plainFor_of_name (by decide +kernel), fun r h => nomatch (show r ∈ ([] : List (Nat × Nat × Nat × Nat × Nat)) from h)⟩
theorem zv_280 : zVm zi 280 := ⟨plainFor_of_name (by decide +kernel), fun r h => nomatch (show r ∈ ([] : List (Nat × Nat × Nat × Nat × Nat)) from h)⟩
theorem zv_281 : zVm zi 281 := ⟨plainFor_of_name (by decide +kernel), fun r h => nomatch (show r ∈ ([] : List (Nat × Nat × Nat × Nat × Nat)) from h)⟩
theorem zv_282 : zVm zi 282 := ⟨plainFor_of_name (by decide +kernel), fun r h => nomatch (show r ∈ ([] : List (Nat × Nat × Nat × Nat × Nat)) from h)⟩
theorem zv_283 : zVm zi 283 := ⟨plainFor_of_name (by decide +kernel), fun r h => nomatch (show r ∈ ([] : List (Nat × Nat × Nat × Nat × Nat)) from h)⟩
theorem zv_284 : zVm zi 284 := ⟨plainFor_of_name (by decide +kernel), fun r h => nomatch (show r ∈ ([] : List (Nat × Nat × Nat × Nat × Nat)) from h)⟩
theorem zv_285 : zVm zi 285 := ⟨plainFor_of_name (by decide +kernel), fun r h => nomatch (show r ∈ ([] : List (Nat × Nat × Nat × Nat × Nat)) from h)⟩
theorem zv_286 : zVm zi 286 := ⟨plainFor_of_name (by decide +kernel), fun r h => nomatch (show r ∈ ([] : List (Nat × Nat × Nat × Nat × Nat)) from h)⟩
theorem zv_287 : zVm zi 287 := ⟨plainFor_of_name (by decide +kernel), fun r h => nomatch (show r ∈ ([] : List (Nat × Nat × Nat × Nat × Nat)) from h)⟩
theorem zv_288 : zVm zi 288 := ⟨plainFor_of_name (by decide +kernel), fun r h => nomatch (show r ∈ ([] : List (Nat × Nat × Nat × Nat × Nat)) from h)⟩
theorem zv_289 : zVm zi 289 := ⟨plainFor_of_name (by decide +kernel), fun r h => nomatch (show r ∈ ([] : List (Nat × Nat × Nat × Nat × Nat)) from h)⟩
theorem zv_290 : zVm zi 290 := ⟨plainFor_of_name (by decide +kernel), fun r h => nomatch (show r ∈ ([] : List (Nat × Nat × Nat × Nat × Nat)) from h)⟩
theorem zv_291 : zVm zi 291 := ⟨plainFor_of_name (by decide +kernel), fun r h => nomatch (show r ∈ ([] : List (Nat × Nat × Nat × Nat × Nat)) from h)⟩
theorem zv_292 : zVm zi 292 := ⟨plainFor_of_name (by decide +kernel), fun r h => nomatch (show r ∈ ([] : List (Nat × Nat × Nat × Nat × Nat)) from h)⟩
theorem zv_293 : zVm zi 293 := ⟨plainFor_of_name (by decide +kernel), fun r h => nomatch (show r ∈ ([] : List (Nat × Nat × Nat × Nat × Nat)) from h)⟩
theorem zv_294 : zVm zi 294 := ⟨plainFor_of_name (by decide +kernel), fun r h => nomatch (show r ∈ ([] : List (Nat × Nat × Nat × Nat × Nat)) from h)⟩
theorem zv_295 : zVm zi 295 := ⟨plainFor_of_name (by decide +kernel), fun r h => nomatch (show r ∈ ([] : List (Nat × Nat × Nat × Nat × Nat)) from h)⟩
theorem zv_296 : zVm zi 296 := ⟨plainFor_of_name (by decide +kernel), fun r h => nomatch (show r ∈ ([] : List (Nat × Nat × Nat × Nat × Nat)) from h)⟩
theorem zv_297 : zVm zi 297 := ⟨plainFor_of_name (by decide +kernel), fun r h => nomatch (show r ∈ ([] : List (Nat × Nat × Nat × Nat × Nat)) from h)⟩
theorem zv_298 : zVm zi 298 := ⟨plainFor_of_name (by decide +kernel), fun r h => nomatch (show r ∈ ([] : List (Nat × Nat × Nat × Nat × Nat)) from h)⟩
theorem zv_299 : zVm zi 299 := ⟨plainFor_of_name (by decide +kernel), fun r h => nomatch (show r ∈ ([] : List (Nat × Nat × Nat × Nat × Nat)) from h)⟩
theorem zv_300 : zVm zi 300 := ⟨plainFor_of_name (by decide +kernel), fun r h => nomatch (show r ∈ ([] : List (Nat × Nat × Nat × Nat × Nat)) from h)⟩
theorem zv_301 : zVm zi 301 := ⟨plainFor_of_name (by decide +kernel), fun r h => nomatch (show r ∈ ([] : List (Nat × Nat × Nat × Nat × Nat)) from h)⟩
theorem zv_302 : zVm zi 302 := ⟨plainFor_of_name (by decide +kernel), fun r h => nomatch (show r ∈ ([] : List (Nat × Nat × Nat × Nat × Nat)) from h)⟩
theorem zv_303 : zVm zi 303 := ⟨plainFor_of_name (by decide +kernel), fun r h => nomatch (show r ∈ ([] : List (Nat × Nat × Nat × Nat × Nat)) from h)⟩
theorem zv_304 : zVm zi 304 := ⟨plainFor_of_name (by decide +kernel), fun r h => nomatch (show r ∈ ([] : List (Nat × Nat × Nat × Nat × Nat)) from h)⟩
theorem zv_305 : zVm zi 305 := ⟨plainFor_of_name (by decide +kernel), fun r h => nomatch (show r ∈ ([] : List (Nat × Nat × Nat × Nat × Nat)) from h)⟩
theorem zv_306 : zVm zi 306 := ⟨plainFor_of_name (by decide +kernel), fun r h => nomatch (show r ∈ ([] : List (Nat × Nat × Nat × Nat × Nat)) from h)⟩
theorem zv_307 : zVm zi 307 := ⟨plainFor_of_name (by decide +kernel), fun r h => nomatch (show r ∈ ([] : List (Nat × Nat × Nat × Nat × Nat)) from h)⟩
theorem zv_308 : zVm zi 308 := ⟨plainFor_of_name (by decide +kernel), fun r h => nomatch (show r ∈ ([] : List (Nat × Nat × Nat × Nat × Nat)) from h)⟩
theorem zv_309 : zVm zi 309 := ⟨plainFor_of_name (by decide +kernel), fun r h => nomatch (show r ∈ ([] : List (Nat × Nat × Nat × Nat × Nat)) from h)⟩
theorem zv_310 : zVm zi 310 := ⟨plainFor_of_name (by decide +kernel), fun r h => nomatch (show r ∈ ([] : List (Nat × Nat × Nat × Nat × Nat)) from h)⟩
theorem zv_311 : zVm zi 311 := ⟨plainFor_of_name (by decide +kernel), fun r h => nomatch (show r ∈ ([] : List (Nat × Nat × Nat × Nat × Nat)) from h)⟩
theorem zv_312 : zVm zi 312 := ⟨plainFor_of_name (by decide +kernel), fun r h => nomatch (show r ∈ ([] : List (Nat × Nat × Nat × Nat × Nat)) from h)⟩
theorem zv_313 : zVm zi 313 := ⟨plainFor_of_name (by decide +kernel), fun r h => nomatch (show r ∈ ([] : List (Nat × Nat × Nat × Nat × Nat)) from h)⟩
theorem zv_314 : zVm zi 314 := ⟨plainFor_of_name (by decide +kernel), fun r h => nomatch (show r ∈ ([] : List (Nat × Nat × Nat × Nat × Nat)) from h)⟩
theorem zv_315 : zVm zi 315 := ⟨plainFor_of_name (by decide +kernel), fun r h => nomatch (show r ∈ ([] : List (Nat × Nat × Nat × Nat × Nat)) from h)⟩
theorem zv_316 : zVm zi 316 := ⟨plainFor_of_name (by decide +kernel), fun r h => nomatch (show r ∈ ([] : List (Nat × Nat × Nat × Nat × Nat)) from h)⟩
theorem zv_317 : zVm zi 317 := ⟨plainFor_of_name (by decide +kernel), fun r h => nomatch (show r ∈ ([] : List (Nat × Nat × Nat × Nat × Nat)) from h)⟩
theorem zv_318 : zVm zi 318 := ⟨plainFor_of_name (by decide +kernel), fun r h => nomatch (show r ∈ ([] : List (Nat × Nat × Nat × Nat × Nat)) from h)⟩
theorem zv_319 : zVm zi 319 := ⟨plainFor_of_name (by decide +kernel), fun r h => nomatch (show r ∈ ([] : List (Nat × Nat × Nat × Nat × Nat)) from h)⟩
theorem zv_320 : zVm zi 320 := ⟨plainFor_of_name (by decide +kernel), fun r h => nomatch (show r ∈ ([] : List (Nat × Nat × Nat × Nat × Nat)) from h)⟩
theorem zv_321 : zVm zi 321 := ⟨plainFor_of_name (by decide +kernel), fun r h => nomatch (show r ∈ ([] : List (Nat × Nat × Nat × Nat × Nat)) from h)⟩
theorem zp_0 (l : Launch) : zPj l 0 := ⟨zc_0, zw_0, zv_0, by decide +kernel, zNo5 (t := zt_0) (by decide +kernel)⟩
theorem zp_1 (l : Launch) : zPj l 1 := ⟨zc_1, zw_1, zv_1, by decide +kernel, zNo5 (t := zt_1) (by decide +kernel)⟩
theorem zp_2 (l : Launch) : zPj l 2 := ⟨zc_2, zw_2, zv_2, by decide +kernel, zNo5 (t := zt_2) (by decide +kernel)⟩
theorem zp_3 (l : Launch) : zPj l 3 := ⟨zc_3, zw_3, zv_3, by decide +kernel, zNo5 (t := zt_3) (by decide +kernel)⟩
theorem zp_4 (l : Launch) : zPj l 4 := ⟨zc_4, zw_4, zv_4, by decide +kernel, zNo5 (t := zt_4) (by decide +kernel)⟩
theorem zp_5 (l : Launch) : zPj l 5 := ⟨zc_5, zw_5, zv_5, by decide +kernel, zNo5 (t := zt_5) (by decide +kernel)⟩
theorem zp_6 (l : Launch) : zPj l 6 := ⟨zc_6, zw_6, zv_6, by decide +kernel, zNo5 (t := zt_6) (by decide +kernel)⟩
theorem zp_7 (l : Launch) : zPj l 7 := ⟨zc_7, zw_7, zv_7, by decide +kernel, zNo5 (t := zt_7) (by decide +kernel)⟩
theorem zp_8 (l : Launch) : zPj l 8 := ⟨zc_8, zw_8, zv_8, by decide +kernel, zNo5 (t := zt_8) (by decide +kernel)⟩
theorem zp_9 (l : Launch) : zPj l 9 := ⟨zc_9, zw_9, zv_9, by decide +kernel, zNo5 (t := zt_9) (by decide +kernel)⟩
theorem zp_10 (l : Launch) : zPj l 10 := ⟨zc_10, zw_10, zv_10, by decide +kernel, zNo5 (t := zt_10) (by decide +kernel)⟩
theorem zp_11 (l : Launch) : zPj l 11 := ⟨zc_11, zw_11, zv_11, by decide +kernel, zNo5 (t := zt_11) (by decide +kernel)⟩
theorem zp_12 (l : Launch) : zPj l 12 := ⟨zc_12, zw_12, zv_12, by decide +kernel, zNo5 (t := zt_12) (by decide +kernel)⟩
theorem zp_13 (l : Launch) : zPj l 13 := ⟨zc_13, zw_13, zv_13, by decide +kernel, zNo5 (t := zt_13) (by decide +kernel)⟩
theorem zp_14 (l : Launch) : zPj l 14 := ⟨zc_14, zw_14, zv_14, by decide +kernel, zNo5 (t := zt_14) (by decide +kernel)⟩
theorem zp_15 (l : Launch) : zPj l 15 := ⟨zc_15, zw_15, zv_15, by decide +kernel, zNo5 (t := zt_15) (by decide +kernel)⟩
theorem zp_16 (l : Launch) : zPj l 16 := ⟨zc_16, zw_16, zv_16, by decide +kernel, zNo5 (t := zt_16) (by decide +kernel)⟩
theorem zp_17 (l : Launch) : zPj l 17 := ⟨zc_17, zw_17, zv_17, by decide +kernel, zNo5 (t := zt_17) (by decide +kernel)⟩
theorem zp_18 (l : Launch) : zPj l 18 := ⟨zc_18, zw_18, zv_18, by decide +kernel, zNo5 (t := zt_18) (by decide +kernel)⟩
theorem zp_19 (l : Launch) : zPj l 19 := ⟨zc_19, zw_19, zv_19, by decide +kernel, zNo5 (t := zt_19) (by decide +kernel)⟩
theorem zp_20 (l : Launch) : zPj l 20 := ⟨zc_20, zw_20, zv_20, by decide +kernel, zNo5 (t := zt_20) (by decide +kernel)⟩
theorem zp_21 (l : Launch) : zPj l 21 := ⟨zc_21, zw_21, zv_21, by decide +kernel, zNo5 (t := zt_21) (by decide +kernel)⟩
theorem zp_22 (l : Launch) : zPj l 22 := ⟨zc_22, zw_22, zv_22, by decide +kernel, zNo5 (t := zt_22) (by decide +kernel)⟩
theorem zp_23 (l : Launch) : zPj l 23 := ⟨zc_23, zw_23, zv_23, by decide +kernel, zNo5 (t := zt_23) (by decide +kernel)⟩
theorem zp_24 (l : Launch) : zPj l 24 := ⟨zc_24, zw_24, zv_24, by decide +kernel, zNo5 (t := zt_24) (by decide +kernel)⟩
theorem zp_25 (l : Launch) : zPj l 25 := ⟨zc_25, zw_25, zv_25, by decide +kernel, zNo5 (t := zt_25) (by decide +kernel)⟩
theorem zp_26 (l : Launch) : zPj l 26 := ⟨zc_26, zw_26, zv_26, by decide +kernel, zNo5 (t := zt_26) (by decide +kernel)⟩
theorem zp_27 (l : Launch) : zPj l 27 := ⟨zc_27, zw_27, zv_27, by decide +kernel, zNo5 (t := zt_27) (by decide +kernel)⟩
theorem zp_28 (l : Launch) : zPj l 28 := ⟨zc_28, zw_28, zv_28, by decide +kernel, zNo5 (t := zt_28) (by decide +kernel)⟩
theorem zp_29 (l : Launch) : zPj l 29 := ⟨zc_29, zw_29, zv_29, by decide +kernel, zNo5 (t := zt_29) (by decide +kernel)⟩
theorem zp_30 (l : Launch) : zPj l 30 := ⟨zc_30, zw_30, zv_30, by decide +kernel, zNo5 (t := zt_30) (by decide +kernel)⟩
theorem zp_31 (l : Launch) : zPj l 31 := ⟨zc_31, zw_31, zv_31, by decide +kernel, zNo5 (t := zt_31) (by decide +kernel)⟩
theorem zp_32 (l : Launch) : zPj l 32 := ⟨zc_32, zw_32, zv_32, by decide +kernel, zNo5 (t := zt_32) (by decide +kernel)⟩
theorem zp_33 (l : Launch) : zPj l 33 := ⟨zc_33, zw_33, zv_33, by decide +kernel, zNo5 (t := zt_33) (by decide +kernel)⟩
theorem zp_34 (l : Launch) : zPj l 34 := ⟨zc_34, zw_34, zv_34, by decide +kernel, zNo5 (t := zt_34) (by decide +kernel)⟩
theorem zp_35 (l : Launch) : zPj l 35 := ⟨zc_35, zw_35, zv_35, by decide +kernel, zNo5 (t := zt_35) (by decide +kernel)⟩
theorem zp_36 (l : Launch) : zPj l 36 := ⟨zc_36, zw_36, zv_36, by decide +kernel, zNo5 (t := zt_36) (by decide +kernel)⟩
theorem zp_37 (l : Launch) : zPj l 37 := ⟨zc_37, zw_37, zv_37, by decide +kernel, zNo5 (t := zt_37) (by decide +kernel)⟩
theorem zp_38 (l : Launch) : zPj l 38 := ⟨zc_38, zw_38, zv_38, by decide +kernel, zNo5 (t := zt_38) (by decide +kernel)⟩
theorem zp_39 (l : Launch) : zPj l 39 := ⟨zc_39, zw_39, zv_39, by decide +kernel, zNo5 (t := zt_39) (by decide +kernel)⟩
theorem zp_40 (l : Launch) : zPj l 40 := ⟨zc_40, zw_40, zv_40, by decide +kernel, zNo5 (t := zt_40) (by decide +kernel)⟩
theorem zp_41 (l : Launch) : zPj l 41 := ⟨zc_41, zw_41, zv_41, by decide +kernel, zNo5 (t := zt_41) (by decide +kernel)⟩
theorem zp_42 (l : Launch) : zPj l 42 := ⟨zc_42, zw_42, zv_42, by decide +kernel, zNo5 (t := zt_42) (by decide +kernel)⟩
theorem zp_43 (l : Launch) : zPj l 43 := ⟨zc_43, zw_43, zv_43, by decide +kernel, zNo5 (t := zt_43) (by decide +kernel)⟩
theorem zp_44 (l : Launch) : zPj l 44 := ⟨zc_44, zw_44, zv_44, by decide +kernel, zNo5 (t := zt_44) (by decide +kernel)⟩
theorem zp_45 (l : Launch) : zPj l 45 := ⟨zc_45, zw_45, zv_45, by decide +kernel, zNo5 (t := zt_45) (by decide +kernel)⟩
theorem zp_46 (l : Launch) : zPj l 46 := ⟨zc_46, zw_46, zv_46, by decide +kernel, zNo5 (t := zt_46) (by decide +kernel)⟩
theorem zp_47 (l : Launch) : zPj l 47 := ⟨zc_47, zw_47, zv_47, by decide +kernel, zNo5 (t := zt_47) (by decide +kernel)⟩
theorem zp_48 (l : Launch) : zPj l 48 := ⟨zc_48, zw_48, zv_48, by decide +kernel, zNo5 (t := zt_48) (by decide +kernel)⟩
theorem zp_49 (l : Launch) : zPj l 49 := ⟨zc_49, zw_49, zv_49, by decide +kernel, zNo5 (t := zt_49) (by decide +kernel)⟩
theorem zp_50 (l : Launch) : zPj l 50 := ⟨zc_50, zw_50, zv_50, by decide +kernel, zNo5 (t := zt_50) (by decide +kernel)⟩
theorem zp_51 (l : Launch) : zPj l 51 := ⟨zc_51, zw_51, zv_51, by decide +kernel, zNo5 (t := zt_51) (by decide +kernel)⟩
theorem zp_52 (l : Launch) : zPj l 52 := ⟨zc_52, zw_52, zv_52, by decide +kernel, zNo5 (t := zt_52) (by decide +kernel)⟩
theorem zp_53 (l : Launch) : zPj l 53 := ⟨zc_53, zw_53, zv_53, by decide +kernel, zNo5 (t := zt_53) (by decide +kernel)⟩
theorem zp_54 (l : Launch) : zPj l 54 := ⟨zc_54, zw_54, zv_54, by decide +kernel, zNo5 (t := zt_54) (by decide +kernel)⟩
theorem zp_55 (l : Launch) : zPj l 55 := ⟨zc_55, zw_55, zv_55, by decide +kernel, zNo5 (t := zt_55) (by decide +kernel)⟩
theorem zp_56 (l : Launch) : zPj l 56 := ⟨zc_56, zw_56, zv_56, by decide +kernel, zNo5 (t := zt_56) (by decide +kernel)⟩
theorem zp_57 (l : Launch) : zPj l 57 := ⟨zc_57, zw_57, zv_57, by decide +kernel, zNo5 (t := zt_57) (by decide +kernel)⟩
theorem zp_58 (l : Launch) : zPj l 58 := ⟨zc_58, zw_58, zv_58, by decide +kernel, zNo5 (t := zt_58) (by decide +kernel)⟩
theorem zp_59 (l : Launch) : zPj l 59 := ⟨zc_59, zw_59, zv_59, by decide +kernel, zNo5 (t := zt_59) (by decide +kernel)⟩
theorem zp_60 (l : Launch) : zPj l 60 := ⟨zc_60, zw_60, zv_60, by decide +kernel, zNo5 (t := zt_60) (by decide +kernel)⟩
theorem zp_61 (l : Launch) : zPj l 61 := ⟨zc_61, zw_61, zv_61, by decide +kernel, zNo5 (t := zt_61) (by decide +kernel)⟩
theorem zp_62 (l : Launch) : zPj l 62 := ⟨zc_62, zw_62, zv_62, by decide +kernel, zNo5 (t := zt_62) (by decide +kernel)⟩
theorem zp_63 (l : Launch) : zPj l 63 := ⟨zc_63, zw_63, zv_63, by decide +kernel, zNo5 (t := zt_63) (by decide +kernel)⟩
theorem zp_64 (l : Launch) : zPj l 64 := ⟨zc_64, zw_64, zv_64, by decide +kernel, zNo5 (t := zt_64) (by decide +kernel)⟩
theorem zp_65 (l : Launch) : zPj l 65 := ⟨zc_65, zw_65, zv_65, by decide +kernel, zNo5 (t := zt_65) (by decide +kernel)⟩
theorem zp_66 (l : Launch) : zPj l 66 := ⟨zc_66, zw_66, zv_66, by decide +kernel, zNo5 (t := zt_66) (by decide +kernel)⟩
theorem zp_67 (l : Launch) : zPj l 67 := ⟨zc_67, zw_67, zv_67, by decide +kernel, zNo5 (t := zt_67) (by decide +kernel)⟩
theorem zp_68 (l : Launch) : zPj l 68 := ⟨zc_68, zw_68, zv_68, by decide +kernel, zNo5 (t := zt_68) (by decide +kernel)⟩
theorem zp_69 (l : Launch) : zPj l 69 := ⟨zc_69, zw_69, zv_69, by decide +kernel, zNo5 (t := zt_69) (by decide +kernel)⟩
theorem zp_70 (l : Launch) : zPj l 70 := ⟨zc_70, zw_70, zv_70, by decide +kernel, zNo5 (t := zt_70) (by decide +kernel)⟩
theorem zp_71 (l : Launch) : zPj l 71 := ⟨zc_71, zw_71, zv_71, by decide +kernel, zNo5 (t := zt_71) (by decide +kernel)⟩
theorem zp_72 (l : Launch) : zPj l 72 := ⟨zc_72, zw_72, zv_72, by decide +kernel, zNo5 (t := zt_72) (by decide +kernel)⟩
theorem zp_73 (l : Launch) : zPj l 73 := ⟨zc_73, zw_73, zv_73, by decide +kernel, zNo5 (t := zt_73) (by decide +kernel)⟩
theorem zp_74 (l : Launch) : zPj l 74 := ⟨zc_74, zw_74, zv_74, by decide +kernel, zNo5 (t := zt_74) (by decide +kernel)⟩
theorem zp_75 (l : Launch) : zPj l 75 := ⟨zc_75, zw_75, zv_75, by decide +kernel, zNo5 (t := zt_75) (by decide +kernel)⟩
theorem zp_76 (l : Launch) : zPj l 76 := ⟨zc_76, zw_76, zv_76, by decide +kernel, zNo5 (t := zt_76) (by decide +kernel)⟩
theorem zp_77 (l : Launch) : zPj l 77 := ⟨zc_77, zw_77, zv_77, by decide +kernel, zNo5 (t := zt_77) (by decide +kernel)⟩
theorem zp_78 (l : Launch) : zPj l 78 := ⟨zc_78, zw_78, zv_78, by decide +kernel, zNo5 (t := zt_78) (by decide +kernel)⟩
theorem zp_79 (l : Launch) : zPj l 79 := ⟨zc_79, zw_79, zv_79, by decide +kernel, zNo5 (t := zt_79) (by decide +kernel)⟩
theorem zp_80 (l : Launch) : zPj l 80 := ⟨zc_80, zw_80, zv_80, by decide +kernel, zNo5 (t := zt_80) (by decide +kernel)⟩
theorem zp_81 (l : Launch) : zPj l 81 := ⟨zc_81, zw_81, zv_81, by decide +kernel, zNo5 (t := zt_81) (by decide +kernel)⟩
theorem zp_82 (l : Launch) : zPj l 82 := ⟨zc_82, zw_82, zv_82, by decide +kernel, zNo5 (t := zt_82) (by decide +kernel)⟩
theorem zp_83 (l : Launch) : zPj l 83 := ⟨zc_83, zw_83, zv_83, by decide +kernel, zNo5 (t := zt_83) (by decide +kernel)⟩
theorem zp_84 (l : Launch) : zPj l 84 := ⟨zc_84, zw_84, zv_84, by decide +kernel, zNo5 (t := zt_84) (by decide +kernel)⟩
theorem zp_85 (l : Launch) : zPj l 85 := ⟨zc_85, zw_85, zv_85, by decide +kernel, zNo5 (t := zt_85) (by decide +kernel)⟩
theorem zp_86 (l : Launch) : zPj l 86 := ⟨zc_86, zw_86, zv_86, by decide +kernel, zNo5 (t := zt_86) (by decide +kernel)⟩
theorem zp_87 (l : Launch) : zPj l 87 := ⟨zc_87, zw_87, zv_87, by decide +kernel, zNo5 (t := zt_87) (by decide +kernel)⟩
theorem zp_88 (l : Launch) : zPj l 88 := ⟨zc_88, zw_88, zv_88, by decide +kernel, zNo5 (t := zt_88) (by decide +kernel)⟩
theorem zp_89 (l : Launch) : zPj l 89 := ⟨zc_89, zw_89, zv_89, by decide +kernel, zNo5 (t := zt_89) (by decide +kernel)⟩
theorem zp_90 (l : Launch) : zPj l 90 := ⟨zc_90, zw_90, zv_90, by decide +kernel, zNo5 (t := zt_90) (by decide +kernel)⟩
theorem zp_91 (l : Launch) : zPj l 91 := ⟨zc_91, zw_91, zv_91, by decide +kernel, zNo5 (t := zt_91) (by decide +kernel)⟩
theorem zp_92 (l : Launch) : zPj l 92 := ⟨zc_92, zw_92, zv_92, by decide +kernel, zNo5 (t := zt_92) (by decide +kernel)⟩
theorem zp_93 (l : Launch) : zPj l 93 := ⟨zc_93, zw_93, zv_93, by decide +kernel, zNo5 (t := zt_93) (by decide +kernel)⟩
theorem zp_94 (l : Launch) : zPj l 94 := ⟨zc_94, zw_94, zv_94, by decide +kernel, zNo5 (t := zt_94) (by decide +kernel)⟩
theorem zp_95 (l : Launch) : zPj l 95 := ⟨zc_95, zw_95, zv_95, by decide +kernel, zNo5 (t := zt_95) (by decide +kernel)⟩
theorem zd5_96 : ∀ x ∈ zt_96, zKd x.2.1 x.2.2.1 x.2.2.2 = 5 → x.1 = 9 ∧ x.2.2.1 = 1000 := by decide +kernel
set_option maxHeartbeats 2000000 in
theorem zb_96 (l : Launch) (hl : l.stackTraces = false) : zBlk l zi 96 9 0 := zBlk_W (ik := 406) (ic := 410) hl rfl rfl (by decide +kernel) (by decide +kernel) (zPls_ok (l := [.classLink zCh 406 (zEx 0)]) [702] (by decide +kernel) (by decide +kernel) _ List.mem_cons_self) (zPls_ok (l := [.initialized (zEx 0)]) [92] (by decide +kernel) (by decide +kernel) _ List.mem_cons_self) (fun w hw => zMem_ok (by decide +kernel) w hw) (by decide +kernel) (by decide +kernel) (by decide +kernel) (by decide +kernel) (by decide +kernel) (by decide +kernel)
theorem zp_96 (l : Launch) (hl : l.stackTraces = false) : zPj l 96 := ⟨zc_96, zw_96, zv_96, by decide +kernel, fun x hx q => by
  obtain ⟨q1, q2⟩ := zd5_96 x hx q
  rw [q1, q2]
  exact ⟨zb_96 l hl, rfl⟩⟩
theorem zd5_97 : ∀ x ∈ zt_97, zKd x.2.1 x.2.2.1 x.2.2.2 = 5 → x.1 = 10 ∧ x.2.2.1 = 1001 := by decide +kernel
set_option maxHeartbeats 2000000 in
theorem zb_97 (l : Launch) (hl : l.stackTraces = false) : zBlk l zi 97 10 1 := zBlk_W (ik := 413) (ic := 417) hl rfl rfl (by decide +kernel) (by decide +kernel) (zPls_ok (l := [.classLink zCh 413 (zEx 1)]) [554] (by decide +kernel) (by decide +kernel) _ List.mem_cons_self) (zPls_ok (l := [.initialized (zEx 1)]) [93] (by decide +kernel) (by decide +kernel) _ List.mem_cons_self) (fun w hw => zMem_ok (by decide +kernel) w hw) (by decide +kernel) (by decide +kernel) (by decide +kernel) (by decide +kernel) (by decide +kernel) (by decide +kernel)
theorem zp_97 (l : Launch) (hl : l.stackTraces = false) : zPj l 97 := ⟨zc_97, zw_97, zv_97, by decide +kernel, fun x hx q => by
  obtain ⟨q1, q2⟩ := zd5_97 x hx q
  rw [q1, q2]
  exact ⟨zb_97 l hl, rfl⟩⟩
theorem zd5_98 : ∀ x ∈ zt_98, zKd x.2.1 x.2.2.1 x.2.2.2 = 5 → x.1 = 4 ∧ x.2.2.1 = 1002 := by decide +kernel
set_option maxHeartbeats 2000000 in
theorem zb_98 (l : Launch) (hl : l.stackTraces = false) : zBlk l zi 98 4 2 := zBlk_W (ik := 418) (ic := 422) hl rfl rfl (by decide +kernel) (by decide +kernel) (zPls_ok (l := [.classLink zCh 418 (zEx 2)]) [864] (by decide +kernel) (by decide +kernel) _ List.mem_cons_self) (zPls_ok (l := [.initialized (zEx 2)]) [94] (by decide +kernel) (by decide +kernel) _ List.mem_cons_self) (fun w hw => zMem_ok (by decide +kernel) w hw) (by decide +kernel) (by decide +kernel) (by decide +kernel) (by decide +kernel) (by decide +kernel) (by decide +kernel)
theorem zp_98 (l : Launch) (hl : l.stackTraces = false) : zPj l 98 := ⟨zc_98, zw_98, zv_98, by decide +kernel, fun x hx q => by
  obtain ⟨q1, q2⟩ := zd5_98 x hx q
  rw [q1, q2]
  exact ⟨zb_98 l hl, rfl⟩⟩
theorem zp_99 (l : Launch) : zPj l 99 := ⟨zc_99, zw_99, zv_99, by decide +kernel, zNo5 (t := zt_99) (by decide +kernel)⟩
theorem zp_100 (l : Launch) : zPj l 100 := ⟨zc_100, zw_100, zv_100, by decide +kernel, zNo5 (t := zt_100) (by decide +kernel)⟩
theorem zp_101 (l : Launch) : zPj l 101 := ⟨zc_101, zw_101, zv_101, by decide +kernel, zNo5 (t := zt_101) (by decide +kernel)⟩
theorem zp_102 (l : Launch) : zPj l 102 := ⟨zc_102, zw_102, zv_102, by decide +kernel, zNo5 (t := zt_102) (by decide +kernel)⟩
theorem zp_103 (l : Launch) : zPj l 103 := ⟨zc_103, zw_103, zv_103, by decide +kernel, zNo5 (t := zt_103) (by decide +kernel)⟩
theorem zp_104 (l : Launch) : zPj l 104 := ⟨zc_104, zw_104, zv_104, by decide +kernel, zNo5 (t := zt_104) (by decide +kernel)⟩
theorem zp_105 (l : Launch) : zPj l 105 := ⟨zc_105, zw_105, zv_105, by decide +kernel, zNo5 (t := zt_105) (by decide +kernel)⟩
theorem zp_106 (l : Launch) : zPj l 106 := ⟨zc_106, zw_106, zv_106, by decide +kernel, zNo5 (t := zt_106) (by decide +kernel)⟩
theorem zp_107 (l : Launch) : zPj l 107 := ⟨zc_107, zw_107, zv_107, by decide +kernel, zNo5 (t := zt_107) (by decide +kernel)⟩
theorem zp_108 (l : Launch) : zPj l 108 := ⟨zc_108, zw_108, zv_108, by decide +kernel, zNo5 (t := zt_108) (by decide +kernel)⟩
theorem zp_109 (l : Launch) : zPj l 109 := ⟨zc_109, zw_109, zv_109, by decide +kernel, zNo5 (t := zt_109) (by decide +kernel)⟩
theorem zp_110 (l : Launch) : zPj l 110 := ⟨zc_110, zw_110, zv_110, by decide +kernel, zNo5 (t := zt_110) (by decide +kernel)⟩
theorem zp_111 (l : Launch) : zPj l 111 := ⟨zc_111, zw_111, zv_111, by decide +kernel, zNo5 (t := zt_111) (by decide +kernel)⟩
theorem zp_112 (l : Launch) : zPj l 112 := ⟨zc_112, zw_112, zv_112, by decide +kernel, zNo5 (t := zt_112) (by decide +kernel)⟩
theorem zp_113 (l : Launch) : zPj l 113 := ⟨zc_113, zw_113, zv_113, by decide +kernel, zNo5 (t := zt_113) (by decide +kernel)⟩
theorem zp_114 (l : Launch) : zPj l 114 := ⟨zc_114, zw_114, zv_114, by decide +kernel, zNo5 (t := zt_114) (by decide +kernel)⟩
theorem zp_115 (l : Launch) : zPj l 115 := ⟨zc_115, zw_115, zv_115, by decide +kernel, zNo5 (t := zt_115) (by decide +kernel)⟩
theorem zp_116 (l : Launch) : zPj l 116 := ⟨zc_116, zw_116, zv_116, by decide +kernel, zNo5 (t := zt_116) (by decide +kernel)⟩
theorem zp_117 (l : Launch) : zPj l 117 := ⟨zc_117, zw_117, zv_117, by decide +kernel, zNo5 (t := zt_117) (by decide +kernel)⟩
theorem zp_118 (l : Launch) : zPj l 118 := ⟨zc_118, zw_118, zv_118, by decide +kernel, zNo5 (t := zt_118) (by decide +kernel)⟩
theorem zp_119 (l : Launch) : zPj l 119 := ⟨zc_119, zw_119, zv_119, by decide +kernel, zNo5 (t := zt_119) (by decide +kernel)⟩
theorem zp_120 (l : Launch) : zPj l 120 := ⟨zc_120, zw_120, zv_120, by decide +kernel, zNo5 (t := zt_120) (by decide +kernel)⟩
theorem zp_121 (l : Launch) : zPj l 121 := ⟨zc_121, zw_121, zv_121, by decide +kernel, zNo5 (t := zt_121) (by decide +kernel)⟩
theorem zp_122 (l : Launch) : zPj l 122 := ⟨zc_122, zw_122, zv_122, by decide +kernel, zNo5 (t := zt_122) (by decide +kernel)⟩
theorem zp_123 (l : Launch) : zPj l 123 := ⟨zc_123, zw_123, zv_123, by decide +kernel, zNo5 (t := zt_123) (by decide +kernel)⟩
theorem zp_124 (l : Launch) : zPj l 124 := ⟨zc_124, zw_124, zv_124, by decide +kernel, zNo5 (t := zt_124) (by decide +kernel)⟩
theorem zp_125 (l : Launch) : zPj l 125 := ⟨zc_125, zw_125, zv_125, by decide +kernel, zNo5 (t := zt_125) (by decide +kernel)⟩
theorem zp_126 (l : Launch) : zPj l 126 := ⟨zc_126, zw_126, zv_126, by decide +kernel, zNo5 (t := zt_126) (by decide +kernel)⟩
theorem zp_127 (l : Launch) : zPj l 127 := ⟨zc_127, zw_127, zv_127, by decide +kernel, zNo5 (t := zt_127) (by decide +kernel)⟩
theorem zp_128 (l : Launch) : zPj l 128 := ⟨zc_128, zw_128, zv_128, by decide +kernel, zNo5 (t := zt_128) (by decide +kernel)⟩
theorem zp_129 (l : Launch) : zPj l 129 := ⟨rfl, fun w h => (nomatch (show w ∈ ([] : List Cond) from h)), zv_129, rfl, fun x h => nomatch (show x ∈ ([] : List (Nat × Instr × Nat × Nat)) from h)⟩
theorem zp_130 (l : Launch) : zPj l 130 := ⟨zc_130, zw_130, zv_130, by decide +kernel, zNo5 (t := zt_130) (by decide +kernel)⟩
theorem zp_131 (l : Launch) : zPj l 131 := ⟨zc_131, zw_131, zv_131, by decide +kernel, zNo5 (t := zt_131) (by decide +kernel)⟩
theorem zp_132 (l : Launch) : zPj l 132 := ⟨zc_132, zw_132, zv_132, by decide +kernel, zNo5 (t := zt_132) (by decide +kernel)⟩
theorem zp_133 (l : Launch) : zPj l 133 := ⟨zc_133, zw_133, zv_133, by decide +kernel, zNo5 (t := zt_133) (by decide +kernel)⟩
theorem zp_134 (l : Launch) : zPj l 134 := ⟨zc_134, zw_134, zv_134, by decide +kernel, zNo5 (t := zt_134) (by decide +kernel)⟩
theorem zp_135 (l : Launch) : zPj l 135 := ⟨zc_135, zw_135, zv_135, by decide +kernel, zNo5 (t := zt_135) (by decide +kernel)⟩
theorem zp_136 (l : Launch) : zPj l 136 := ⟨zc_136, zw_136, zv_136, by decide +kernel, zNo5 (t := zt_136) (by decide +kernel)⟩
theorem zp_137 (l : Launch) : zPj l 137 := ⟨zc_137, zw_137, zv_137, by decide +kernel, zNo5 (t := zt_137) (by decide +kernel)⟩
theorem zp_138 (l : Launch) : zPj l 138 := ⟨zc_138, zw_138, zv_138, by decide +kernel, zNo5 (t := zt_138) (by decide +kernel)⟩
theorem zp_139 (l : Launch) : zPj l 139 := ⟨zc_139, zw_139, zv_139, by decide +kernel, zNo5 (t := zt_139) (by decide +kernel)⟩
theorem zp_140 (l : Launch) : zPj l 140 := ⟨zc_140, zw_140, zv_140, by decide +kernel, zNo5 (t := zt_140) (by decide +kernel)⟩
theorem zp_141 (l : Launch) : zPj l 141 := ⟨zc_141, zw_141, zv_141, by decide +kernel, zNo5 (t := zt_141) (by decide +kernel)⟩
theorem zp_142 (l : Launch) : zPj l 142 := ⟨zc_142, zw_142, zv_142, by decide +kernel, zNo5 (t := zt_142) (by decide +kernel)⟩
theorem zp_143 (l : Launch) : zPj l 143 := ⟨zc_143, zw_143, zv_143, by decide +kernel, zNo5 (t := zt_143) (by decide +kernel)⟩
theorem zp_144 (l : Launch) : zPj l 144 := ⟨zc_144, zw_144, zv_144, by decide +kernel, zNo5 (t := zt_144) (by decide +kernel)⟩
theorem zp_145 (l : Launch) : zPj l 145 := ⟨zc_145, zw_145, zv_145, by decide +kernel, zNo5 (t := zt_145) (by decide +kernel)⟩
theorem zp_146 (l : Launch) : zPj l 146 := ⟨zc_146, zw_146, zv_146, by decide +kernel, zNo5 (t := zt_146) (by decide +kernel)⟩
theorem zp_147 (l : Launch) : zPj l 147 := ⟨zc_147, zw_147, zv_147, by decide +kernel, zNo5 (t := zt_147) (by decide +kernel)⟩
theorem zp_148 (l : Launch) : zPj l 148 := ⟨zc_148, zw_148, zv_148, by decide +kernel, zNo5 (t := zt_148) (by decide +kernel)⟩
theorem zp_149 (l : Launch) : zPj l 149 := ⟨zc_149, zw_149, zv_149, by decide +kernel, zNo5 (t := zt_149) (by decide +kernel)⟩
theorem zp_150 (l : Launch) : zPj l 150 := ⟨zc_150, zw_150, zv_150, by decide +kernel, zNo5 (t := zt_150) (by decide +kernel)⟩
theorem zp_151 (l : Launch) : zPj l 151 := ⟨zc_151, zw_151, zv_151, by decide +kernel, zNo5 (t := zt_151) (by decide +kernel)⟩
theorem zp_152 (l : Launch) : zPj l 152 := ⟨zc_152, zw_152, zv_152, by decide +kernel, zNo5 (t := zt_152) (by decide +kernel)⟩
theorem zp_153 (l : Launch) : zPj l 153 := ⟨zc_153, zw_153, zv_153, by decide +kernel, zNo5 (t := zt_153) (by decide +kernel)⟩
theorem zp_154 (l : Launch) : zPj l 154 := ⟨zc_154, zw_154, zv_154, by decide +kernel, zNo5 (t := zt_154) (by decide +kernel)⟩
theorem zp_155 (l : Launch) : zPj l 155 := ⟨zc_155, zw_155, zv_155, by decide +kernel, zNo5 (t := zt_155) (by decide +kernel)⟩
theorem zp_156 (l : Launch) : zPj l 156 := ⟨zc_156, zw_156, zv_156, by decide +kernel, zNo5 (t := zt_156) (by decide +kernel)⟩
theorem zp_157 (l : Launch) : zPj l 157 := ⟨zc_157, zw_157, zv_157, by decide +kernel, zNo5 (t := zt_157) (by decide +kernel)⟩
theorem zp_158 (l : Launch) : zPj l 158 := ⟨zc_158, zw_158, zv_158, by decide +kernel, zNo5 (t := zt_158) (by decide +kernel)⟩
theorem zp_159 (l : Launch) : zPj l 159 := ⟨zc_159, zw_159, zv_159, by decide +kernel, zNo5 (t := zt_159) (by decide +kernel)⟩
theorem zp_160 (l : Launch) : zPj l 160 := ⟨zc_160, zw_160, zv_160, by decide +kernel, zNo5 (t := zt_160) (by decide +kernel)⟩
theorem zp_161 (l : Launch) : zPj l 161 := ⟨rfl, fun w h => (nomatch (show w ∈ ([] : List Cond) from h)), zv_161, rfl, fun x h => nomatch (show x ∈ ([] : List (Nat × Instr × Nat × Nat)) from h)⟩
theorem zp_162 (l : Launch) : zPj l 162 := ⟨rfl, fun w h => (nomatch (show w ∈ ([] : List Cond) from h)), zv_162, rfl, fun x h => nomatch (show x ∈ ([] : List (Nat × Instr × Nat × Nat)) from h)⟩
theorem zp_163 (l : Launch) : zPj l 163 := ⟨zc_163, zw_163, zv_163, by decide +kernel, zNo5 (t := zt_163) (by decide +kernel)⟩
theorem zp_164 (l : Launch) : zPj l 164 := ⟨zc_164, zw_164, zv_164, by decide +kernel, zNo5 (t := zt_164) (by decide +kernel)⟩
theorem zp_165 (l : Launch) : zPj l 165 := ⟨zc_165, zw_165, zv_165, by decide +kernel, zNo5 (t := zt_165) (by decide +kernel)⟩
theorem zp_166 (l : Launch) : zPj l 166 := ⟨zc_166, zw_166, zv_166, by decide +kernel, zNo5 (t := zt_166) (by decide +kernel)⟩
theorem zp_167 (l : Launch) : zPj l 167 := ⟨zc_167, zw_167, zv_167, by decide +kernel, zNo5 (t := zt_167) (by decide +kernel)⟩
theorem zp_168 (l : Launch) : zPj l 168 := ⟨zc_168, zw_168, zv_168, by decide +kernel, zNo5 (t := zt_168) (by decide +kernel)⟩
theorem zp_169 (l : Launch) : zPj l 169 := ⟨zc_169, zw_169, zv_169, by decide +kernel, zNo5 (t := zt_169) (by decide +kernel)⟩
theorem zp_170 (l : Launch) : zPj l 170 := ⟨zc_170, zw_170, zv_170, by decide +kernel, zNo5 (t := zt_170) (by decide +kernel)⟩
theorem zp_171 (l : Launch) : zPj l 171 := ⟨zc_171, zw_171, zv_171, by decide +kernel, zNo5 (t := zt_171) (by decide +kernel)⟩
theorem zp_172 (l : Launch) : zPj l 172 := ⟨zc_172, zw_172, zv_172, by decide +kernel, zNo5 (t := zt_172) (by decide +kernel)⟩
theorem zp_173 (l : Launch) : zPj l 173 := ⟨zc_173, zw_173, zv_173, by decide +kernel, zNo5 (t := zt_173) (by decide +kernel)⟩
theorem zp_174 (l : Launch) : zPj l 174 := ⟨zc_174, zw_174, zv_174, by decide +kernel, zNo5 (t := zt_174) (by decide +kernel)⟩
theorem zp_175 (l : Launch) : zPj l 175 := ⟨zc_175, zw_175, zv_175, by decide +kernel, zNo5 (t := zt_175) (by decide +kernel)⟩
theorem zp_176 (l : Launch) : zPj l 176 := ⟨zc_176, zw_176, zv_176, by decide +kernel, zNo5 (t := zt_176) (by decide +kernel)⟩
theorem zp_177 (l : Launch) : zPj l 177 := ⟨zc_177, zw_177, zv_177, by decide +kernel, zNo5 (t := zt_177) (by decide +kernel)⟩
theorem zp_178 (l : Launch) : zPj l 178 := ⟨zc_178, zw_178, zv_178, by decide +kernel, zNo5 (t := zt_178) (by decide +kernel)⟩
theorem zp_179 (l : Launch) : zPj l 179 := ⟨zc_179, zw_179, zv_179, by decide +kernel, zNo5 (t := zt_179) (by decide +kernel)⟩
theorem zp_180 (l : Launch) : zPj l 180 := ⟨zc_180, zw_180, zv_180, by decide +kernel, zNo5 (t := zt_180) (by decide +kernel)⟩
theorem zp_181 (l : Launch) : zPj l 181 := ⟨zc_181, zw_181, zv_181, by decide +kernel, zNo5 (t := zt_181) (by decide +kernel)⟩
theorem zp_182 (l : Launch) : zPj l 182 := ⟨zc_182, zw_182, zv_182, by decide +kernel, zNo5 (t := zt_182) (by decide +kernel)⟩
theorem zp_183 (l : Launch) : zPj l 183 := ⟨zc_183, zw_183, zv_183, by decide +kernel, zNo5 (t := zt_183) (by decide +kernel)⟩
theorem zp_184 (l : Launch) : zPj l 184 := ⟨zc_184, zw_184, zv_184, by decide +kernel, zNo5 (t := zt_184) (by decide +kernel)⟩
theorem zp_185 (l : Launch) : zPj l 185 := ⟨zc_185, zw_185, zv_185, by decide +kernel, zNo5 (t := zt_185) (by decide +kernel)⟩
theorem zp_186 (l : Launch) : zPj l 186 := ⟨zc_186, zw_186, zv_186, by decide +kernel, zNo5 (t := zt_186) (by decide +kernel)⟩
theorem zp_187 (l : Launch) : zPj l 187 := ⟨zc_187, zw_187, zv_187, by decide +kernel, zNo5 (t := zt_187) (by decide +kernel)⟩
theorem zp_188 (l : Launch) : zPj l 188 := ⟨zc_188, zw_188, zv_188, by decide +kernel, zNo5 (t := zt_188) (by decide +kernel)⟩
theorem zp_189 (l : Launch) : zPj l 189 := ⟨zc_189, zw_189, zv_189, by decide +kernel, zNo5 (t := zt_189) (by decide +kernel)⟩
theorem zp_190 (l : Launch) : zPj l 190 := ⟨zc_190, zw_190, zv_190, by decide +kernel, zNo5 (t := zt_190) (by decide +kernel)⟩
theorem zp_191 (l : Launch) : zPj l 191 := ⟨zc_191, zw_191, zv_191, by decide +kernel, zNo5 (t := zt_191) (by decide +kernel)⟩
theorem zp_192 (l : Launch) : zPj l 192 := ⟨zc_192, zw_192, zv_192, by decide +kernel, zNo5 (t := zt_192) (by decide +kernel)⟩
theorem zp_193 (l : Launch) : zPj l 193 := ⟨zc_193, zw_193, zv_193, by decide +kernel, zNo5 (t := zt_193) (by decide +kernel)⟩
theorem zp_194 (l : Launch) : zPj l 194 := ⟨zc_194, zw_194, zv_194, by decide +kernel, zNo5 (t := zt_194) (by decide +kernel)⟩
theorem zp_195 (l : Launch) : zPj l 195 := ⟨zc_195, zw_195, zv_195, by decide +kernel, zNo5 (t := zt_195) (by decide +kernel)⟩
theorem zp_196 (l : Launch) : zPj l 196 := ⟨zc_196, zw_196, zv_196, by decide +kernel, zNo5 (t := zt_196) (by decide +kernel)⟩
theorem zp_197 (l : Launch) : zPj l 197 := ⟨zc_197, zw_197, zv_197, by decide +kernel, zNo5 (t := zt_197) (by decide +kernel)⟩
theorem zp_198 (l : Launch) : zPj l 198 := ⟨zc_198, zw_198, zv_198, by decide +kernel, zNo5 (t := zt_198) (by decide +kernel)⟩
theorem zp_199 (l : Launch) : zPj l 199 := ⟨zc_199, zw_199, zv_199, by decide +kernel, zNo5 (t := zt_199) (by decide +kernel)⟩
theorem zp_200 (l : Launch) : zPj l 200 := ⟨zc_200, zw_200, zv_200, by decide +kernel, zNo5 (t := zt_200) (by decide +kernel)⟩
theorem zp_201 (l : Launch) : zPj l 201 := ⟨rfl, fun w h => (nomatch (show w ∈ ([] : List Cond) from h)), zv_201, rfl, fun x h => nomatch (show x ∈ ([] : List (Nat × Instr × Nat × Nat)) from h)⟩
theorem zp_202 (l : Launch) : zPj l 202 := ⟨zc_202, zw_202, zv_202, by decide +kernel, zNo5 (t := zt_202) (by decide +kernel)⟩
theorem zp_203 (l : Launch) : zPj l 203 := ⟨zc_203, zw_203, zv_203, by decide +kernel, zNo5 (t := zt_203) (by decide +kernel)⟩
theorem zp_204 (l : Launch) : zPj l 204 := ⟨zc_204, zw_204, zv_204, by decide +kernel, zNo5 (t := zt_204) (by decide +kernel)⟩
theorem zp_205 (l : Launch) : zPj l 205 := ⟨zc_205, zw_205, zv_205, by decide +kernel, zNo5 (t := zt_205) (by decide +kernel)⟩
theorem zp_206 (l : Launch) : zPj l 206 := ⟨zc_206, zw_206, zv_206, by decide +kernel, zNo5 (t := zt_206) (by decide +kernel)⟩
theorem zp_207 (l : Launch) : zPj l 207 := ⟨zc_207, zw_207, zv_207, by decide +kernel, zNo5 (t := zt_207) (by decide +kernel)⟩
theorem zp_208 (l : Launch) : zPj l 208 := ⟨zc_208, zw_208, zv_208, by decide +kernel, zNo5 (t := zt_208) (by decide +kernel)⟩
theorem zp_209 (l : Launch) : zPj l 209 := ⟨zc_209, zw_209, zv_209, by decide +kernel, zNo5 (t := zt_209) (by decide +kernel)⟩
theorem zp_210 (l : Launch) : zPj l 210 := ⟨zc_210, zw_210, zv_210, by decide +kernel, zNo5 (t := zt_210) (by decide +kernel)⟩
theorem zp_211 (l : Launch) : zPj l 211 := ⟨zc_211, zw_211, zv_211, by decide +kernel, zNo5 (t := zt_211) (by decide +kernel)⟩
theorem zp_212 (l : Launch) : zPj l 212 := ⟨zc_212, zw_212, zv_212, by decide +kernel, zNo5 (t := zt_212) (by decide +kernel)⟩
theorem zp_213 (l : Launch) : zPj l 213 := ⟨zc_213, zw_213, zv_213, by decide +kernel, zNo5 (t := zt_213) (by decide +kernel)⟩
theorem zp_214 (l : Launch) : zPj l 214 := ⟨zc_214, zw_214, zv_214, by decide +kernel, zNo5 (t := zt_214) (by decide +kernel)⟩
theorem zp_215 (l : Launch) : zPj l 215 := ⟨zc_215, zw_215, zv_215, by decide +kernel, zNo5 (t := zt_215) (by decide +kernel)⟩
theorem zp_216 (l : Launch) : zPj l 216 := ⟨zc_216, zw_216, zv_216, by decide +kernel, zNo5 (t := zt_216) (by decide +kernel)⟩
theorem zp_217 (l : Launch) : zPj l 217 := ⟨zc_217, zw_217, zv_217, by decide +kernel, zNo5 (t := zt_217) (by decide +kernel)⟩
theorem zp_218 (l : Launch) : zPj l 218 := ⟨zc_218, zw_218, zv_218, by decide +kernel, zNo5 (t := zt_218) (by decide +kernel)⟩
theorem zp_219 (l : Launch) : zPj l 219 := ⟨zc_219, zw_219, zv_219, by decide +kernel, zNo5 (t := zt_219) (by decide +kernel)⟩
theorem zp_220 (l : Launch) : zPj l 220 := ⟨zc_220, zw_220, zv_220, by decide +kernel, zNo5 (t := zt_220) (by decide +kernel)⟩
theorem zp_221 (l : Launch) : zPj l 221 := ⟨zc_221, zw_221, zv_221, by decide +kernel, zNo5 (t := zt_221) (by decide +kernel)⟩
theorem zp_222 (l : Launch) : zPj l 222 := ⟨zc_222, zw_222, zv_222, by decide +kernel, zNo5 (t := zt_222) (by decide +kernel)⟩
theorem zp_223 (l : Launch) : zPj l 223 := ⟨zc_223, zw_223, zv_223, by decide +kernel, zNo5 (t := zt_223) (by decide +kernel)⟩
theorem zp_224 (l : Launch) : zPj l 224 := ⟨zc_224, zw_224, zv_224, by decide +kernel, zNo5 (t := zt_224) (by decide +kernel)⟩
theorem zp_225 (l : Launch) : zPj l 225 := ⟨zc_225, zw_225, zv_225, by decide +kernel, zNo5 (t := zt_225) (by decide +kernel)⟩
theorem zp_226 (l : Launch) : zPj l 226 := ⟨zc_226, zw_226, zv_226, by decide +kernel, zNo5 (t := zt_226) (by decide +kernel)⟩
theorem zp_227 (l : Launch) : zPj l 227 := ⟨zc_227, zw_227, zv_227, by decide +kernel, zNo5 (t := zt_227) (by decide +kernel)⟩
theorem zp_228 (l : Launch) : zPj l 228 := ⟨zc_228, zw_228, zv_228, by decide +kernel, zNo5 (t := zt_228) (by decide +kernel)⟩
theorem zp_229 (l : Launch) : zPj l 229 := ⟨zc_229, zw_229, zv_229, by decide +kernel, zNo5 (t := zt_229) (by decide +kernel)⟩
theorem zp_230 (l : Launch) : zPj l 230 := ⟨zc_230, zw_230, zv_230, by decide +kernel, zNo5 (t := zt_230) (by decide +kernel)⟩
theorem zp_231 (l : Launch) : zPj l 231 := ⟨zc_231, zw_231, zv_231, by decide +kernel, zNo5 (t := zt_231) (by decide +kernel)⟩
theorem zp_232 (l : Launch) : zPj l 232 := ⟨zc_232, zw_232, zv_232, by decide +kernel, zNo5 (t := zt_232) (by decide +kernel)⟩
theorem zp_233 (l : Launch) : zPj l 233 := ⟨zc_233, zw_233, zv_233, by decide +kernel, zNo5 (t := zt_233) (by decide +kernel)⟩
theorem zp_234 (l : Launch) : zPj l 234 := ⟨zc_234, zw_234, zv_234, by decide +kernel, zNo5 (t := zt_234) (by decide +kernel)⟩
theorem zp_235 (l : Launch) : zPj l 235 := ⟨zc_235, zw_235, zv_235, by decide +kernel, zNo5 (t := zt_235) (by decide +kernel)⟩
theorem zp_236 (l : Launch) : zPj l 236 := ⟨zc_236, zw_236, zv_236, by decide +kernel, zNo5 (t := zt_236) (by decide +kernel)⟩
theorem zp_237 (l : Launch) : zPj l 237 := ⟨zc_237, zw_237, zv_237, by decide +kernel, zNo5 (t := zt_237) (by decide +kernel)⟩
theorem zp_238 (l : Launch) : zPj l 238 := ⟨zc_238, zw_238, zv_238, by decide +kernel, zNo5 (t := zt_238) (by decide +kernel)⟩
theorem zp_239 (l : Launch) : zPj l 239 := ⟨zc_239, zw_239, zv_239, by decide +kernel, zNo5 (t := zt_239) (by decide +kernel)⟩
theorem zp_240 (l : Launch) : zPj l 240 := ⟨zc_240, zw_240, zv_240, by decide +kernel, zNo5 (t := zt_240) (by decide +kernel)⟩
theorem zp_241 (l : Launch) : zPj l 241 := ⟨zc_241, zw_241, zv_241, by decide +kernel, zNo5 (t := zt_241) (by decide +kernel)⟩
theorem zp_242 (l : Launch) : zPj l 242 := ⟨zc_242, zw_242, zv_242, by decide +kernel, zNo5 (t := zt_242) (by decide +kernel)⟩
theorem zp_243 (l : Launch) : zPj l 243 := ⟨zc_243, zw_243, zv_243, by decide +kernel, zNo5 (t := zt_243) (by decide +kernel)⟩
theorem zp_244 (l : Launch) : zPj l 244 := ⟨rfl, fun w h => (nomatch (show w ∈ ([] : List Cond) from h)), zv_244, rfl, fun x h => nomatch (show x ∈ ([] : List (Nat × Instr × Nat × Nat)) from h)⟩
theorem zp_245 (l : Launch) : zPj l 245 := ⟨zc_245, zw_245, zv_245, by decide +kernel, zNo5 (t := zt_245) (by decide +kernel)⟩
theorem zp_246 (l : Launch) : zPj l 246 := ⟨rfl, fun w h => (nomatch (show w ∈ ([] : List Cond) from h)), zv_246, rfl, fun x h => nomatch (show x ∈ ([] : List (Nat × Instr × Nat × Nat)) from h)⟩
theorem zp_247 (l : Launch) : zPj l 247 := ⟨rfl, fun w h => (nomatch (show w ∈ ([] : List Cond) from h)), zv_247, rfl, fun x h => nomatch (show x ∈ ([] : List (Nat × Instr × Nat × Nat)) from h)⟩
theorem zp_248 (l : Launch) : zPj l 248 := ⟨rfl, fun w h => (nomatch (show w ∈ ([] : List Cond) from h)), zv_248, rfl, fun x h => nomatch (show x ∈ ([] : List (Nat × Instr × Nat × Nat)) from h)⟩
theorem zp_249 (l : Launch) : zPj l 249 := ⟨rfl, fun w h => (nomatch (show w ∈ ([] : List Cond) from h)), zv_249, rfl, fun x h => nomatch (show x ∈ ([] : List (Nat × Instr × Nat × Nat)) from h)⟩
theorem zp_250 (l : Launch) : zPj l 250 := ⟨rfl, fun w h => (nomatch (show w ∈ ([] : List Cond) from h)), zv_250, rfl, fun x h => nomatch (show x ∈ ([] : List (Nat × Instr × Nat × Nat)) from h)⟩
theorem zp_251 (l : Launch) : zPj l 251 := ⟨rfl, fun w h => (nomatch (show w ∈ ([] : List Cond) from h)), zv_251, rfl, fun x h => nomatch (show x ∈ ([] : List (Nat × Instr × Nat × Nat)) from h)⟩
theorem zp_252 (l : Launch) : zPj l 252 := ⟨rfl, fun w h => (nomatch (show w ∈ ([] : List Cond) from h)), zv_252, rfl, fun x h => nomatch (show x ∈ ([] : List (Nat × Instr × Nat × Nat)) from h)⟩
theorem zp_253 (l : Launch) : zPj l 253 := ⟨zc_253, zw_253, zv_253, by decide +kernel, zNo5 (t := zt_253) (by decide +kernel)⟩
theorem zp_254 (l : Launch) : zPj l 254 := ⟨rfl, fun w h => (nomatch (show w ∈ ([] : List Cond) from h)), zv_254, rfl, fun x h => nomatch (show x ∈ ([] : List (Nat × Instr × Nat × Nat)) from h)⟩
theorem zp_255 (l : Launch) : zPj l 255 := ⟨rfl, fun w h => (nomatch (show w ∈ ([] : List Cond) from h)), zv_255, rfl, fun x h => nomatch (show x ∈ ([] : List (Nat × Instr × Nat × Nat)) from h)⟩
theorem zp_256 (l : Launch) : zPj l 256 := ⟨rfl, fun w h => (nomatch (show w ∈ ([] : List Cond) from h)), zv_256, rfl, fun x h => nomatch (show x ∈ ([] : List (Nat × Instr × Nat × Nat)) from h)⟩
theorem zp_257 (l : Launch) : zPj l 257 := ⟨rfl, fun w h => (nomatch (show w ∈ ([] : List Cond) from h)), zv_257, rfl, fun x h => nomatch (show x ∈ ([] : List (Nat × Instr × Nat × Nat)) from h)⟩
theorem zp_258 (l : Launch) : zPj l 258 := ⟨zc_258, zw_258, zv_258, by decide +kernel, zNo5 (t := zt_258) (by decide +kernel)⟩
theorem zp_259 (l : Launch) : zPj l 259 := ⟨zc_259, zw_259, zv_259, by decide +kernel, zNo5 (t := zt_259) (by decide +kernel)⟩
theorem zp_260 (l : Launch) : zPj l 260 := ⟨zc_260, zw_260, zv_260, by decide +kernel, zNo5 (t := zt_260) (by decide +kernel)⟩
theorem zp_261 (l : Launch) : zPj l 261 := ⟨zc_261, zw_261, zv_261, by decide +kernel, zNo5 (t := zt_261) (by decide +kernel)⟩
theorem zp_262 (l : Launch) : zPj l 262 := ⟨zc_262, zw_262, zv_262, by decide +kernel, zNo5 (t := zt_262) (by decide +kernel)⟩
theorem zp_263 (l : Launch) : zPj l 263 := ⟨zc_263, zw_263, zv_263, by decide +kernel, zNo5 (t := zt_263) (by decide +kernel)⟩
theorem zp_264 (l : Launch) : zPj l 264 := ⟨zc_264, zw_264, zv_264, by decide +kernel, zNo5 (t := zt_264) (by decide +kernel)⟩
theorem zp_265 (l : Launch) : zPj l 265 := ⟨zc_265, zw_265, zv_265, by decide +kernel, zNo5 (t := zt_265) (by decide +kernel)⟩
theorem zp_266 (l : Launch) : zPj l 266 := ⟨rfl, fun w h => (nomatch (show w ∈ ([] : List Cond) from h)), zv_266, rfl, fun x h => nomatch (show x ∈ ([] : List (Nat × Instr × Nat × Nat)) from h)⟩
theorem zp_267 (l : Launch) : zPj l 267 := ⟨rfl, fun w h => (nomatch (show w ∈ ([] : List Cond) from h)), zv_267, rfl, fun x h => nomatch (show x ∈ ([] : List (Nat × Instr × Nat × Nat)) from h)⟩
theorem zp_268 (l : Launch) : zPj l 268 := ⟨rfl, fun w h => (nomatch (show w ∈ ([] : List Cond) from h)), zv_268, rfl, fun x h => nomatch (show x ∈ ([] : List (Nat × Instr × Nat × Nat)) from h)⟩
theorem zp_269 (l : Launch) : zPj l 269 := ⟨rfl, fun w h => (nomatch (show w ∈ ([] : List Cond) from h)), zv_269, rfl, fun x h => nomatch (show x ∈ ([] : List (Nat × Instr × Nat × Nat)) from h)⟩
theorem zp_270 (l : Launch) : zPj l 270 := ⟨rfl, fun w h => (nomatch (show w ∈ ([] : List Cond) from h)), zv_270, rfl, fun x h => nomatch (show x ∈ ([] : List (Nat × Instr × Nat × Nat)) from h)⟩
theorem zp_271 (l : Launch) : zPj l 271 := ⟨rfl, fun w h => (nomatch (show w ∈ ([] : List Cond) from h)), zv_271, rfl, fun x h => nomatch (show x ∈ ([] : List (Nat × Instr × Nat × Nat)) from h)⟩
theorem zp_272 (l : Launch) : zPj l 272 := ⟨rfl, fun w h => (nomatch (show w ∈ ([] : List Cond) from h)), zv_272, rfl, fun x h => nomatch (show x ∈ ([] : List (Nat × Instr × Nat × Nat)) from h)⟩
theorem zp_273 (l : Launch) : zPj l 273 := ⟨zc_273, zw_273, zv_273, by decide +kernel, zNo5 (t := zt_273) (by decide +kernel)⟩
theorem zp_274 (l : Launch) : zPj l 274 := ⟨rfl, fun w h => (nomatch (show w ∈ ([] : List Cond) from h)), zv_274, rfl, fun x h => nomatch (show x ∈ ([] : List (Nat × Instr × Nat × Nat)) from h)⟩
theorem zp_275 (l : Launch) : zPj l 275 := ⟨rfl, fun w h => (nomatch (show w ∈ ([] : List Cond) from h)), zv_275, rfl, fun x h => nomatch (show x ∈ ([] : List (Nat × Instr × Nat × Nat)) from h)⟩
theorem zp_276 (l : Launch) : zPj l 276 := ⟨rfl, fun w h => (nomatch (show w ∈ ([] : List Cond) from h)), zv_276, rfl, fun x h => nomatch (show x ∈ ([] : List (Nat × Instr × Nat × Nat)) from h)⟩
theorem zp_277 (l : Launch) : zPj l 277 := ⟨zc_277, zw_277, zv_277, by decide +kernel, zNo5 (t := zt_277) (by decide +kernel)⟩
theorem zp_278 (l : Launch) : zPj l 278 := ⟨rfl, fun w h => (nomatch (show w ∈ ([] : List Cond) from h)), zv_278, rfl, fun x h => nomatch (show x ∈ ([] : List (Nat × Instr × Nat × Nat)) from h)⟩
theorem zp_279 (l : Launch) : zPj l 279 := ⟨zc_279, zw_279, zv_279, by decide +kernel, zNo5 (t := zt_279) (by decide +kernel)⟩
theorem zp_280 (l : Launch) : zPj l 280 := ⟨zc_280, zw_280, zv_280, by decide +kernel, zNo5 (t := zt_280) (by decide +kernel)⟩
theorem zp_281 (l : Launch) : zPj l 281 := ⟨zc_281, zw_281, zv_281, by decide +kernel, zNo5 (t := zt_281) (by decide +kernel)⟩
theorem zp_282 (l : Launch) : zPj l 282 := ⟨zc_282, zw_282, zv_282, by decide +kernel, zNo5 (t := zt_282) (by decide +kernel)⟩
theorem zp_283 (l : Launch) : zPj l 283 := ⟨rfl, fun w h => (nomatch (show w ∈ ([] : List Cond) from h)), zv_283, rfl, fun x h => nomatch (show x ∈ ([] : List (Nat × Instr × Nat × Nat)) from h)⟩
theorem zp_284 (l : Launch) : zPj l 284 := ⟨rfl, fun w h => (nomatch (show w ∈ ([] : List Cond) from h)), zv_284, rfl, fun x h => nomatch (show x ∈ ([] : List (Nat × Instr × Nat × Nat)) from h)⟩
theorem zp_285 (l : Launch) : zPj l 285 := ⟨rfl, fun w h => (nomatch (show w ∈ ([] : List Cond) from h)), zv_285, rfl, fun x h => nomatch (show x ∈ ([] : List (Nat × Instr × Nat × Nat)) from h)⟩
theorem zp_286 (l : Launch) : zPj l 286 := ⟨zc_286, zw_286, zv_286, by decide +kernel, zNo5 (t := zt_286) (by decide +kernel)⟩
theorem zp_287 (l : Launch) : zPj l 287 := ⟨zc_287, zw_287, zv_287, by decide +kernel, zNo5 (t := zt_287) (by decide +kernel)⟩
theorem zp_288 (l : Launch) : zPj l 288 := ⟨zc_288, zw_288, zv_288, by decide +kernel, zNo5 (t := zt_288) (by decide +kernel)⟩
theorem zp_289 (l : Launch) : zPj l 289 := ⟨zc_289, zw_289, zv_289, by decide +kernel, zNo5 (t := zt_289) (by decide +kernel)⟩
theorem zp_290 (l : Launch) : zPj l 290 := ⟨zc_290, zw_290, zv_290, by decide +kernel, zNo5 (t := zt_290) (by decide +kernel)⟩
theorem zp_291 (l : Launch) : zPj l 291 := ⟨rfl, fun w h => (nomatch (show w ∈ ([] : List Cond) from h)), zv_291, rfl, fun x h => nomatch (show x ∈ ([] : List (Nat × Instr × Nat × Nat)) from h)⟩
theorem zp_292 (l : Launch) : zPj l 292 := ⟨rfl, fun w h => (nomatch (show w ∈ ([] : List Cond) from h)), zv_292, rfl, fun x h => nomatch (show x ∈ ([] : List (Nat × Instr × Nat × Nat)) from h)⟩
theorem zp_293 (l : Launch) : zPj l 293 := ⟨zc_293, zw_293, zv_293, by decide +kernel, zNo5 (t := zt_293) (by decide +kernel)⟩
theorem zp_294 (l : Launch) : zPj l 294 := ⟨zc_294, zw_294, zv_294, by decide +kernel, zNo5 (t := zt_294) (by decide +kernel)⟩
theorem zp_295 (l : Launch) : zPj l 295 := ⟨rfl, fun w h => (nomatch (show w ∈ ([] : List Cond) from h)), zv_295, rfl, fun x h => nomatch (show x ∈ ([] : List (Nat × Instr × Nat × Nat)) from h)⟩
theorem zp_296 (l : Launch) : zPj l 296 := ⟨zc_296, zw_296, zv_296, by decide +kernel, zNo5 (t := zt_296) (by decide +kernel)⟩
theorem zp_297 (l : Launch) : zPj l 297 := ⟨zc_297, zw_297, zv_297, by decide +kernel, zNo5 (t := zt_297) (by decide +kernel)⟩
theorem zp_298 (l : Launch) : zPj l 298 := ⟨zc_298, zw_298, zv_298, by decide +kernel, zNo5 (t := zt_298) (by decide +kernel)⟩
theorem zp_299 (l : Launch) : zPj l 299 := ⟨zc_299, zw_299, zv_299, by decide +kernel, zNo5 (t := zt_299) (by decide +kernel)⟩
theorem zp_300 (l : Launch) : zPj l 300 := ⟨rfl, fun w h => (nomatch (show w ∈ ([] : List Cond) from h)), zv_300, rfl, fun x h => nomatch (show x ∈ ([] : List (Nat × Instr × Nat × Nat)) from h)⟩
theorem zp_301 (l : Launch) : zPj l 301 := ⟨rfl, fun w h => (nomatch (show w ∈ ([] : List Cond) from h)), zv_301, rfl, fun x h => nomatch (show x ∈ ([] : List (Nat × Instr × Nat × Nat)) from h)⟩
theorem zp_302 (l : Launch) : zPj l 302 := ⟨rfl, fun w h => (nomatch (show w ∈ ([] : List Cond) from h)), zv_302, rfl, fun x h => nomatch (show x ∈ ([] : List (Nat × Instr × Nat × Nat)) from h)⟩
theorem zp_303 (l : Launch) : zPj l 303 := ⟨zc_303, zw_303, zv_303, by decide +kernel, zNo5 (t := zt_303) (by decide +kernel)⟩
theorem zp_304 (l : Launch) : zPj l 304 := ⟨zc_304, zw_304, zv_304, by decide +kernel, zNo5 (t := zt_304) (by decide +kernel)⟩
theorem zp_305 (l : Launch) : zPj l 305 := ⟨zc_305, zw_305, zv_305, by decide +kernel, zNo5 (t := zt_305) (by decide +kernel)⟩
theorem zp_306 (l : Launch) : zPj l 306 := ⟨zc_306, zw_306, zv_306, by decide +kernel, zNo5 (t := zt_306) (by decide +kernel)⟩
theorem zp_307 (l : Launch) : zPj l 307 := ⟨zc_307, zw_307, zv_307, by decide +kernel, zNo5 (t := zt_307) (by decide +kernel)⟩
theorem zp_308 (l : Launch) : zPj l 308 := ⟨zc_308, zw_308, zv_308, by decide +kernel, zNo5 (t := zt_308) (by decide +kernel)⟩
theorem zp_309 (l : Launch) : zPj l 309 := ⟨rfl, fun w h => (nomatch (show w ∈ ([] : List Cond) from h)), zv_309, rfl, fun x h => nomatch (show x ∈ ([] : List (Nat × Instr × Nat × Nat)) from h)⟩
theorem zp_310 (l : Launch) : zPj l 310 := ⟨rfl, fun w h => (nomatch (show w ∈ ([] : List Cond) from h)), zv_310, rfl, fun x h => nomatch (show x ∈ ([] : List (Nat × Instr × Nat × Nat)) from h)⟩
theorem zp_311 (l : Launch) : zPj l 311 := ⟨rfl, fun w h => (nomatch (show w ∈ ([] : List Cond) from h)), zv_311, rfl, fun x h => nomatch (show x ∈ ([] : List (Nat × Instr × Nat × Nat)) from h)⟩
theorem zp_312 (l : Launch) : zPj l 312 := ⟨rfl, fun w h => (nomatch (show w ∈ ([] : List Cond) from h)), zv_312, rfl, fun x h => nomatch (show x ∈ ([] : List (Nat × Instr × Nat × Nat)) from h)⟩
theorem zp_313 (l : Launch) : zPj l 313 := ⟨rfl, fun w h => (nomatch (show w ∈ ([] : List Cond) from h)), zv_313, rfl, fun x h => nomatch (show x ∈ ([] : List (Nat × Instr × Nat × Nat)) from h)⟩
theorem zp_314 (l : Launch) : zPj l 314 := ⟨rfl, fun w h => (nomatch (show w ∈ ([] : List Cond) from h)), zv_314, rfl, fun x h => nomatch (show x ∈ ([] : List (Nat × Instr × Nat × Nat)) from h)⟩
theorem zp_315 (l : Launch) : zPj l 315 := ⟨rfl, fun w h => (nomatch (show w ∈ ([] : List Cond) from h)), zv_315, rfl, fun x h => nomatch (show x ∈ ([] : List (Nat × Instr × Nat × Nat)) from h)⟩
theorem zp_316 (l : Launch) : zPj l 316 := ⟨zc_316, zw_316, zv_316, by decide +kernel, zNo5 (t := zt_316) (by decide +kernel)⟩
theorem zp_317 (l : Launch) : zPj l 317 := ⟨zc_317, zw_317, zv_317, by decide +kernel, zNo5 (t := zt_317) (by decide +kernel)⟩
theorem zp_318 (l : Launch) : zPj l 318 := ⟨rfl, fun w h => (nomatch (show w ∈ ([] : List Cond) from h)), zv_318, rfl, fun x h => nomatch (show x ∈ ([] : List (Nat × Instr × Nat × Nat)) from h)⟩
theorem zp_319 (l : Launch) : zPj l 319 := ⟨rfl, fun w h => (nomatch (show w ∈ ([] : List Cond) from h)), zv_319, rfl, fun x h => nomatch (show x ∈ ([] : List (Nat × Instr × Nat × Nat)) from h)⟩
theorem zp_320 (l : Launch) : zPj l 320 := ⟨rfl, fun w h => (nomatch (show w ∈ ([] : List Cond) from h)), zv_320, rfl, fun x h => nomatch (show x ∈ ([] : List (Nat × Instr × Nat × Nat)) from h)⟩
theorem zp_321 (l : Launch) : zPj l 321 := ⟨rfl, fun w h => (nomatch (show w ∈ ([] : List Cond) from h)), zv_321, rfl, fun x h => nomatch (show x ∈ ([] : List (Nat × Instr × Nat × Nat)) from h)⟩
theorem zpc_0 (l : Launch) (hl : l.stackTraces = false) : ∀ i, i < 16 → zPj l (0 + i)
  | 0, _ => zp_0 l
  | 1, _ => zp_1 l
  | 2, _ => zp_2 l
  | 3, _ => zp_3 l
  | 4, _ => zp_4 l
  | 5, _ => zp_5 l
  | 6, _ => zp_6 l
  | 7, _ => zp_7 l
  | 8, _ => zp_8 l
  | 9, _ => zp_9 l
  | 10, _ => zp_10 l
  | 11, _ => zp_11 l
  | 12, _ => zp_12 l
  | 13, _ => zp_13 l
  | 14, _ => zp_14 l
  | 15, _ => zp_15 l
  | i + 16, h => absurd h (by omega)
theorem zpc_1 (l : Launch) (hl : l.stackTraces = false) : ∀ i, i < 16 → zPj l (16 + i)
  | 0, _ => zp_16 l
  | 1, _ => zp_17 l
  | 2, _ => zp_18 l
  | 3, _ => zp_19 l
  | 4, _ => zp_20 l
  | 5, _ => zp_21 l
  | 6, _ => zp_22 l
  | 7, _ => zp_23 l
  | 8, _ => zp_24 l
  | 9, _ => zp_25 l
  | 10, _ => zp_26 l
  | 11, _ => zp_27 l
  | 12, _ => zp_28 l
  | 13, _ => zp_29 l
  | 14, _ => zp_30 l
  | 15, _ => zp_31 l
  | i + 16, h => absurd h (by omega)
theorem zpc_2 (l : Launch) (hl : l.stackTraces = false) : ∀ i, i < 16 → zPj l (32 + i)
  | 0, _ => zp_32 l
  | 1, _ => zp_33 l
  | 2, _ => zp_34 l
  | 3, _ => zp_35 l
  | 4, _ => zp_36 l
  | 5, _ => zp_37 l
  | 6, _ => zp_38 l
  | 7, _ => zp_39 l
  | 8, _ => zp_40 l
  | 9, _ => zp_41 l
  | 10, _ => zp_42 l
  | 11, _ => zp_43 l
  | 12, _ => zp_44 l
  | 13, _ => zp_45 l
  | 14, _ => zp_46 l
  | 15, _ => zp_47 l
  | i + 16, h => absurd h (by omega)
theorem zpc_3 (l : Launch) (hl : l.stackTraces = false) : ∀ i, i < 16 → zPj l (48 + i)
  | 0, _ => zp_48 l
  | 1, _ => zp_49 l
  | 2, _ => zp_50 l
  | 3, _ => zp_51 l
  | 4, _ => zp_52 l
  | 5, _ => zp_53 l
  | 6, _ => zp_54 l
  | 7, _ => zp_55 l
  | 8, _ => zp_56 l
  | 9, _ => zp_57 l
  | 10, _ => zp_58 l
  | 11, _ => zp_59 l
  | 12, _ => zp_60 l
  | 13, _ => zp_61 l
  | 14, _ => zp_62 l
  | 15, _ => zp_63 l
  | i + 16, h => absurd h (by omega)
theorem zpc_4 (l : Launch) (hl : l.stackTraces = false) : ∀ i, i < 16 → zPj l (64 + i)
  | 0, _ => zp_64 l
  | 1, _ => zp_65 l
  | 2, _ => zp_66 l
  | 3, _ => zp_67 l
  | 4, _ => zp_68 l
  | 5, _ => zp_69 l
  | 6, _ => zp_70 l
  | 7, _ => zp_71 l
  | 8, _ => zp_72 l
  | 9, _ => zp_73 l
  | 10, _ => zp_74 l
  | 11, _ => zp_75 l
  | 12, _ => zp_76 l
  | 13, _ => zp_77 l
  | 14, _ => zp_78 l
  | 15, _ => zp_79 l
  | i + 16, h => absurd h (by omega)
theorem zpc_5 (l : Launch) (hl : l.stackTraces = false) : ∀ i, i < 16 → zPj l (80 + i)
  | 0, _ => zp_80 l
  | 1, _ => zp_81 l
  | 2, _ => zp_82 l
  | 3, _ => zp_83 l
  | 4, _ => zp_84 l
  | 5, _ => zp_85 l
  | 6, _ => zp_86 l
  | 7, _ => zp_87 l
  | 8, _ => zp_88 l
  | 9, _ => zp_89 l
  | 10, _ => zp_90 l
  | 11, _ => zp_91 l
  | 12, _ => zp_92 l
  | 13, _ => zp_93 l
  | 14, _ => zp_94 l
  | 15, _ => zp_95 l
  | i + 16, h => absurd h (by omega)
theorem zpc_6 (l : Launch) (hl : l.stackTraces = false) : ∀ i, i < 16 → zPj l (96 + i)
  | 0, _ => zp_96 l hl
  | 1, _ => zp_97 l hl
  | 2, _ => zp_98 l hl
  | 3, _ => zp_99 l
  | 4, _ => zp_100 l
  | 5, _ => zp_101 l
  | 6, _ => zp_102 l
  | 7, _ => zp_103 l
  | 8, _ => zp_104 l
  | 9, _ => zp_105 l
  | 10, _ => zp_106 l
  | 11, _ => zp_107 l
  | 12, _ => zp_108 l
  | 13, _ => zp_109 l
  | 14, _ => zp_110 l
  | 15, _ => zp_111 l
  | i + 16, h => absurd h (by omega)
theorem zpc_7 (l : Launch) (hl : l.stackTraces = false) : ∀ i, i < 16 → zPj l (112 + i)
  | 0, _ => zp_112 l
  | 1, _ => zp_113 l
  | 2, _ => zp_114 l
  | 3, _ => zp_115 l
  | 4, _ => zp_116 l
  | 5, _ => zp_117 l
  | 6, _ => zp_118 l
  | 7, _ => zp_119 l
  | 8, _ => zp_120 l
  | 9, _ => zp_121 l
  | 10, _ => zp_122 l
  | 11, _ => zp_123 l
  | 12, _ => zp_124 l
  | 13, _ => zp_125 l
  | 14, _ => zp_126 l
  | 15, _ => zp_127 l
  | i + 16, h => absurd h (by omega)
theorem zpc_8 (l : Launch) (hl : l.stackTraces = false) : ∀ i, i < 16 → zPj l (128 + i)
  | 0, _ => zp_128 l
  | 1, _ => zp_129 l
  | 2, _ => zp_130 l
  | 3, _ => zp_131 l
  | 4, _ => zp_132 l
  | 5, _ => zp_133 l
  | 6, _ => zp_134 l
  | 7, _ => zp_135 l
  | 8, _ => zp_136 l
  | 9, _ => zp_137 l
  | 10, _ => zp_138 l
  | 11, _ => zp_139 l
  | 12, _ => zp_140 l
  | 13, _ => zp_141 l
  | 14, _ => zp_142 l
  | 15, _ => zp_143 l
  | i + 16, h => absurd h (by omega)
theorem zpc_9 (l : Launch) (hl : l.stackTraces = false) : ∀ i, i < 16 → zPj l (144 + i)
  | 0, _ => zp_144 l
  | 1, _ => zp_145 l
  | 2, _ => zp_146 l
  | 3, _ => zp_147 l
  | 4, _ => zp_148 l
  | 5, _ => zp_149 l
  | 6, _ => zp_150 l
  | 7, _ => zp_151 l
  | 8, _ => zp_152 l
  | 9, _ => zp_153 l
  | 10, _ => zp_154 l
  | 11, _ => zp_155 l
  | 12, _ => zp_156 l
  | 13, _ => zp_157 l
  | 14, _ => zp_158 l
  | 15, _ => zp_159 l
  | i + 16, h => absurd h (by omega)
theorem zpc_10 (l : Launch) (hl : l.stackTraces = false) : ∀ i, i < 16 → zPj l (160 + i)
  | 0, _ => zp_160 l
  | 1, _ => zp_161 l
  | 2, _ => zp_162 l
  | 3, _ => zp_163 l
  | 4, _ => zp_164 l
  | 5, _ => zp_165 l
  | 6, _ => zp_166 l
  | 7, _ => zp_167 l
  | 8, _ => zp_168 l
  | 9, _ => zp_169 l
  | 10, _ => zp_170 l
  | 11, _ => zp_171 l
  | 12, _ => zp_172 l
  | 13, _ => zp_173 l
  | 14, _ => zp_174 l
  | 15, _ => zp_175 l
  | i + 16, h => absurd h (by omega)
theorem zpc_11 (l : Launch) (hl : l.stackTraces = false) : ∀ i, i < 16 → zPj l (176 + i)
  | 0, _ => zp_176 l
  | 1, _ => zp_177 l
  | 2, _ => zp_178 l
  | 3, _ => zp_179 l
  | 4, _ => zp_180 l
  | 5, _ => zp_181 l
  | 6, _ => zp_182 l
  | 7, _ => zp_183 l
  | 8, _ => zp_184 l
  | 9, _ => zp_185 l
  | 10, _ => zp_186 l
  | 11, _ => zp_187 l
  | 12, _ => zp_188 l
  | 13, _ => zp_189 l
  | 14, _ => zp_190 l
  | 15, _ => zp_191 l
  | i + 16, h => absurd h (by omega)
theorem zpc_12 (l : Launch) (hl : l.stackTraces = false) : ∀ i, i < 16 → zPj l (192 + i)
  | 0, _ => zp_192 l
  | 1, _ => zp_193 l
  | 2, _ => zp_194 l
  | 3, _ => zp_195 l
  | 4, _ => zp_196 l
  | 5, _ => zp_197 l
  | 6, _ => zp_198 l
  | 7, _ => zp_199 l
  | 8, _ => zp_200 l
  | 9, _ => zp_201 l
  | 10, _ => zp_202 l
  | 11, _ => zp_203 l
  | 12, _ => zp_204 l
  | 13, _ => zp_205 l
  | 14, _ => zp_206 l
  | 15, _ => zp_207 l
  | i + 16, h => absurd h (by omega)
theorem zpc_13 (l : Launch) (hl : l.stackTraces = false) : ∀ i, i < 16 → zPj l (208 + i)
  | 0, _ => zp_208 l
  | 1, _ => zp_209 l
  | 2, _ => zp_210 l
  | 3, _ => zp_211 l
  | 4, _ => zp_212 l
  | 5, _ => zp_213 l
  | 6, _ => zp_214 l
  | 7, _ => zp_215 l
  | 8, _ => zp_216 l
  | 9, _ => zp_217 l
  | 10, _ => zp_218 l
  | 11, _ => zp_219 l
  | 12, _ => zp_220 l
  | 13, _ => zp_221 l
  | 14, _ => zp_222 l
  | 15, _ => zp_223 l
  | i + 16, h => absurd h (by omega)
theorem zpc_14 (l : Launch) (hl : l.stackTraces = false) : ∀ i, i < 16 → zPj l (224 + i)
  | 0, _ => zp_224 l
  | 1, _ => zp_225 l
  | 2, _ => zp_226 l
  | 3, _ => zp_227 l
  | 4, _ => zp_228 l
  | 5, _ => zp_229 l
  | 6, _ => zp_230 l
  | 7, _ => zp_231 l
  | 8, _ => zp_232 l
  | 9, _ => zp_233 l
  | 10, _ => zp_234 l
  | 11, _ => zp_235 l
  | 12, _ => zp_236 l
  | 13, _ => zp_237 l
  | 14, _ => zp_238 l
  | 15, _ => zp_239 l
  | i + 16, h => absurd h (by omega)
theorem zpc_15 (l : Launch) (hl : l.stackTraces = false) : ∀ i, i < 16 → zPj l (240 + i)
  | 0, _ => zp_240 l
  | 1, _ => zp_241 l
  | 2, _ => zp_242 l
  | 3, _ => zp_243 l
  | 4, _ => zp_244 l
  | 5, _ => zp_245 l
  | 6, _ => zp_246 l
  | 7, _ => zp_247 l
  | 8, _ => zp_248 l
  | 9, _ => zp_249 l
  | 10, _ => zp_250 l
  | 11, _ => zp_251 l
  | 12, _ => zp_252 l
  | 13, _ => zp_253 l
  | 14, _ => zp_254 l
  | 15, _ => zp_255 l
  | i + 16, h => absurd h (by omega)
theorem zpc_16 (l : Launch) (hl : l.stackTraces = false) : ∀ i, i < 16 → zPj l (256 + i)
  | 0, _ => zp_256 l
  | 1, _ => zp_257 l
  | 2, _ => zp_258 l
  | 3, _ => zp_259 l
  | 4, _ => zp_260 l
  | 5, _ => zp_261 l
  | 6, _ => zp_262 l
  | 7, _ => zp_263 l
  | 8, _ => zp_264 l
  | 9, _ => zp_265 l
  | 10, _ => zp_266 l
  | 11, _ => zp_267 l
  | 12, _ => zp_268 l
  | 13, _ => zp_269 l
  | 14, _ => zp_270 l
  | 15, _ => zp_271 l
  | i + 16, h => absurd h (by omega)
theorem zpc_17 (l : Launch) (hl : l.stackTraces = false) : ∀ i, i < 16 → zPj l (272 + i)
  | 0, _ => zp_272 l
  | 1, _ => zp_273 l
  | 2, _ => zp_274 l
  | 3, _ => zp_275 l
  | 4, _ => zp_276 l
  | 5, _ => zp_277 l
  | 6, _ => zp_278 l
  | 7, _ => zp_279 l
  | 8, _ => zp_280 l
  | 9, _ => zp_281 l
  | 10, _ => zp_282 l
  | 11, _ => zp_283 l
  | 12, _ => zp_284 l
  | 13, _ => zp_285 l
  | 14, _ => zp_286 l
  | 15, _ => zp_287 l
  | i + 16, h => absurd h (by omega)
theorem zpc_18 (l : Launch) (hl : l.stackTraces = false) : ∀ i, i < 16 → zPj l (288 + i)
  | 0, _ => zp_288 l
  | 1, _ => zp_289 l
  | 2, _ => zp_290 l
  | 3, _ => zp_291 l
  | 4, _ => zp_292 l
  | 5, _ => zp_293 l
  | 6, _ => zp_294 l
  | 7, _ => zp_295 l
  | 8, _ => zp_296 l
  | 9, _ => zp_297 l
  | 10, _ => zp_298 l
  | 11, _ => zp_299 l
  | 12, _ => zp_300 l
  | 13, _ => zp_301 l
  | 14, _ => zp_302 l
  | 15, _ => zp_303 l
  | i + 16, h => absurd h (by omega)
theorem zpc_19 (l : Launch) (hl : l.stackTraces = false) : ∀ i, i < 16 → zPj l (304 + i)
  | 0, _ => zp_304 l
  | 1, _ => zp_305 l
  | 2, _ => zp_306 l
  | 3, _ => zp_307 l
  | 4, _ => zp_308 l
  | 5, _ => zp_309 l
  | 6, _ => zp_310 l
  | 7, _ => zp_311 l
  | 8, _ => zp_312 l
  | 9, _ => zp_313 l
  | 10, _ => zp_314 l
  | 11, _ => zp_315 l
  | 12, _ => zp_316 l
  | 13, _ => zp_317 l
  | 14, _ => zp_318 l
  | 15, _ => zp_319 l
  | i + 16, h => absurd h (by omega)
theorem zpc_20 (l : Launch) (hl : l.stackTraces = false) : ∀ i, i < 2 → zPj l (320 + i)
  | 0, _ => zp_320 l
  | 1, _ => zp_321 l
  | i + 2, h => absurd h (by omega)
theorem zpAll (l : Launch) (hl : l.stackTraces = false) (j : Nat) (hj : j < 322) : zPj l j := by
  rcases Nat.lt_or_ge j 16 with h0 | h0
  · have h := zpc_0 l hl (j - 0) (by omega)
    rw [show 0 + (j - 0) = j by omega] at h
    exact h
  rcases Nat.lt_or_ge j 32 with h1 | h1
  · have h := zpc_1 l hl (j - 16) (by omega)
    rw [show 16 + (j - 16) = j by omega] at h
    exact h
  rcases Nat.lt_or_ge j 48 with h2 | h2
  · have h := zpc_2 l hl (j - 32) (by omega)
    rw [show 32 + (j - 32) = j by omega] at h
    exact h
  rcases Nat.lt_or_ge j 64 with h3 | h3
  · have h := zpc_3 l hl (j - 48) (by omega)
    rw [show 48 + (j - 48) = j by omega] at h
    exact h
  rcases Nat.lt_or_ge j 80 with h4 | h4
  · have h := zpc_4 l hl (j - 64) (by omega)
    rw [show 64 + (j - 64) = j by omega] at h
    exact h
  rcases Nat.lt_or_ge j 96 with h5 | h5
  · have h := zpc_5 l hl (j - 80) (by omega)
    rw [show 80 + (j - 80) = j by omega] at h
    exact h
  rcases Nat.lt_or_ge j 112 with h6 | h6
  · have h := zpc_6 l hl (j - 96) (by omega)
    rw [show 96 + (j - 96) = j by omega] at h
    exact h
  rcases Nat.lt_or_ge j 128 with h7 | h7
  · have h := zpc_7 l hl (j - 112) (by omega)
    rw [show 112 + (j - 112) = j by omega] at h
    exact h
  rcases Nat.lt_or_ge j 144 with h8 | h8
  · have h := zpc_8 l hl (j - 128) (by omega)
    rw [show 128 + (j - 128) = j by omega] at h
    exact h
  rcases Nat.lt_or_ge j 160 with h9 | h9
  · have h := zpc_9 l hl (j - 144) (by omega)
    rw [show 144 + (j - 144) = j by omega] at h
    exact h
  rcases Nat.lt_or_ge j 176 with h10 | h10
  · have h := zpc_10 l hl (j - 160) (by omega)
    rw [show 160 + (j - 160) = j by omega] at h
    exact h
  rcases Nat.lt_or_ge j 192 with h11 | h11
  · have h := zpc_11 l hl (j - 176) (by omega)
    rw [show 176 + (j - 176) = j by omega] at h
    exact h
  rcases Nat.lt_or_ge j 208 with h12 | h12
  · have h := zpc_12 l hl (j - 192) (by omega)
    rw [show 192 + (j - 192) = j by omega] at h
    exact h
  rcases Nat.lt_or_ge j 224 with h13 | h13
  · have h := zpc_13 l hl (j - 208) (by omega)
    rw [show 208 + (j - 208) = j by omega] at h
    exact h
  rcases Nat.lt_or_ge j 240 with h14 | h14
  · have h := zpc_14 l hl (j - 224) (by omega)
    rw [show 224 + (j - 224) = j by omega] at h
    exact h
  rcases Nat.lt_or_ge j 256 with h15 | h15
  · have h := zpc_15 l hl (j - 240) (by omega)
    rw [show 240 + (j - 240) = j by omega] at h
    exact h
  rcases Nat.lt_or_ge j 272 with h16 | h16
  · have h := zpc_16 l hl (j - 256) (by omega)
    rw [show 256 + (j - 256) = j by omega] at h
    exact h
  rcases Nat.lt_or_ge j 288 with h17 | h17
  · have h := zpc_17 l hl (j - 272) (by omega)
    rw [show 272 + (j - 272) = j by omega] at h
    exact h
  rcases Nat.lt_or_ge j 304 with h18 | h18
  · have h := zpc_18 l hl (j - 288) (by omega)
    rw [show 288 + (j - 288) = j by omega] at h
    exact h
  rcases Nat.lt_or_ge j 320 with h19 | h19
  · have h := zpc_19 l hl (j - 304) (by omega)
    rw [show 304 + (j - 304) = j by omega] at h
    exact h
  rcases Nat.lt_or_ge j 322 with h20 | h20
  · have h := zpc_20 l hl (j - 320) (by omega)
    rw [show 320 + (j - 320) = j by omega] at h
    exact h
  omega
/-- what is shown of the rows that were left out -/
def zPx (l : Launch) (j : Nat) : Prop := (∀ x ∈ zxtab j, zVr l zi j x.1 x.2.1 x.2.2.1 x.2.2.2) ∧ ((zrx j 0).isSome || ((ztab j).isEmpty && (zxtab j).isEmpty)) = true
theorem zxO {l : Launch} {j : Nat} {t : List (Nat × Instr × Nat × Nat)} (h1 : t.all (zRowOk j) = true) (h2 : ∀ w ∈ t.flatMap (zNds j), zWd w) (h3 : t.all (fun x => decide (x.2.2.2 < 5000) && !(zKd x.2.1 x.2.2.1 x.2.2.2 == 5)) = true) : ∀ x ∈ t, zVr l zi j x.1 x.2.1 x.2.2.1 x.2.2.2 := fun x hx => by
  have h6 := List.all_eq_true.mp h1 _ hx
  unfold zRowOk at h6
  obtain ⟨h7, h8⟩ := Bool.and_eq_true_iff.mp h6
  have hw : ∀ w ∈ zNd zi j x.2.1 x.2.2.1 x.2.2.2, zWd w := fun w hw => h2 w (List.mem_flatMap.mpr ⟨_, hx, hw⟩)
  obtain ⟨h9, h10⟩ := Bool.and_eq_true_iff.mp (List.all_eq_true.mp h3 _ hx)
  have h9 := of_decide_eq_true h9
  rcases Bool.or_eq_true_iff.mp h8 with q | q
  · rw [q] at h10
    cases h10
  · exact zVr_of h9 h7 q hw
theorem zpx_0 (l : Launch) : zPx l 0 := ⟨fun x h => (nomatch (show x ∈ ([] : List (Nat × Instr × Nat × Nat)) from h)), by decide +kernel⟩
theorem zpx_1 (l : Launch) : zPx l 1 := ⟨fun x h => (nomatch (show x ∈ ([] : List (Nat × Instr × Nat × Nat)) from h)), by decide +kernel⟩
theorem zpx_2 (l : Launch) : zPx l 2 := ⟨fun x h => (nomatch (show x ∈ ([] : List (Nat × Instr × Nat × Nat)) from h)), by decide +kernel⟩
theorem zpx_3 (l : Launch) : zPx l 3 := ⟨fun x h => (nomatch (show x ∈ ([] : List (Nat × Instr × Nat × Nat)) from h)), by decide +kernel⟩
theorem zpx_4 (l : Launch) : zPx l 4 := ⟨fun x h => (nomatch (show x ∈ ([] : List (Nat × Instr × Nat × Nat)) from h)), by decide +kernel⟩
theorem zpx_5 (l : Launch) : zPx l 5 := ⟨fun x h => (nomatch (show x ∈ ([] : List (Nat × Instr × Nat × Nat)) from h)), by decide +kernel⟩
theorem zpx_6 (l : Launch) : zPx l 6 := ⟨fun x h => (nomatch (show x ∈ ([] : List (Nat × Instr × Nat × Nat)) from h)), by decide +kernel⟩
theorem zpx_7 (l : Launch) : zPx l 7 := ⟨fun x h => (nomatch (show x ∈ ([] : List (Nat × Instr × Nat × Nat)) from h)), by decide +kernel⟩
theorem zpx_8 (l : Launch) : zPx l 8 := ⟨fun x h => (nomatch (show x ∈ ([] : List (Nat × Instr × Nat × Nat)) from h)), by decide +kernel⟩
theorem zpx_9 (l : Launch) : zPx l 9 := ⟨fun x h => (nomatch (show x ∈ ([] : List (Nat × Instr × Nat × Nat)) from h)), by decide +kernel⟩
theorem zpx_10 (l : Launch) : zPx l 10 := ⟨fun x h => (nomatch (show x ∈ ([] : List (Nat × Instr × Nat × Nat)) from h)), by decide +kernel⟩
theorem zpx_11 (l : Launch) : zPx l 11 := ⟨fun x h => (nomatch (show x ∈ ([] : List (Nat × Instr × Nat × Nat)) from h)), by decide +kernel⟩
theorem zpx_12 (l : Launch) : zPx l 12 := ⟨fun x h => (nomatch (show x ∈ ([] : List (Nat × Instr × Nat × Nat)) from h)), by decide +kernel⟩
theorem zpx_13 (l : Launch) : zPx l 13 := ⟨fun x h => (nomatch (show x ∈ ([] : List (Nat × Instr × Nat × Nat)) from h)), by decide +kernel⟩
theorem zpx_14 (l : Launch) : zPx l 14 := ⟨fun x h => (nomatch (show x ∈ ([] : List (Nat × Instr × Nat × Nat)) from h)), by decide +kernel⟩
theorem zpx_15 (l : Launch) : zPx l 15 := ⟨fun x h => (nomatch (show x ∈ ([] : List (Nat × Instr × Nat × Nat)) from h)), by decide +kernel⟩
theorem zpx_16 (l : Launch) : zPx l 16 := ⟨fun x h => (nomatch (show x ∈ ([] : List (Nat × Instr × Nat × Nat)) from h)), by decide +kernel⟩
theorem zpx_17 (l : Launch) : zPx l 17 := ⟨fun x h => (nomatch (show x ∈ ([] : List (Nat × Instr × Nat × Nat)) from h)), by decide +kernel⟩
theorem zpx_18 (l : Launch) : zPx l 18 := ⟨fun x h => (nomatch (show x ∈ ([] : List (Nat × Instr × Nat × Nat)) from h)), by decide +kernel⟩
theorem zpx_19 (l : Launch) : zPx l 19 := ⟨fun x h => (nomatch (show x ∈ ([] : List (Nat × Instr × Nat × Nat)) from h)), by decide +kernel⟩
theorem zpx_20 (l : Launch) : zPx l 20 := ⟨fun x h => (nomatch (show x ∈ ([] : List (Nat × Instr × Nat × Nat)) from h)), by decide +kernel⟩
theorem zpx_21 (l : Launch) : zPx l 21 := ⟨fun x h => (nomatch (show x ∈ ([] : List (Nat × Instr × Nat × Nat)) from h)), by decide +kernel⟩
theorem zpx_22 (l : Launch) : zPx l 22 := ⟨fun x h => (nomatch (show x ∈ ([] : List (Nat × Instr × Nat × Nat)) from h)), by decide +kernel⟩
theorem zpx_23 (l : Launch) : zPx l 23 := ⟨fun x h => (nomatch (show x ∈ ([] : List (Nat × Instr × Nat × Nat)) from h)), by decide +kernel⟩
theorem zpx_24 (l : Launch) : zPx l 24 := ⟨fun x h => (nomatch (show x ∈ ([] : List (Nat × Instr × Nat × Nat)) from h)), by decide +kernel⟩
theorem zpx_25 (l : Launch) : zPx l 25 := ⟨fun x h => (nomatch (show x ∈ ([] : List (Nat × Instr × Nat × Nat)) from h)), by decide +kernel⟩
theorem zpx_26 (l : Launch) : zPx l 26 := ⟨fun x h => (nomatch (show x ∈ ([] : List (Nat × Instr × Nat × Nat)) from h)), by decide +kernel⟩
theorem zpx_27 (l : Launch) : zPx l 27 := ⟨fun x h => (nomatch (show x ∈ ([] : List (Nat × Instr × Nat × Nat)) from h)), by decide +kernel⟩
theorem zpx_28 (l : Launch) : zPx l 28 := ⟨fun x h => (nomatch (show x ∈ ([] : List (Nat × Instr × Nat × Nat)) from h)), by decide +kernel⟩
theorem zpx_29 (l : Launch) : zPx l 29 := ⟨fun x h => (nomatch (show x ∈ ([] : List (Nat × Instr × Nat × Nat)) from h)), by decide +kernel⟩
theorem zpx_30 (l : Launch) : zPx l 30 := ⟨fun x h => (nomatch (show x ∈ ([] : List (Nat × Instr × Nat × Nat)) from h)), by decide +kernel⟩
theorem zpx_31 (l : Launch) : zPx l 31 := ⟨fun x h => (nomatch (show x ∈ ([] : List (Nat × Instr × Nat × Nat)) from h)), by decide +kernel⟩
theorem zpx_32 (l : Launch) : zPx l 32 := ⟨fun x h => (nomatch (show x ∈ ([] : List (Nat × Instr × Nat × Nat)) from h)), by decide +kernel⟩
theorem zpx_33 (l : Launch) : zPx l 33 := ⟨fun x h => (nomatch (show x ∈ ([] : List (Nat × Instr × Nat × Nat)) from h)), by decide +kernel⟩
theorem zpx_34 (l : Launch) : zPx l 34 := ⟨fun x h => (nomatch (show x ∈ ([] : List (Nat × Instr × Nat × Nat)) from h)), by decide +kernel⟩
theorem zpx_35 (l : Launch) : zPx l 35 := ⟨fun x h => (nomatch (show x ∈ ([] : List (Nat × Instr × Nat × Nat)) from h)), by decide +kernel⟩
theorem zpx_36 (l : Launch) : zPx l 36 := ⟨fun x h => (nomatch (show x ∈ ([] : List (Nat × Instr × Nat × Nat)) from h)), by decide +kernel⟩
theorem zpx_37 (l : Launch) : zPx l 37 := ⟨fun x h => (nomatch (show x ∈ ([] : List (Nat × Instr × Nat × Nat)) from h)), by decide +kernel⟩
theorem zpx_38 (l : Launch) : zPx l 38 := ⟨fun x h => (nomatch (show x ∈ ([] : List (Nat × Instr × Nat × Nat)) from h)), by decide +kernel⟩
theorem zpx_39 (l : Launch) : zPx l 39 := ⟨fun x h => (nomatch (show x ∈ ([] : List (Nat × Instr × Nat × Nat)) from h)), by decide +kernel⟩
theorem zpx_40 (l : Launch) : zPx l 40 := ⟨fun x h => (nomatch (show x ∈ ([] : List (Nat × Instr × Nat × Nat)) from h)), by decide +kernel⟩
theorem zpx_41 (l : Launch) : zPx l 41 := ⟨fun x h => (nomatch (show x ∈ ([] : List (Nat × Instr × Nat × Nat)) from h)), by decide +kernel⟩
theorem zpx_42 (l : Launch) : zPx l 42 := ⟨fun x h => (nomatch (show x ∈ ([] : List (Nat × Instr × Nat × Nat)) from h)), by decide +kernel⟩
theorem zpx_43 (l : Launch) : zPx l 43 := ⟨fun x h => (nomatch (show x ∈ ([] : List (Nat × Instr × Nat × Nat)) from h)), by decide +kernel⟩
theorem zpx_44 (l : Launch) : zPx l 44 := ⟨fun x h => (nomatch (show x ∈ ([] : List (Nat × Instr × Nat × Nat)) from h)), by decide +kernel⟩
theorem zpx_45 (l : Launch) : zPx l 45 := ⟨fun x h => (nomatch (show x ∈ ([] : List (Nat × Instr × Nat × Nat)) from h)), by decide +kernel⟩
theorem zpx_46 (l : Launch) : zPx l 46 := ⟨fun x h => (nomatch (show x ∈ ([] : List (Nat × Instr × Nat × Nat)) from h)), by decide +kernel⟩
theorem zpx_47 (l : Launch) : zPx l 47 := ⟨fun x h => (nomatch (show x ∈ ([] : List (Nat × Instr × Nat × Nat)) from h)), by decide +kernel⟩
theorem zpx_48 (l : Launch) : zPx l 48 := ⟨fun x h => (nomatch (show x ∈ ([] : List (Nat × Instr × Nat × Nat)) from h)), by decide +kernel⟩
theorem zpx_49 (l : Launch) : zPx l 49 := ⟨fun x h => (nomatch (show x ∈ ([] : List (Nat × Instr × Nat × Nat)) from h)), by decide +kernel⟩
theorem zpx_50 (l : Launch) : zPx l 50 := ⟨fun x h => (nomatch (show x ∈ ([] : List (Nat × Instr × Nat × Nat)) from h)), by decide +kernel⟩
theorem zpx_51 (l : Launch) : zPx l 51 := ⟨fun x h => (nomatch (show x ∈ ([] : List (Nat × Instr × Nat × Nat)) from h)), by decide +kernel⟩
theorem zpx_52 (l : Launch) : zPx l 52 := ⟨fun x h => (nomatch (show x ∈ ([] : List (Nat × Instr × Nat × Nat)) from h)), by decide +kernel⟩
theorem zpx_53 (l : Launch) : zPx l 53 := ⟨fun x h => (nomatch (show x ∈ ([] : List (Nat × Instr × Nat × Nat)) from h)), by decide +kernel⟩
theorem zpx_54 (l : Launch) : zPx l 54 := ⟨fun x h => (nomatch (show x ∈ ([] : List (Nat × Instr × Nat × Nat)) from h)), by decide +kernel⟩
theorem zpx_55 (l : Launch) : zPx l 55 := ⟨fun x h => (nomatch (show x ∈ ([] : List (Nat × Instr × Nat × Nat)) from h)), by decide +kernel⟩
theorem zpx_56 (l : Launch) : zPx l 56 := ⟨fun x h => (nomatch (show x ∈ ([] : List (Nat × Instr × Nat × Nat)) from h)), by decide +kernel⟩
theorem zpx_57 (l : Launch) : zPx l 57 := ⟨fun x h => (nomatch (show x ∈ ([] : List (Nat × Instr × Nat × Nat)) from h)), by decide +kernel⟩
theorem zpx_58 (l : Launch) : zPx l 58 := ⟨fun x h => (nomatch (show x ∈ ([] : List (Nat × Instr × Nat × Nat)) from h)), by decide +kernel⟩
theorem zpx_59 (l : Launch) : zPx l 59 := ⟨fun x h => (nomatch (show x ∈ ([] : List (Nat × Instr × Nat × Nat)) from h)), by decide +kernel⟩
theorem zpx_60 (l : Launch) : zPx l 60 := ⟨fun x h => (nomatch (show x ∈ ([] : List (Nat × Instr × Nat × Nat)) from h)), by decide +kernel⟩
theorem zpx_61 (l : Launch) : zPx l 61 := ⟨fun x h => (nomatch (show x ∈ ([] : List (Nat × Instr × Nat × Nat)) from h)), by decide +kernel⟩
theorem zpx_62 (l : Launch) : zPx l 62 := ⟨fun x h => (nomatch (show x ∈ ([] : List (Nat × Instr × Nat × Nat)) from h)), by decide +kernel⟩
theorem zpx_63 (l : Launch) : zPx l 63 := ⟨fun x h => (nomatch (show x ∈ ([] : List (Nat × Instr × Nat × Nat)) from h)), by decide +kernel⟩
theorem zpx_64 (l : Launch) : zPx l 64 := ⟨fun x h => (nomatch (show x ∈ ([] : List (Nat × Instr × Nat × Nat)) from h)), by decide +kernel⟩
theorem zpx_65 (l : Launch) : zPx l 65 := ⟨fun x h => (nomatch (show x ∈ ([] : List (Nat × Instr × Nat × Nat)) from h)), by decide +kernel⟩
theorem zpx_66 (l : Launch) : zPx l 66 := ⟨fun x h => (nomatch (show x ∈ ([] : List (Nat × Instr × Nat × Nat)) from h)), by decide +kernel⟩
theorem zpx_67 (l : Launch) : zPx l 67 := ⟨fun x h => (nomatch (show x ∈ ([] : List (Nat × Instr × Nat × Nat)) from h)), by decide +kernel⟩
theorem zpx_68 (l : Launch) : zPx l 68 := ⟨fun x h => (nomatch (show x ∈ ([] : List (Nat × Instr × Nat × Nat)) from h)), by decide +kernel⟩
theorem zpx_69 (l : Launch) : zPx l 69 := ⟨fun x h => (nomatch (show x ∈ ([] : List (Nat × Instr × Nat × Nat)) from h)), by decide +kernel⟩
theorem zpx_70 (l : Launch) : zPx l 70 := ⟨fun x h => (nomatch (show x ∈ ([] : List (Nat × Instr × Nat × Nat)) from h)), by decide +kernel⟩
theorem zpx_71 (l : Launch) : zPx l 71 := ⟨fun x h => (nomatch (show x ∈ ([] : List (Nat × Instr × Nat × Nat)) from h)), by decide +kernel⟩
theorem zpx_72 (l : Launch) : zPx l 72 := ⟨fun x h => (nomatch (show x ∈ ([] : List (Nat × Instr × Nat × Nat)) from h)), by decide +kernel⟩
theorem zpx_73 (l : Launch) : zPx l 73 := ⟨fun x h => (nomatch (show x ∈ ([] : List (Nat × Instr × Nat × Nat)) from h)), by decide +kernel⟩
theorem zpx_74 (l : Launch) : zPx l 74 := ⟨fun x h => (nomatch (show x ∈ ([] : List (Nat × Instr × Nat × Nat)) from h)), by decide +kernel⟩
theorem zpx_75 (l : Launch) : zPx l 75 := ⟨fun x h => (nomatch (show x ∈ ([] : List (Nat × Instr × Nat × Nat)) from h)), by decide +kernel⟩
theorem zpx_76 (l : Launch) : zPx l 76 := ⟨fun x h => (nomatch (show x ∈ ([] : List (Nat × Instr × Nat × Nat)) from h)), by decide +kernel⟩
theorem zpx_77 (l : Launch) : zPx l 77 := ⟨fun x h => (nomatch (show x ∈ ([] : List (Nat × Instr × Nat × Nat)) from h)), by decide +kernel⟩
theorem zpx_78 (l : Launch) : zPx l 78 := ⟨fun x h => (nomatch (show x ∈ ([] : List (Nat × Instr × Nat × Nat)) from h)), by decide +kernel⟩
theorem zpx_79 (l : Launch) : zPx l 79 := ⟨fun x h => (nomatch (show x ∈ ([] : List (Nat × Instr × Nat × Nat)) from h)), by decide +kernel⟩
theorem zpx_80 (l : Launch) : zPx l 80 := ⟨fun x h => (nomatch (show x ∈ ([] : List (Nat × Instr × Nat × Nat)) from h)), by decide +kernel⟩
theorem zpx_81 (l : Launch) : zPx l 81 := ⟨fun x h => (nomatch (show x ∈ ([] : List (Nat × Instr × Nat × Nat)) from h)), by decide +kernel⟩
theorem zpx_82 (l : Launch) : zPx l 82 := ⟨fun x h => (nomatch (show x ∈ ([] : List (Nat × Instr × Nat × Nat)) from h)), by decide +kernel⟩
theorem zpx_83 (l : Launch) : zPx l 83 := ⟨fun x h => (nomatch (show x ∈ ([] : List (Nat × Instr × Nat × Nat)) from h)), by decide +kernel⟩
theorem zpx_84 (l : Launch) : zPx l 84 := ⟨fun x h => (nomatch (show x ∈ ([] : List (Nat × Instr × Nat × Nat)) from h)), by decide +kernel⟩
theorem zpx_85 (l : Launch) : zPx l 85 := ⟨fun x h => (nomatch (show x ∈ ([] : List (Nat × Instr × Nat × Nat)) from h)), by decide +kernel⟩
theorem zpx_86 (l : Launch) : zPx l 86 := ⟨fun x h => (nomatch (show x ∈ ([] : List (Nat × Instr × Nat × Nat)) from h)), by decide +kernel⟩
theorem zpx_87 (l : Launch) : zPx l 87 := ⟨fun x h => (nomatch (show x ∈ ([] : List (Nat × Instr × Nat × Nat)) from h)), by decide +kernel⟩
theorem zpx_88 (l : Launch) : zPx l 88 := ⟨(fun x hx => by
  have hx : x ∈ zs_88 := hx
  unfold zs_88 at hx
  rcases List.mem_cons.mp hx with rfl | hx
  · exact zxv_88_104 l
  cases hx), by decide +kernel⟩
theorem zpx_89 (l : Launch) : zPx l 89 := ⟨fun x h => (nomatch (show x ∈ ([] : List (Nat × Instr × Nat × Nat)) from h)), by decide +kernel⟩
theorem zpx_90 (l : Launch) : zPx l 90 := ⟨fun x h => (nomatch (show x ∈ ([] : List (Nat × Instr × Nat × Nat)) from h)), by decide +kernel⟩
theorem zpx_91 (l : Launch) : zPx l 91 := ⟨fun x h => (nomatch (show x ∈ ([] : List (Nat × Instr × Nat × Nat)) from h)), by decide +kernel⟩
theorem zpx_92 (l : Launch) : zPx l 92 := ⟨fun x h => (nomatch (show x ∈ ([] : List (Nat × Instr × Nat × Nat)) from h)), by decide +kernel⟩
theorem zpx_93 (l : Launch) : zPx l 93 := ⟨fun x h => (nomatch (show x ∈ ([] : List (Nat × Instr × Nat × Nat)) from h)), by decide +kernel⟩
theorem zpx_94 (l : Launch) : zPx l 94 := ⟨fun x h => (nomatch (show x ∈ ([] : List (Nat × Instr × Nat × Nat)) from h)), by decide +kernel⟩
theorem zpx_95 (l : Launch) : zPx l 95 := ⟨(fun x hx => by
  have hx : x ∈ zs_95 := hx
  unfold zs_95 at hx
  rcases List.mem_cons.mp hx with rfl | hx
  · exact zxv_95_252 l
  cases hx), by decide +kernel⟩
theorem zpx_96 (l : Launch) : zPx l 96 := ⟨fun x h => (nomatch (show x ∈ ([] : List (Nat × Instr × Nat × Nat)) from h)), by decide +kernel⟩
theorem zpx_97 (l : Launch) : zPx l 97 := ⟨fun x h => (nomatch (show x ∈ ([] : List (Nat × Instr × Nat × Nat)) from h)), by decide +kernel⟩
theorem zpx_98 (l : Launch) : zPx l 98 := ⟨fun x h => (nomatch (show x ∈ ([] : List (Nat × Instr × Nat × Nat)) from h)), by decide +kernel⟩
theorem zpx_99 (l : Launch) : zPx l 99 := ⟨fun x h => (nomatch (show x ∈ ([] : List (Nat × Instr × Nat × Nat)) from h)), by decide +kernel⟩
theorem zpx_100 (l : Launch) : zPx l 100 := ⟨fun x h => (nomatch (show x ∈ ([] : List (Nat × Instr × Nat × Nat)) from h)), by decide +kernel⟩
theorem zpx_101 (l : Launch) : zPx l 101 := ⟨fun x h => (nomatch (show x ∈ ([] : List (Nat × Instr × Nat × Nat)) from h)), by decide +kernel⟩
theorem zpx_102 (l : Launch) : zPx l 102 := ⟨fun x h => (nomatch (show x ∈ ([] : List (Nat × Instr × Nat × Nat)) from h)), by decide +kernel⟩
theorem zpx_103 (l : Launch) : zPx l 103 := ⟨fun x h => (nomatch (show x ∈ ([] : List (Nat × Instr × Nat × Nat)) from h)), by decide +kernel⟩
theorem zpx_104 (l : Launch) : zPx l 104 := ⟨fun x h => (nomatch (show x ∈ ([] : List (Nat × Instr × Nat × Nat)) from h)), by decide +kernel⟩
theorem zpx_105 (l : Launch) : zPx l 105 := ⟨fun x h => (nomatch (show x ∈ ([] : List (Nat × Instr × Nat × Nat)) from h)), by decide +kernel⟩
theorem zpx_106 (l : Launch) : zPx l 106 := ⟨fun x h => (nomatch (show x ∈ ([] : List (Nat × Instr × Nat × Nat)) from h)), by decide +kernel⟩
theorem zpx_107 (l : Launch) : zPx l 107 := ⟨fun x h => (nomatch (show x ∈ ([] : List (Nat × Instr × Nat × Nat)) from h)), by decide +kernel⟩
theorem zpx_108 (l : Launch) : zPx l 108 := ⟨fun x h => (nomatch (show x ∈ ([] : List (Nat × Instr × Nat × Nat)) from h)), by decide +kernel⟩
theorem zpx_109 (l : Launch) : zPx l 109 := ⟨fun x h => (nomatch (show x ∈ ([] : List (Nat × Instr × Nat × Nat)) from h)), by decide +kernel⟩
theorem zpx_110 (l : Launch) : zPx l 110 := ⟨fun x h => (nomatch (show x ∈ ([] : List (Nat × Instr × Nat × Nat)) from h)), by decide +kernel⟩
theorem zpx_111 (l : Launch) : zPx l 111 := ⟨fun x h => (nomatch (show x ∈ ([] : List (Nat × Instr × Nat × Nat)) from h)), by decide +kernel⟩
theorem zpx_112 (l : Launch) : zPx l 112 := ⟨fun x h => (nomatch (show x ∈ ([] : List (Nat × Instr × Nat × Nat)) from h)), by decide +kernel⟩
theorem zpx_113 (l : Launch) : zPx l 113 := ⟨fun x h => (nomatch (show x ∈ ([] : List (Nat × Instr × Nat × Nat)) from h)), by decide +kernel⟩
theorem zpx_114 (l : Launch) : zPx l 114 := ⟨fun x h => (nomatch (show x ∈ ([] : List (Nat × Instr × Nat × Nat)) from h)), by decide +kernel⟩
theorem zpx_115 (l : Launch) : zPx l 115 := ⟨fun x h => (nomatch (show x ∈ ([] : List (Nat × Instr × Nat × Nat)) from h)), by decide +kernel⟩
theorem zpx_116 (l : Launch) : zPx l 116 := ⟨fun x h => (nomatch (show x ∈ ([] : List (Nat × Instr × Nat × Nat)) from h)), by decide +kernel⟩
theorem zpx_117 (l : Launch) : zPx l 117 := ⟨fun x h => (nomatch (show x ∈ ([] : List (Nat × Instr × Nat × Nat)) from h)), by decide +kernel⟩
theorem zpx_118 (l : Launch) : zPx l 118 := ⟨fun x h => (nomatch (show x ∈ ([] : List (Nat × Instr × Nat × Nat)) from h)), by decide +kernel⟩
theorem zpx_119 (l : Launch) : zPx l 119 := ⟨fun x h => (nomatch (show x ∈ ([] : List (Nat × Instr × Nat × Nat)) from h)), by decide +kernel⟩
theorem zpx_120 (l : Launch) : zPx l 120 := ⟨fun x h => (nomatch (show x ∈ ([] : List (Nat × Instr × Nat × Nat)) from h)), by decide +kernel⟩
theorem zpx_121 (l : Launch) : zPx l 121 := ⟨fun x h => (nomatch (show x ∈ ([] : List (Nat × Instr × Nat × Nat)) from h)), by decide +kernel⟩
theorem zpx_122 (l : Launch) : zPx l 122 := ⟨fun x h => (nomatch (show x ∈ ([] : List (Nat × Instr × Nat × Nat)) from h)), by decide +kernel⟩
theorem zpx_123 (l : Launch) : zPx l 123 := ⟨fun x h => (nomatch (show x ∈ ([] : List (Nat × Instr × Nat × Nat)) from h)), by decide +kernel⟩
theorem zpx_124 (l : Launch) : zPx l 124 := ⟨fun x h => (nomatch (show x ∈ ([] : List (Nat × Instr × Nat × Nat)) from h)), by decide +kernel⟩
theorem zpx_125 (l : Launch) : zPx l 125 := ⟨fun x h => (nomatch (show x ∈ ([] : List (Nat × Instr × Nat × Nat)) from h)), by decide +kernel⟩
theorem zpx_126 (l : Launch) : zPx l 126 := ⟨fun x h => (nomatch (show x ∈ ([] : List (Nat × Instr × Nat × Nat)) from h)), by decide +kernel⟩
theorem zpx_127 (l : Launch) : zPx l 127 := ⟨fun x h => (nomatch (show x ∈ ([] : List (Nat × Instr × Nat × Nat)) from h)), by decide +kernel⟩
theorem zpx_128 (l : Launch) : zPx l 128 := ⟨fun x h => (nomatch (show x ∈ ([] : List (Nat × Instr × Nat × Nat)) from h)), by decide +kernel⟩
theorem zpx_129 (l : Launch) : zPx l 129 := ⟨(fun x hx => by
  rcases List.mem_append.mp (show x ∈ zs_129 ++ zo_129 from hx) with hx | hx
  · unfold zs_129 at hx
    rcases List.mem_cons.mp hx with rfl | hx
    · exact zxv_129_65 l
    cases hx
  · exact zxO zxc_129 zxw_129 zxb_129 x hx), by decide +kernel⟩
theorem zpx_130 (l : Launch) : zPx l 130 := ⟨fun x h => (nomatch (show x ∈ ([] : List (Nat × Instr × Nat × Nat)) from h)), by decide +kernel⟩
theorem zpx_131 (l : Launch) : zPx l 131 := ⟨fun x h => (nomatch (show x ∈ ([] : List (Nat × Instr × Nat × Nat)) from h)), by decide +kernel⟩
theorem zpx_132 (l : Launch) : zPx l 132 := ⟨fun x h => (nomatch (show x ∈ ([] : List (Nat × Instr × Nat × Nat)) from h)), by decide +kernel⟩
theorem zpx_133 (l : Launch) : zPx l 133 := ⟨fun x h => (nomatch (show x ∈ ([] : List (Nat × Instr × Nat × Nat)) from h)), by decide +kernel⟩
theorem zpx_134 (l : Launch) : zPx l 134 := ⟨fun x h => (nomatch (show x ∈ ([] : List (Nat × Instr × Nat × Nat)) from h)), by decide +kernel⟩
theorem zpx_135 (l : Launch) : zPx l 135 := ⟨fun x h => (nomatch (show x ∈ ([] : List (Nat × Instr × Nat × Nat)) from h)), by decide +kernel⟩
theorem zpx_136 (l : Launch) : zPx l 136 := ⟨fun x h => (nomatch (show x ∈ ([] : List (Nat × Instr × Nat × Nat)) from h)), by decide +kernel⟩
theorem zpx_137 (l : Launch) : zPx l 137 := ⟨fun x h => (nomatch (show x ∈ ([] : List (Nat × Instr × Nat × Nat)) from h)), by decide +kernel⟩
theorem zpx_138 (l : Launch) : zPx l 138 := ⟨fun x h => (nomatch (show x ∈ ([] : List (Nat × Instr × Nat × Nat)) from h)), by decide +kernel⟩
theorem zpx_139 (l : Launch) : zPx l 139 := ⟨fun x h => (nomatch (show x ∈ ([] : List (Nat × Instr × Nat × Nat)) from h)), by decide +kernel⟩
theorem zpx_140 (l : Launch) : zPx l 140 := ⟨fun x h => (nomatch (show x ∈ ([] : List (Nat × Instr × Nat × Nat)) from h)), by decide +kernel⟩
theorem zpx_141 (l : Launch) : zPx l 141 := ⟨fun x h => (nomatch (show x ∈ ([] : List (Nat × Instr × Nat × Nat)) from h)), by decide +kernel⟩
theorem zpx_142 (l : Launch) : zPx l 142 := ⟨fun x h => (nomatch (show x ∈ ([] : List (Nat × Instr × Nat × Nat)) from h)), by decide +kernel⟩
theorem zpx_143 (l : Launch) : zPx l 143 := ⟨fun x h => (nomatch (show x ∈ ([] : List (Nat × Instr × Nat × Nat)) from h)), by decide +kernel⟩
theorem zpx_144 (l : Launch) : zPx l 144 := ⟨fun x h => (nomatch (show x ∈ ([] : List (Nat × Instr × Nat × Nat)) from h)), by decide +kernel⟩
theorem zpx_145 (l : Launch) : zPx l 145 := ⟨fun x h => (nomatch (show x ∈ ([] : List (Nat × Instr × Nat × Nat)) from h)), by decide +kernel⟩
theorem zpx_146 (l : Launch) : zPx l 146 := ⟨fun x h => (nomatch (show x ∈ ([] : List (Nat × Instr × Nat × Nat)) from h)), by decide +kernel⟩
theorem zpx_147 (l : Launch) : zPx l 147 := ⟨fun x h => (nomatch (show x ∈ ([] : List (Nat × Instr × Nat × Nat)) from h)), by decide +kernel⟩
theorem zpx_148 (l : Launch) : zPx l 148 := ⟨fun x h => (nomatch (show x ∈ ([] : List (Nat × Instr × Nat × Nat)) from h)), by decide +kernel⟩
theorem zpx_149 (l : Launch) : zPx l 149 := ⟨fun x h => (nomatch (show x ∈ ([] : List (Nat × Instr × Nat × Nat)) from h)), by decide +kernel⟩
theorem zpx_150 (l : Launch) : zPx l 150 := ⟨fun x h => (nomatch (show x ∈ ([] : List (Nat × Instr × Nat × Nat)) from h)), by decide +kernel⟩
theorem zpx_151 (l : Launch) : zPx l 151 := ⟨fun x h => (nomatch (show x ∈ ([] : List (Nat × Instr × Nat × Nat)) from h)), by decide +kernel⟩
theorem zpx_152 (l : Launch) : zPx l 152 := ⟨fun x h => (nomatch (show x ∈ ([] : List (Nat × Instr × Nat × Nat)) from h)), by decide +kernel⟩
theorem zpx_153 (l : Launch) : zPx l 153 := ⟨fun x h => (nomatch (show x ∈ ([] : List (Nat × Instr × Nat × Nat)) from h)), by decide +kernel⟩
theorem zpx_154 (l : Launch) : zPx l 154 := ⟨fun x h => (nomatch (show x ∈ ([] : List (Nat × Instr × Nat × Nat)) from h)), by decide +kernel⟩
theorem zpx_155 (l : Launch) : zPx l 155 := ⟨fun x h => (nomatch (show x ∈ ([] : List (Nat × Instr × Nat × Nat)) from h)), by decide +kernel⟩
theorem zpx_156 (l : Launch) : zPx l 156 := ⟨fun x h => (nomatch (show x ∈ ([] : List (Nat × Instr × Nat × Nat)) from h)), by decide +kernel⟩
theorem zpx_157 (l : Launch) : zPx l 157 := ⟨fun x h => (nomatch (show x ∈ ([] : List (Nat × Instr × Nat × Nat)) from h)), by decide +kernel⟩
theorem zpx_158 (l : Launch) : zPx l 158 := ⟨fun x h => (nomatch (show x ∈ ([] : List (Nat × Instr × Nat × Nat)) from h)), by decide +kernel⟩
theorem zpx_159 (l : Launch) : zPx l 159 := ⟨fun x h => (nomatch (show x ∈ ([] : List (Nat × Instr × Nat × Nat)) from h)), by decide +kernel⟩
theorem zpx_160 (l : Launch) : zPx l 160 := ⟨fun x h => (nomatch (show x ∈ ([] : List (Nat × Instr × Nat × Nat)) from h)), by decide +kernel⟩
theorem zpx_161 (l : Launch) : zPx l 161 := ⟨(fun x hx => by
  rcases List.mem_append.mp (show x ∈ zs_161 ++ zo_161 from hx) with hx | hx
  · unfold zs_161 at hx
    rcases List.mem_cons.mp hx with rfl | hx
    · exact zxv_161_40 l
    cases hx
  · exact zxO zxc_161 zxw_161 zxb_161 x hx), by decide +kernel⟩
theorem zpx_162 (l : Launch) : zPx l 162 := ⟨(fun x hx => by
  rcases List.mem_append.mp (show x ∈ zs_162 ++ zo_162 from hx) with hx | hx
  · unfold zs_162 at hx
    rcases List.mem_cons.mp hx with rfl | hx
    · exact zxv_162_56 l
    cases hx
  · exact zxO zxc_162 zxw_162 zxb_162 x hx), by decide +kernel⟩
theorem zpx_163 (l : Launch) : zPx l 163 := ⟨fun x h => (nomatch (show x ∈ ([] : List (Nat × Instr × Nat × Nat)) from h)), by decide +kernel⟩
theorem zpx_164 (l : Launch) : zPx l 164 := ⟨fun x h => (nomatch (show x ∈ ([] : List (Nat × Instr × Nat × Nat)) from h)), by decide +kernel⟩
theorem zpx_165 (l : Launch) : zPx l 165 := ⟨fun x h => (nomatch (show x ∈ ([] : List (Nat × Instr × Nat × Nat)) from h)), by decide +kernel⟩
theorem zpx_166 (l : Launch) : zPx l 166 := ⟨fun x h => (nomatch (show x ∈ ([] : List (Nat × Instr × Nat × Nat)) from h)), by decide +kernel⟩
theorem zpx_167 (l : Launch) : zPx l 167 := ⟨fun x h => (nomatch (show x ∈ ([] : List (Nat × Instr × Nat × Nat)) from h)), by decide +kernel⟩
theorem zpx_168 (l : Launch) : zPx l 168 := ⟨fun x h => (nomatch (show x ∈ ([] : List (Nat × Instr × Nat × Nat)) from h)), by decide +kernel⟩
theorem zpx_169 (l : Launch) : zPx l 169 := ⟨fun x h => (nomatch (show x ∈ ([] : List (Nat × Instr × Nat × Nat)) from h)), by decide +kernel⟩
theorem zpx_170 (l : Launch) : zPx l 170 := ⟨fun x h => (nomatch (show x ∈ ([] : List (Nat × Instr × Nat × Nat)) from h)), by decide +kernel⟩
theorem zpx_171 (l : Launch) : zPx l 171 := ⟨fun x h => (nomatch (show x ∈ ([] : List (Nat × Instr × Nat × Nat)) from h)), by decide +kernel⟩
theorem zpx_172 (l : Launch) : zPx l 172 := ⟨fun x h => (nomatch (show x ∈ ([] : List (Nat × Instr × Nat × Nat)) from h)), by decide +kernel⟩
theorem zpx_173 (l : Launch) : zPx l 173 := ⟨fun x h => (nomatch (show x ∈ ([] : List (Nat × Instr × Nat × Nat)) from h)), by decide +kernel⟩
theorem zpx_174 (l : Launch) : zPx l 174 := ⟨fun x h => (nomatch (show x ∈ ([] : List (Nat × Instr × Nat × Nat)) from h)), by decide +kernel⟩
theorem zpx_175 (l : Launch) : zPx l 175 := ⟨fun x h => (nomatch (show x ∈ ([] : List (Nat × Instr × Nat × Nat)) from h)), by decide +kernel⟩
theorem zpx_176 (l : Launch) : zPx l 176 := ⟨fun x h => (nomatch (show x ∈ ([] : List (Nat × Instr × Nat × Nat)) from h)), by decide +kernel⟩
theorem zpx_177 (l : Launch) : zPx l 177 := ⟨fun x h => (nomatch (show x ∈ ([] : List (Nat × Instr × Nat × Nat)) from h)), by decide +kernel⟩
theorem zpx_178 (l : Launch) : zPx l 178 := ⟨fun x h => (nomatch (show x ∈ ([] : List (Nat × Instr × Nat × Nat)) from h)), by decide +kernel⟩
theorem zpx_179 (l : Launch) : zPx l 179 := ⟨fun x h => (nomatch (show x ∈ ([] : List (Nat × Instr × Nat × Nat)) from h)), by decide +kernel⟩
theorem zpx_180 (l : Launch) : zPx l 180 := ⟨fun x h => (nomatch (show x ∈ ([] : List (Nat × Instr × Nat × Nat)) from h)), by decide +kernel⟩
theorem zpx_181 (l : Launch) : zPx l 181 := ⟨fun x h => (nomatch (show x ∈ ([] : List (Nat × Instr × Nat × Nat)) from h)), by decide +kernel⟩
theorem zpx_182 (l : Launch) : zPx l 182 := ⟨fun x h => (nomatch (show x ∈ ([] : List (Nat × Instr × Nat × Nat)) from h)), by decide +kernel⟩
theorem zpx_183 (l : Launch) : zPx l 183 := ⟨fun x h => (nomatch (show x ∈ ([] : List (Nat × Instr × Nat × Nat)) from h)), by decide +kernel⟩
theorem zpx_184 (l : Launch) : zPx l 184 := ⟨fun x h => (nomatch (show x ∈ ([] : List (Nat × Instr × Nat × Nat)) from h)), by decide +kernel⟩
theorem zpx_185 (l : Launch) : zPx l 185 := ⟨fun x h => (nomatch (show x ∈ ([] : List (Nat × Instr × Nat × Nat)) from h)), by decide +kernel⟩
theorem zpx_186 (l : Launch) : zPx l 186 := ⟨fun x h => (nomatch (show x ∈ ([] : List (Nat × Instr × Nat × Nat)) from h)), by decide +kernel⟩
theorem zpx_187 (l : Launch) : zPx l 187 := ⟨fun x h => (nomatch (show x ∈ ([] : List (Nat × Instr × Nat × Nat)) from h)), by decide +kernel⟩
theorem zpx_188 (l : Launch) : zPx l 188 := ⟨fun x h => (nomatch (show x ∈ ([] : List (Nat × Instr × Nat × Nat)) from h)), by decide +kernel⟩
theorem zpx_189 (l : Launch) : zPx l 189 := ⟨fun x h => (nomatch (show x ∈ ([] : List (Nat × Instr × Nat × Nat)) from h)), by decide +kernel⟩
theorem zpx_190 (l : Launch) : zPx l 190 := ⟨fun x h => (nomatch (show x ∈ ([] : List (Nat × Instr × Nat × Nat)) from h)), by decide +kernel⟩
theorem zpx_191 (l : Launch) : zPx l 191 := ⟨fun x h => (nomatch (show x ∈ ([] : List (Nat × Instr × Nat × Nat)) from h)), by decide +kernel⟩
theorem zpx_192 (l : Launch) : zPx l 192 := ⟨fun x h => (nomatch (show x ∈ ([] : List (Nat × Instr × Nat × Nat)) from h)), by decide +kernel⟩
theorem zpx_193 (l : Launch) : zPx l 193 := ⟨fun x h => (nomatch (show x ∈ ([] : List (Nat × Instr × Nat × Nat)) from h)), by decide +kernel⟩
theorem zpx_194 (l : Launch) : zPx l 194 := ⟨fun x h => (nomatch (show x ∈ ([] : List (Nat × Instr × Nat × Nat)) from h)), by decide +kernel⟩
theorem zpx_195 (l : Launch) : zPx l 195 := ⟨fun x h => (nomatch (show x ∈ ([] : List (Nat × Instr × Nat × Nat)) from h)), by decide +kernel⟩
theorem zpx_196 (l : Launch) : zPx l 196 := ⟨fun x h => (nomatch (show x ∈ ([] : List (Nat × Instr × Nat × Nat)) from h)), by decide +kernel⟩
theorem zpx_197 (l : Launch) : zPx l 197 := ⟨(fun x hx => by
  have hx : x ∈ zs_197 := hx
  unfold zs_197 at hx
  rcases List.mem_cons.mp hx with rfl | hx
  · exact zxv_197_167 l
  cases hx), by decide +kernel⟩
theorem zpx_198 (l : Launch) : zPx l 198 := ⟨fun x h => (nomatch (show x ∈ ([] : List (Nat × Instr × Nat × Nat)) from h)), by decide +kernel⟩
theorem zpx_199 (l : Launch) : zPx l 199 := ⟨fun x h => (nomatch (show x ∈ ([] : List (Nat × Instr × Nat × Nat)) from h)), by decide +kernel⟩
theorem zpx_200 (l : Launch) : zPx l 200 := ⟨fun x h => (nomatch (show x ∈ ([] : List (Nat × Instr × Nat × Nat)) from h)), by decide +kernel⟩
theorem zpx_201 (l : Launch) : zPx l 201 := ⟨(fun x hx => by
  rcases List.mem_append.mp (show x ∈ zs_201 ++ zo_201 from hx) with hx | hx
  · unfold zs_201 at hx
    rcases List.mem_cons.mp hx with rfl | hx
    · exact zxv_201_18 l
    cases hx
  · exact zxO zxc_201 zxw_201 zxb_201 x hx), by decide +kernel⟩
theorem zpx_202 (l : Launch) : zPx l 202 := ⟨fun x h => (nomatch (show x ∈ ([] : List (Nat × Instr × Nat × Nat)) from h)), by decide +kernel⟩
theorem zpx_203 (l : Launch) : zPx l 203 := ⟨fun x h => (nomatch (show x ∈ ([] : List (Nat × Instr × Nat × Nat)) from h)), by decide +kernel⟩
theorem zpx_204 (l : Launch) : zPx l 204 := ⟨fun x h => (nomatch (show x ∈ ([] : List (Nat × Instr × Nat × Nat)) from h)), by decide +kernel⟩
theorem zpx_205 (l : Launch) : zPx l 205 := ⟨fun x h => (nomatch (show x ∈ ([] : List (Nat × Instr × Nat × Nat)) from h)), by decide +kernel⟩
theorem zpx_206 (l : Launch) : zPx l 206 := ⟨fun x h => (nomatch (show x ∈ ([] : List (Nat × Instr × Nat × Nat)) from h)), by decide +kernel⟩
theorem zpx_207 (l : Launch) : zPx l 207 := ⟨(fun x hx => by
  have hx : x ∈ zs_207 := hx
  unfold zs_207 at hx
  rcases List.mem_cons.mp hx with rfl | hx
  · exact zxv_207_518 l
  cases hx), by decide +kernel⟩
theorem zpx_208 (l : Launch) : zPx l 208 := ⟨fun x h => (nomatch (show x ∈ ([] : List (Nat × Instr × Nat × Nat)) from h)), by decide +kernel⟩
theorem zpx_209 (l : Launch) : zPx l 209 := ⟨fun x h => (nomatch (show x ∈ ([] : List (Nat × Instr × Nat × Nat)) from h)), by decide +kernel⟩
theorem zpx_210 (l : Launch) : zPx l 210 := ⟨fun x h => (nomatch (show x ∈ ([] : List (Nat × Instr × Nat × Nat)) from h)), by decide +kernel⟩
theorem zpx_211 (l : Launch) : zPx l 211 := ⟨fun x h => (nomatch (show x ∈ ([] : List (Nat × Instr × Nat × Nat)) from h)), by decide +kernel⟩
theorem zpx_212 (l : Launch) : zPx l 212 := ⟨fun x h => (nomatch (show x ∈ ([] : List (Nat × Instr × Nat × Nat)) from h)), by decide +kernel⟩
theorem zpx_213 (l : Launch) : zPx l 213 := ⟨fun x h => (nomatch (show x ∈ ([] : List (Nat × Instr × Nat × Nat)) from h)), by decide +kernel⟩
theorem zpx_214 (l : Launch) : zPx l 214 := ⟨fun x h => (nomatch (show x ∈ ([] : List (Nat × Instr × Nat × Nat)) from h)), by decide +kernel⟩
theorem zpx_215 (l : Launch) : zPx l 215 := ⟨fun x h => (nomatch (show x ∈ ([] : List (Nat × Instr × Nat × Nat)) from h)), by decide +kernel⟩
theorem zpx_216 (l : Launch) : zPx l 216 := ⟨fun x h => (nomatch (show x ∈ ([] : List (Nat × Instr × Nat × Nat)) from h)), by decide +kernel⟩
theorem zpx_217 (l : Launch) : zPx l 217 := ⟨fun x h => (nomatch (show x ∈ ([] : List (Nat × Instr × Nat × Nat)) from h)), by decide +kernel⟩
theorem zpx_218 (l : Launch) : zPx l 218 := ⟨fun x h => (nomatch (show x ∈ ([] : List (Nat × Instr × Nat × Nat)) from h)), by decide +kernel⟩
theorem zpx_219 (l : Launch) : zPx l 219 := ⟨fun x h => (nomatch (show x ∈ ([] : List (Nat × Instr × Nat × Nat)) from h)), by decide +kernel⟩
theorem zpx_220 (l : Launch) : zPx l 220 := ⟨fun x h => (nomatch (show x ∈ ([] : List (Nat × Instr × Nat × Nat)) from h)), by decide +kernel⟩
theorem zpx_221 (l : Launch) : zPx l 221 := ⟨fun x h => (nomatch (show x ∈ ([] : List (Nat × Instr × Nat × Nat)) from h)), by decide +kernel⟩
theorem zpx_222 (l : Launch) : zPx l 222 := ⟨fun x h => (nomatch (show x ∈ ([] : List (Nat × Instr × Nat × Nat)) from h)), by decide +kernel⟩
theorem zpx_223 (l : Launch) : zPx l 223 := ⟨fun x h => (nomatch (show x ∈ ([] : List (Nat × Instr × Nat × Nat)) from h)), by decide +kernel⟩
theorem zpx_224 (l : Launch) : zPx l 224 := ⟨fun x h => (nomatch (show x ∈ ([] : List (Nat × Instr × Nat × Nat)) from h)), by decide +kernel⟩
theorem zpx_225 (l : Launch) : zPx l 225 := ⟨fun x h => (nomatch (show x ∈ ([] : List (Nat × Instr × Nat × Nat)) from h)), by decide +kernel⟩
theorem zpx_226 (l : Launch) : zPx l 226 := ⟨fun x h => (nomatch (show x ∈ ([] : List (Nat × Instr × Nat × Nat)) from h)), by decide +kernel⟩
theorem zpx_227 (l : Launch) : zPx l 227 := ⟨fun x h => (nomatch (show x ∈ ([] : List (Nat × Instr × Nat × Nat)) from h)), by decide +kernel⟩
theorem zpx_228 (l : Launch) : zPx l 228 := ⟨fun x h => (nomatch (show x ∈ ([] : List (Nat × Instr × Nat × Nat)) from h)), by decide +kernel⟩
theorem zpx_229 (l : Launch) : zPx l 229 := ⟨fun x h => (nomatch (show x ∈ ([] : List (Nat × Instr × Nat × Nat)) from h)), by decide +kernel⟩
theorem zpx_230 (l : Launch) : zPx l 230 := ⟨fun x h => (nomatch (show x ∈ ([] : List (Nat × Instr × Nat × Nat)) from h)), by decide +kernel⟩
theorem zpx_231 (l : Launch) : zPx l 231 := ⟨fun x h => (nomatch (show x ∈ ([] : List (Nat × Instr × Nat × Nat)) from h)), by decide +kernel⟩
theorem zpx_232 (l : Launch) : zPx l 232 := ⟨fun x h => (nomatch (show x ∈ ([] : List (Nat × Instr × Nat × Nat)) from h)), by decide +kernel⟩
theorem zpx_233 (l : Launch) : zPx l 233 := ⟨fun x h => (nomatch (show x ∈ ([] : List (Nat × Instr × Nat × Nat)) from h)), by decide +kernel⟩
theorem zpx_234 (l : Launch) : zPx l 234 := ⟨fun x h => (nomatch (show x ∈ ([] : List (Nat × Instr × Nat × Nat)) from h)), by decide +kernel⟩
theorem zpx_235 (l : Launch) : zPx l 235 := ⟨fun x h => (nomatch (show x ∈ ([] : List (Nat × Instr × Nat × Nat)) from h)), by decide +kernel⟩
theorem zpx_236 (l : Launch) : zPx l 236 := ⟨fun x h => (nomatch (show x ∈ ([] : List (Nat × Instr × Nat × Nat)) from h)), by decide +kernel⟩
theorem zpx_237 (l : Launch) : zPx l 237 := ⟨fun x h => (nomatch (show x ∈ ([] : List (Nat × Instr × Nat × Nat)) from h)), by decide +kernel⟩
theorem zpx_238 (l : Launch) : zPx l 238 := ⟨fun x h => (nomatch (show x ∈ ([] : List (Nat × Instr × Nat × Nat)) from h)), by decide +kernel⟩
theorem zpx_239 (l : Launch) : zPx l 239 := ⟨fun x h => (nomatch (show x ∈ ([] : List (Nat × Instr × Nat × Nat)) from h)), by decide +kernel⟩
theorem zpx_240 (l : Launch) : zPx l 240 := ⟨fun x h => (nomatch (show x ∈ ([] : List (Nat × Instr × Nat × Nat)) from h)), by decide +kernel⟩
theorem zpx_241 (l : Launch) : zPx l 241 := ⟨fun x h => (nomatch (show x ∈ ([] : List (Nat × Instr × Nat × Nat)) from h)), by decide +kernel⟩
theorem zpx_242 (l : Launch) : zPx l 242 := ⟨fun x h => (nomatch (show x ∈ ([] : List (Nat × Instr × Nat × Nat)) from h)), by decide +kernel⟩
theorem zpx_243 (l : Launch) : zPx l 243 := ⟨fun x h => (nomatch (show x ∈ ([] : List (Nat × Instr × Nat × Nat)) from h)), by decide +kernel⟩
theorem zpx_244 (l : Launch) : zPx l 244 := ⟨(fun x hx => by
  rcases List.mem_append.mp (show x ∈ zs_244 ++ zo_244 from hx) with hx | hx
  · unfold zs_244 at hx
    rcases List.mem_cons.mp hx with rfl | hx
    · exact zxv_244_4 l
    cases hx
  · exact zxO zxc_244 zxw_244 zxb_244 x hx), by decide +kernel⟩
theorem zpx_245 (l : Launch) : zPx l 245 := ⟨fun x h => (nomatch (show x ∈ ([] : List (Nat × Instr × Nat × Nat)) from h)), by decide +kernel⟩
theorem zpx_246 (l : Launch) : zPx l 246 := ⟨(fun x hx => by
  rcases List.mem_append.mp (show x ∈ zs_246 ++ zo_246 from hx) with hx | hx
  · unfold zs_246 at hx
    rcases List.mem_cons.mp hx with rfl | hx
    · exact zxv_246_24 l
    cases hx
  · exact zxO zxc_246 zxw_246 zxb_246 x hx), by decide +kernel⟩
theorem zpx_247 (l : Launch) : zPx l 247 := ⟨(fun x hx => by
  have hx : x ∈ zo_247 := hx
  exact zxO zxc_247 zxw_247 zxb_247 x hx), by decide +kernel⟩
theorem zpx_248 (l : Launch) : zPx l 248 := ⟨(fun x hx => by
  have hx : x ∈ zo_248 := hx
  exact zxO zxc_248 zxw_248 zxb_248 x hx), by decide +kernel⟩
theorem zpx_249 (l : Launch) : zPx l 249 := ⟨(fun x hx => by
  rcases List.mem_append.mp (show x ∈ zs_249 ++ zo_249 from hx) with hx | hx
  · unfold zs_249 at hx
    rcases List.mem_cons.mp hx with rfl | hx
    · exact zxv_249_1 l
    rcases List.mem_cons.mp hx with rfl | hx
    · exact zxv_249_5 l
    rcases List.mem_cons.mp hx with rfl | hx
    · exact zxv_249_21 l
    rcases List.mem_cons.mp hx with rfl | hx
    · exact zxv_249_30 l
    cases hx
  · exact zxO zxc_249 zxw_249 zxb_249 x hx), by decide +kernel⟩
theorem zpx_250 (l : Launch) : zPx l 250 := ⟨(fun x hx => by
  rcases List.mem_append.mp (show x ∈ zs_250 ++ zo_250 from hx) with hx | hx
  · unfold zs_250 at hx
    rcases List.mem_cons.mp hx with rfl | hx
    · exact zxv_250_7 l
    cases hx
  · exact zxO zxc_250 zxw_250 zxb_250 x hx), by decide +kernel⟩
theorem zpx_251 (l : Launch) : zPx l 251 := ⟨(fun x hx => by
  rcases List.mem_append.mp (show x ∈ zs_251 ++ zo_251 from hx) with hx | hx
  · unfold zs_251 at hx
    rcases List.mem_cons.mp hx with rfl | hx
    · exact zxv_251_7 l
    rcases List.mem_cons.mp hx with rfl | hx
    · exact zxv_251_53 l
    cases hx
  · exact zxO zxc_251 zxw_251 zxb_251 x hx), by decide +kernel⟩
theorem zpx_252 (l : Launch) : zPx l 252 := ⟨(fun x hx => by
  rcases List.mem_append.mp (show x ∈ zs_252 ++ zo_252 from hx) with hx | hx
  · unfold zs_252 at hx
    rcases List.mem_cons.mp hx with rfl | hx
    · exact zxv_252_14 l
    cases hx
  · exact zxO zxc_252 zxw_252 zxb_252 x hx), by decide +kernel⟩
theorem zpx_253 (l : Launch) : zPx l 253 := ⟨fun x h => (nomatch (show x ∈ ([] : List (Nat × Instr × Nat × Nat)) from h)), by decide +kernel⟩
theorem zpx_254 (l : Launch) : zPx l 254 := ⟨(fun x hx => by
  rcases List.mem_append.mp (show x ∈ zs_254 ++ zo_254 from hx) with hx | hx
  · unfold zs_254 at hx
    rcases List.mem_cons.mp hx with rfl | hx
    · exact zxv_254_0 l
    cases hx
  · exact zxO zxc_254 zxw_254 zxb_254 x hx), by decide +kernel⟩
theorem zpx_255 (l : Launch) : zPx l 255 := ⟨(fun x hx => by
  rcases List.mem_append.mp (show x ∈ zs_255 ++ zo_255 from hx) with hx | hx
  · unfold zs_255 at hx
    rcases List.mem_cons.mp hx with rfl | hx
    · exact zxv_255_0 l
    rcases List.mem_cons.mp hx with rfl | hx
    · exact zxv_255_18 l
    cases hx
  · exact zxO zxc_255 zxw_255 zxb_255 x hx), by decide +kernel⟩
theorem zpx_256 (l : Launch) : zPx l 256 := ⟨(fun x hx => by
  rcases List.mem_append.mp (show x ∈ zs_256 ++ zo_256 from hx) with hx | hx
  · unfold zs_256 at hx
    rcases List.mem_cons.mp hx with rfl | hx
    · exact zxv_256_2 l
    cases hx
  · exact zxO zxc_256 zxw_256 zxb_256 x hx), by decide +kernel⟩
theorem zpx_257 (l : Launch) : zPx l 257 := ⟨(fun x hx => by
  rcases List.mem_append.mp (show x ∈ zs_257 ++ zo_257 from hx) with hx | hx
  · unfold zs_257 at hx
    rcases List.mem_cons.mp hx with rfl | hx
    · exact zxv_257_49 l
    rcases List.mem_cons.mp hx with rfl | hx
    · exact zxv_257_62 l
    rcases List.mem_cons.mp hx with rfl | hx
    · exact zxv_257_78 l
    rcases List.mem_cons.mp hx with rfl | hx
    · exact zxv_257_97 l
    cases hx
  · exact zxO zxc_257 zxw_257 zxb_257 x hx), by decide +kernel⟩
theorem zpx_258 (l : Launch) : zPx l 258 := ⟨fun x h => (nomatch (show x ∈ ([] : List (Nat × Instr × Nat × Nat)) from h)), by decide +kernel⟩
theorem zpx_259 (l : Launch) : zPx l 259 := ⟨fun x h => (nomatch (show x ∈ ([] : List (Nat × Instr × Nat × Nat)) from h)), by decide +kernel⟩
theorem zpx_260 (l : Launch) : zPx l 260 := ⟨fun x h => (nomatch (show x ∈ ([] : List (Nat × Instr × Nat × Nat)) from h)), by decide +kernel⟩
theorem zpx_261 (l : Launch) : zPx l 261 := ⟨fun x h => (nomatch (show x ∈ ([] : List (Nat × Instr × Nat × Nat)) from h)), by decide +kernel⟩
theorem zpx_262 (l : Launch) : zPx l 262 := ⟨fun x h => (nomatch (show x ∈ ([] : List (Nat × Instr × Nat × Nat)) from h)), by decide +kernel⟩
theorem zpx_263 (l : Launch) : zPx l 263 := ⟨fun x h => (nomatch (show x ∈ ([] : List (Nat × Instr × Nat × Nat)) from h)), by decide +kernel⟩
theorem zpx_264 (l : Launch) : zPx l 264 := ⟨fun x h => (nomatch (show x ∈ ([] : List (Nat × Instr × Nat × Nat)) from h)), by decide +kernel⟩
theorem zpx_265 (l : Launch) : zPx l 265 := ⟨fun x h => (nomatch (show x ∈ ([] : List (Nat × Instr × Nat × Nat)) from h)), by decide +kernel⟩
theorem zpx_266 (l : Launch) : zPx l 266 := ⟨(fun x hx => by
  rcases List.mem_append.mp (show x ∈ zs_266 ++ zo_266 from hx) with hx | hx
  · unfold zs_266 at hx
    rcases List.mem_cons.mp hx with rfl | hx
    · exact zxv_266_22 l
    cases hx
  · exact zxO zxc_266 zxw_266 zxb_266 x hx), by decide +kernel⟩
theorem zpx_267 (l : Launch) : zPx l 267 := ⟨(fun x hx => by
  rcases List.mem_append.mp (show x ∈ zs_267 ++ zo_267 from hx) with hx | hx
  · unfold zs_267 at hx
    rcases List.mem_cons.mp hx with rfl | hx
    · exact zxv_267_10 l
    rcases List.mem_cons.mp hx with rfl | hx
    · exact zxv_267_41 l
    cases hx
  · exact zxO zxc_267 zxw_267 zxb_267 x hx), by decide +kernel⟩
theorem zpx_268 (l : Launch) : zPx l 268 := ⟨(fun x hx => by
  rcases List.mem_append.mp (show x ∈ zs_268 ++ zo_268 from hx) with hx | hx
  · unfold zs_268 at hx
    rcases List.mem_cons.mp hx with rfl | hx
    · exact zxv_268_0 l
    cases hx
  · exact zxO zxc_268 zxw_268 zxb_268 x hx), by decide +kernel⟩
theorem zpx_269 (l : Launch) : zPx l 269 := ⟨(fun x hx => by
  rcases List.mem_append.mp (show x ∈ zs_269 ++ zo_269 from hx) with hx | hx
  · unfold zs_269 at hx
    rcases List.mem_cons.mp hx with rfl | hx
    · exact zxv_269_0 l
    cases hx
  · exact zxO zxc_269 zxw_269 zxb_269 x hx), by decide +kernel⟩
theorem zpx_270 (l : Launch) : zPx l 270 := ⟨(fun x hx => by
  rcases List.mem_append.mp (show x ∈ zs_270 ++ zo_270 from hx) with hx | hx
  · unfold zs_270 at hx
    rcases List.mem_cons.mp hx with rfl | hx
    · exact zxv_270_2 l
    cases hx
  · exact zxO zxc_270 zxw_270 zxb_270 x hx), by decide +kernel⟩
theorem zpx_271 (l : Launch) : zPx l 271 := ⟨(fun x hx => by
  rcases List.mem_append.mp (show x ∈ zs_271 ++ zo_271 from hx) with hx | hx
  · unfold zs_271 at hx
    rcases List.mem_cons.mp hx with rfl | hx
    · exact zxv_271_3 l
    cases hx
  · exact zxO zxc_271 zxw_271 zxb_271 x hx), by decide +kernel⟩
theorem zpx_272 (l : Launch) : zPx l 272 := ⟨(fun x hx => by
  rcases List.mem_append.mp (show x ∈ zs_272 ++ zo_272 from hx) with hx | hx
  · unfold zs_272 at hx
    rcases List.mem_cons.mp hx with rfl | hx
    · exact zxv_272_3 l
    cases hx
  · exact zxO zxc_272 zxw_272 zxb_272 x hx), by decide +kernel⟩
theorem zpx_273 (l : Launch) : zPx l 273 := ⟨fun x h => (nomatch (show x ∈ ([] : List (Nat × Instr × Nat × Nat)) from h)), by decide +kernel⟩
theorem zpx_274 (l : Launch) : zPx l 274 := ⟨(fun x hx => by
  rcases List.mem_append.mp (show x ∈ zs_274 ++ zo_274 from hx) with hx | hx
  · unfold zs_274 at hx
    rcases List.mem_cons.mp hx with rfl | hx
    · exact zxv_274_2 l
    cases hx
  · exact zxO zxc_274 zxw_274 zxb_274 x hx), by decide +kernel⟩
theorem zpx_275 (l : Launch) : zPx l 275 := ⟨(fun x hx => by
  rcases List.mem_append.mp (show x ∈ zs_275 ++ zo_275 from hx) with hx | hx
  · unfold zs_275 at hx
    rcases List.mem_cons.mp hx with rfl | hx
    · exact zxv_275_2 l
    cases hx
  · exact zxO zxc_275 zxw_275 zxb_275 x hx), by decide +kernel⟩
theorem zpx_276 (l : Launch) : zPx l 276 := ⟨(fun x hx => by
  rcases List.mem_append.mp (show x ∈ zs_276 ++ zo_276 from hx) with hx | hx
  · unfold zs_276 at hx
    rcases List.mem_cons.mp hx with rfl | hx
    · exact zxv_276_2 l
    cases hx
  · exact zxO zxc_276 zxw_276 zxb_276 x hx), by decide +kernel⟩
theorem zpx_277 (l : Launch) : zPx l 277 := ⟨fun x h => (nomatch (show x ∈ ([] : List (Nat × Instr × Nat × Nat)) from h)), by decide +kernel⟩
theorem zpx_278 (l : Launch) : zPx l 278 := ⟨(fun x hx => by
  rcases List.mem_append.mp (show x ∈ zs_278 ++ zo_278 from hx) with hx | hx
  · unfold zs_278 at hx
    rcases List.mem_cons.mp hx with rfl | hx
    · exact zxv_278_1 l
    cases hx
  · exact zxO zxc_278 zxw_278 zxb_278 x hx), by decide +kernel⟩
theorem zpx_279 (l : Launch) : zPx l 279 := ⟨fun x h => (nomatch (show x ∈ ([] : List (Nat × Instr × Nat × Nat)) from h)), by decide +kernel⟩
theorem zpx_280 (l : Launch) : zPx l 280 := ⟨fun x h => (nomatch (show x ∈ ([] : List (Nat × Instr × Nat × Nat)) from h)), by decide +kernel⟩
theorem zpx_281 (l : Launch) : zPx l 281 := ⟨fun x h => (nomatch (show x ∈ ([] : List (Nat × Instr × Nat × Nat)) from h)), by decide +kernel⟩
theorem zpx_282 (l : Launch) : zPx l 282 := ⟨fun x h => (nomatch (show x ∈ ([] : List (Nat × Instr × Nat × Nat)) from h)), by decide +kernel⟩
theorem zpx_283 (l : Launch) : zPx l 283 := ⟨fun x h => (nomatch (show x ∈ ([] : List (Nat × Instr × Nat × Nat)) from h)), by decide +kernel⟩
theorem zpx_284 (l : Launch) : zPx l 284 := ⟨fun x h => (nomatch (show x ∈ ([] : List (Nat × Instr × Nat × Nat)) from h)), by decide +kernel⟩
theorem zpx_285 (l : Launch) : zPx l 285 := ⟨fun x h => (nomatch (show x ∈ ([] : List (Nat × Instr × Nat × Nat)) from h)), by decide +kernel⟩
theorem zpx_286 (l : Launch) : zPx l 286 := ⟨fun x h => (nomatch (show x ∈ ([] : List (Nat × Instr × Nat × Nat)) from h)), by decide +kernel⟩
theorem zpx_287 (l : Launch) : zPx l 287 := ⟨fun x h => (nomatch (show x ∈ ([] : List (Nat × Instr × Nat × Nat)) from h)), by decide +kernel⟩
theorem zpx_288 (l : Launch) : zPx l 288 := ⟨fun x h => (nomatch (show x ∈ ([] : List (Nat × Instr × Nat × Nat)) from h)), by decide +kernel⟩
theorem zpx_289 (l : Launch) : zPx l 289 := ⟨fun x h => (nomatch (show x ∈ ([] : List (Nat × Instr × Nat × Nat)) from h)), by decide +kernel⟩
theorem zpx_290 (l : Launch) : zPx l 290 := ⟨fun x h => (nomatch (show x ∈ ([] : List (Nat × Instr × Nat × Nat)) from h)), by decide +kernel⟩
theorem zpx_291 (l : Launch) : zPx l 291 := ⟨fun x h => (nomatch (show x ∈ ([] : List (Nat × Instr × Nat × Nat)) from h)), by decide +kernel⟩
theorem zpx_292 (l : Launch) : zPx l 292 := ⟨fun x h => (nomatch (show x ∈ ([] : List (Nat × Instr × Nat × Nat)) from h)), by decide +kernel⟩
theorem zpx_293 (l : Launch) : zPx l 293 := ⟨fun x h => (nomatch (show x ∈ ([] : List (Nat × Instr × Nat × Nat)) from h)), by decide +kernel⟩
theorem zpx_294 (l : Launch) : zPx l 294 := ⟨fun x h => (nomatch (show x ∈ ([] : List (Nat × Instr × Nat × Nat)) from h)), by decide +kernel⟩
theorem zpx_295 (l : Launch) : zPx l 295 := ⟨fun x h => (nomatch (show x ∈ ([] : List (Nat × Instr × Nat × Nat)) from h)), by decide +kernel⟩
theorem zpx_296 (l : Launch) : zPx l 296 := ⟨fun x h => (nomatch (show x ∈ ([] : List (Nat × Instr × Nat × Nat)) from h)), by decide +kernel⟩
theorem zpx_297 (l : Launch) : zPx l 297 := ⟨fun x h => (nomatch (show x ∈ ([] : List (Nat × Instr × Nat × Nat)) from h)), by decide +kernel⟩
theorem zpx_298 (l : Launch) : zPx l 298 := ⟨fun x h => (nomatch (show x ∈ ([] : List (Nat × Instr × Nat × Nat)) from h)), by decide +kernel⟩
theorem zpx_299 (l : Launch) : zPx l 299 := ⟨fun x h => (nomatch (show x ∈ ([] : List (Nat × Instr × Nat × Nat)) from h)), by decide +kernel⟩
theorem zpx_300 (l : Launch) : zPx l 300 := ⟨(fun x hx => by
  have hx : x ∈ zo_300 := hx
  exact zxO zxc_300 zxw_300 zxb_300 x hx), by decide +kernel⟩
theorem zpx_301 (l : Launch) : zPx l 301 := ⟨(fun x hx => by
  rcases List.mem_append.mp (show x ∈ zs_301 ++ zo_301 from hx) with hx | hx
  · unfold zs_301 at hx
    rcases List.mem_cons.mp hx with rfl | hx
    · exact zxv_301_5 l
    cases hx
  · exact zxO zxc_301 zxw_301 zxb_301 x hx), by decide +kernel⟩
theorem zpx_302 (l : Launch) : zPx l 302 := ⟨(fun x hx => by
  rcases List.mem_append.mp (show x ∈ zs_302 ++ zo_302 from hx) with hx | hx
  · unfold zs_302 at hx
    rcases List.mem_cons.mp hx with rfl | hx
    · exact zxv_302_14 l
    rcases List.mem_cons.mp hx with rfl | hx
    · exact zxv_302_17 l
    cases hx
  · exact zxO zxc_302 zxw_302 zxb_302 x hx), by decide +kernel⟩
theorem zpx_303 (l : Launch) : zPx l 303 := ⟨fun x h => (nomatch (show x ∈ ([] : List (Nat × Instr × Nat × Nat)) from h)), by decide +kernel⟩
theorem zpx_304 (l : Launch) : zPx l 304 := ⟨fun x h => (nomatch (show x ∈ ([] : List (Nat × Instr × Nat × Nat)) from h)), by decide +kernel⟩
theorem zpx_305 (l : Launch) : zPx l 305 := ⟨fun x h => (nomatch (show x ∈ ([] : List (Nat × Instr × Nat × Nat)) from h)), by decide +kernel⟩
theorem zpx_306 (l : Launch) : zPx l 306 := ⟨fun x h => (nomatch (show x ∈ ([] : List (Nat × Instr × Nat × Nat)) from h)), by decide +kernel⟩
theorem zpx_307 (l : Launch) : zPx l 307 := ⟨fun x h => (nomatch (show x ∈ ([] : List (Nat × Instr × Nat × Nat)) from h)), by decide +kernel⟩
theorem zpx_308 (l : Launch) : zPx l 308 := ⟨fun x h => (nomatch (show x ∈ ([] : List (Nat × Instr × Nat × Nat)) from h)), by decide +kernel⟩
theorem zpx_309 (l : Launch) : zPx l 309 := ⟨(fun x hx => by
  rcases List.mem_append.mp (show x ∈ zs_309 ++ zo_309 from hx) with hx | hx
  · unfold zs_309 at hx
    rcases List.mem_cons.mp hx with rfl | hx
    · exact zxv_309_2 l
    rcases List.mem_cons.mp hx with rfl | hx
    · exact zxv_309_7 l
    cases hx
  · exact zxO zxc_309 zxw_309 zxb_309 x hx), by decide +kernel⟩
theorem zpx_310 (l : Launch) : zPx l 310 := ⟨(fun x hx => by
  rcases List.mem_append.mp (show x ∈ zs_310 ++ zo_310 from hx) with hx | hx
  · unfold zs_310 at hx
    rcases List.mem_cons.mp hx with rfl | hx
    · exact zxv_310_3 l
    cases hx
  · exact zxO zxc_310 zxw_310 zxb_310 x hx), by decide +kernel⟩
theorem zpx_311 (l : Launch) : zPx l 311 := ⟨(fun x hx => by
  rcases List.mem_append.mp (show x ∈ zs_311 ++ zo_311 from hx) with hx | hx
  · unfold zs_311 at hx
    rcases List.mem_cons.mp hx with rfl | hx
    · exact zxv_311_1 l
    rcases List.mem_cons.mp hx with rfl | hx
    · exact zxv_311_3 l
    rcases List.mem_cons.mp hx with rfl | hx
    · exact zxv_311_21 l
    rcases List.mem_cons.mp hx with rfl | hx
    · exact zxv_311_35 l
    cases hx
  · exact zxO zxc_311 zxw_311 zxb_311 x hx), by decide +kernel⟩
theorem zpx_312 (l : Launch) : zPx l 312 := ⟨(fun x hx => by
  rcases List.mem_append.mp (show x ∈ zs_312 ++ zo_312 from hx) with hx | hx
  · unfold zs_312 at hx
    rcases List.mem_cons.mp hx with rfl | hx
    · exact zxv_312_7 l
    rcases List.mem_cons.mp hx with rfl | hx
    · exact zxv_312_10 l
    rcases List.mem_cons.mp hx with rfl | hx
    · exact zxv_312_28 l
    cases hx
  · exact zxO zxc_312 zxw_312 zxb_312 x hx), by decide +kernel⟩
theorem zpx_313 (l : Launch) : zPx l 313 := ⟨(fun x hx => by
  have hx : x ∈ zo_313 := hx
  exact zxO zxc_313 zxw_313 zxb_313 x hx), by decide +kernel⟩
theorem zpx_314 (l : Launch) : zPx l 314 := ⟨(fun x hx => by
  rcases List.mem_append.mp (show x ∈ zs_314 ++ zo_314 from hx) with hx | hx
  · unfold zs_314 at hx
    rcases List.mem_cons.mp hx with rfl | hx
    · exact zxv_314_18 l
    rcases List.mem_cons.mp hx with rfl | hx
    · exact zxv_314_21 l
    cases hx
  · exact zxO zxc_314 zxw_314 zxb_314 x hx), by decide +kernel⟩
theorem zpx_315 (l : Launch) : zPx l 315 := ⟨(fun x hx => by
  rcases List.mem_append.mp (show x ∈ zs_315 ++ zo_315 from hx) with hx | hx
  · unfold zs_315 at hx
    rcases List.mem_cons.mp hx with rfl | hx
    · exact zxv_315_27 l
    cases hx
  · exact zxO zxc_315 zxw_315 zxb_315 x hx), by decide +kernel⟩
theorem zpx_316 (l : Launch) : zPx l 316 := ⟨fun x h => (nomatch (show x ∈ ([] : List (Nat × Instr × Nat × Nat)) from h)), by decide +kernel⟩
theorem zpx_317 (l : Launch) : zPx l 317 := ⟨fun x h => (nomatch (show x ∈ ([] : List (Nat × Instr × Nat × Nat)) from h)), by decide +kernel⟩
theorem zpx_318 (l : Launch) : zPx l 318 := ⟨(fun x hx => by
  have hx : x ∈ zo_318 := hx
  exact zxO zxc_318 zxw_318 zxb_318 x hx), by decide +kernel⟩
theorem zpx_319 (l : Launch) : zPx l 319 := ⟨(fun x hx => by
  have hx : x ∈ zo_319 := hx
  exact zxO zxc_319 zxw_319 zxb_319 x hx), by decide +kernel⟩
theorem zpx_320 (l : Launch) : zPx l 320 := ⟨(fun x hx => by
  have hx : x ∈ zo_320 := hx
  exact zxO zxc_320 zxw_320 zxb_320 x hx), by decide +kernel⟩
theorem zpx_321 (l : Launch) : zPx l 321 := ⟨(fun x hx => by
  have hx : x ∈ zo_321 := hx
  exact zxO zxc_321 zxw_321 zxb_321 x hx), by decide +kernel⟩
theorem zpxc_0 (l : Launch) : ∀ i, i < 16 → zPx l (0 + i)
  | 0, _ => zpx_0 l
  | 1, _ => zpx_1 l
  | 2, _ => zpx_2 l
  | 3, _ => zpx_3 l
  | 4, _ => zpx_4 l
  | 5, _ => zpx_5 l
  | 6, _ => zpx_6 l
  | 7, _ => zpx_7 l
  | 8, _ => zpx_8 l
  | 9, _ => zpx_9 l
  | 10, _ => zpx_10 l
  | 11, _ => zpx_11 l
  | 12, _ => zpx_12 l
  | 13, _ => zpx_13 l
  | 14, _ => zpx_14 l
  | 15, _ => zpx_15 l
  | i + 16, h => absurd h (by omega)
theorem zpxc_1 (l : Launch) : ∀ i, i < 16 → zPx l (16 + i)
  | 0, _ => zpx_16 l
  | 1, _ => zpx_17 l
  | 2, _ => zpx_18 l
  | 3, _ => zpx_19 l
  | 4, _ => zpx_20 l
  | 5, _ => zpx_21 l
  | 6, _ => zpx_22 l
  | 7, _ => zpx_23 l
  | 8, _ => zpx_24 l
  | 9, _ => zpx_25 l
  | 10, _ => zpx_26 l
  | 11, _ => zpx_27 l
  | 12, _ => zpx_28 l
  | 13, _ => zpx_29 l
  | 14, _ => zpx_30 l
  | 15, _ => zpx_31 l
  | i + 16, h => absurd h (by omega)
theorem zpxc_2 (l : Launch) : ∀ i, i < 16 → zPx l (32 + i)
  | 0, _ => zpx_32 l
  | 1, _ => zpx_33 l
  | 2, _ => zpx_34 l
  | 3, _ => zpx_35 l
  | 4, _ => zpx_36 l
  | 5, _ => zpx_37 l
  | 6, _ => zpx_38 l
  | 7, _ => zpx_39 l
  | 8, _ => zpx_40 l
  | 9, _ => zpx_41 l
  | 10, _ => zpx_42 l
  | 11, _ => zpx_43 l
  | 12, _ => zpx_44 l
  | 13, _ => zpx_45 l
  | 14, _ => zpx_46 l
  | 15, _ => zpx_47 l
  | i + 16, h => absurd h (by omega)
theorem zpxc_3 (l : Launch) : ∀ i, i < 16 → zPx l (48 + i)
  | 0, _ => zpx_48 l
  | 1, _ => zpx_49 l
  | 2, _ => zpx_50 l
  | 3, _ => zpx_51 l
  | 4, _ => zpx_52 l
  | 5, _ => zpx_53 l
  | 6, _ => zpx_54 l
  | 7, _ => zpx_55 l
  | 8, _ => zpx_56 l
  | 9, _ => zpx_57 l
  | 10, _ => zpx_58 l
  | 11, _ => zpx_59 l
  | 12, _ => zpx_60 l
  | 13, _ => zpx_61 l
  | 14, _ => zpx_62 l
  | 15, _ => zpx_63 l
  | i + 16, h => absurd h (by omega)
theorem zpxc_4 (l : Launch) : ∀ i, i < 16 → zPx l (64 + i)
  | 0, _ => zpx_64 l
  | 1, _ => zpx_65 l
  | 2, _ => zpx_66 l
  | 3, _ => zpx_67 l
  | 4, _ => zpx_68 l
  | 5, _ => zpx_69 l
  | 6, _ => zpx_70 l
  | 7, _ => zpx_71 l
  | 8, _ => zpx_72 l
  | 9, _ => zpx_73 l
  | 10, _ => zpx_74 l
  | 11, _ => zpx_75 l
  | 12, _ => zpx_76 l
  | 13, _ => zpx_77 l
  | 14, _ => zpx_78 l
  | 15, _ => zpx_79 l
  | i + 16, h => absurd h (by omega)
theorem zpxc_5 (l : Launch) : ∀ i, i < 16 → zPx l (80 + i)
  | 0, _ => zpx_80 l
  | 1, _ => zpx_81 l
  | 2, _ => zpx_82 l
  | 3, _ => zpx_83 l
  | 4, _ => zpx_84 l
  | 5, _ => zpx_85 l
  | 6, _ => zpx_86 l
  | 7, _ => zpx_87 l
  | 8, _ => zpx_88 l
  | 9, _ => zpx_89 l
  | 10, _ => zpx_90 l
  | 11, _ => zpx_91 l
  | 12, _ => zpx_92 l
  | 13, _ => zpx_93 l
  | 14, _ => zpx_94 l
  | 15, _ => zpx_95 l
  | i + 16, h => absurd h (by omega)
theorem zpxc_6 (l : Launch) : ∀ i, i < 16 → zPx l (96 + i)
  | 0, _ => zpx_96 l
  | 1, _ => zpx_97 l
  | 2, _ => zpx_98 l
  | 3, _ => zpx_99 l
  | 4, _ => zpx_100 l
  | 5, _ => zpx_101 l
  | 6, _ => zpx_102 l
  | 7, _ => zpx_103 l
  | 8, _ => zpx_104 l
  | 9, _ => zpx_105 l
  | 10, _ => zpx_106 l
  | 11, _ => zpx_107 l
  | 12, _ => zpx_108 l
  | 13, _ => zpx_109 l
  | 14, _ => zpx_110 l
  | 15, _ => zpx_111 l
  | i + 16, h => absurd h (by omega)
theorem zpxc_7 (l : Launch) : ∀ i, i < 16 → zPx l (112 + i)
  | 0, _ => zpx_112 l
  | 1, _ => zpx_113 l
  | 2, _ => zpx_114 l
  | 3, _ => zpx_115 l
  | 4, _ => zpx_116 l
  | 5, _ => zpx_117 l
  | 6, _ => zpx_118 l
  | 7, _ => zpx_119 l
  | 8, _ => zpx_120 l
  | 9, _ => zpx_121 l
  | 10, _ => zpx_122 l
  | 11, _ => zpx_123 l
  | 12, _ => zpx_124 l
  | 13, _ => zpx_125 l
  | 14, _ => zpx_126 l
  | 15, _ => zpx_127 l
  | i + 16, h => absurd h (by omega)
theorem zpxc_8 (l : Launch) : ∀ i, i < 16 → zPx l (128 + i)
  | 0, _ => zpx_128 l
  | 1, _ => zpx_129 l
  | 2, _ => zpx_130 l
  | 3, _ => zpx_131 l
  | 4, _ => zpx_132 l
  | 5, _ => zpx_133 l
  | 6, _ => zpx_134 l
  | 7, _ => zpx_135 l
  | 8, _ => zpx_136 l
  | 9, _ => zpx_137 l
  | 10, _ => zpx_138 l
  | 11, _ => zpx_139 l
  | 12, _ => zpx_140 l
  | 13, _ => zpx_141 l
  | 14, _ => zpx_142 l
  | 15, _ => zpx_143 l
  | i + 16, h => absurd h (by omega)
theorem zpxc_9 (l : Launch) : ∀ i, i < 16 → zPx l (144 + i)
  | 0, _ => zpx_144 l
  | 1, _ => zpx_145 l
  | 2, _ => zpx_146 l
  | 3, _ => zpx_147 l
  | 4, _ => zpx_148 l
  | 5, _ => zpx_149 l
  | 6, _ => zpx_150 l
  | 7, _ => zpx_151 l
  | 8, _ => zpx_152 l
  | 9, _ => zpx_153 l
  | 10, _ => zpx_154 l
  | 11, _ => zpx_155 l
  | 12, _ => zpx_156 l
  | 13, _ => zpx_157 l
  | 14, _ => zpx_158 l
  | 15, _ => zpx_159 l
  | i + 16, h => absurd h (by omega)
theorem zpxc_10 (l : Launch) : ∀ i, i < 16 → zPx l (160 + i)
  | 0, _ => zpx_160 l
  | 1, _ => zpx_161 l
  | 2, _ => zpx_162 l
  | 3, _ => zpx_163 l
  | 4, _ => zpx_164 l
  | 5, _ => zpx_165 l
  | 6, _ => zpx_166 l
  | 7, _ => zpx_167 l
  | 8, _ => zpx_168 l
  | 9, _ => zpx_169 l
  | 10, _ => zpx_170 l
  | 11, _ => zpx_171 l
  | 12, _ => zpx_172 l
  | 13, _ => zpx_173 l
  | 14, _ => zpx_174 l
  | 15, _ => zpx_175 l
  | i + 16, h => absurd h (by omega)
theorem zpxc_11 (l : Launch) : ∀ i, i < 16 → zPx l (176 + i)
  | 0, _ => zpx_176 l
  | 1, _ => zpx_177 l
  | 2, _ => zpx_178 l
  | 3, _ => zpx_179 l
  | 4, _ => zpx_180 l
  | 5, _ => zpx_181 l
  | 6, _ => zpx_182 l
  | 7, _ => zpx_183 l
  | 8, _ => zpx_184 l
  | 9, _ => zpx_185 l
  | 10, _ => zpx_186 l
  | 11, _ => zpx_187 l
  | 12, _ => zpx_188 l
  | 13, _ => zpx_189 l
  | 14, _ => zpx_190 l
  | 15, _ => zpx_191 l
  | i + 16, h => absurd h (by omega)
theorem zpxc_12 (l : Launch) : ∀ i, i < 16 → zPx l (192 + i)
  | 0, _ => zpx_192 l
  | 1, _ => zpx_193 l
  | 2, _ => zpx_194 l
  | 3, _ => zpx_195 l
  | 4, _ => zpx_196 l
  | 5, _ => zpx_197 l
  | 6, _ => zpx_198 l
  | 7, _ => zpx_199 l
  | 8, _ => zpx_200 l
  | 9, _ => zpx_201 l
  | 10, _ => zpx_202 l
  | 11, _ => zpx_203 l
  | 12, _ => zpx_204 l
  | 13, _ => zpx_205 l
  | 14, _ => zpx_206 l
  | 15, _ => zpx_207 l
  | i + 16, h => absurd h (by omega)
theorem zpxc_13 (l : Launch) : ∀ i, i < 16 → zPx l (208 + i)
  | 0, _ => zpx_208 l
  | 1, _ => zpx_209 l
  | 2, _ => zpx_210 l
  | 3, _ => zpx_211 l
  | 4, _ => zpx_212 l
  | 5, _ => zpx_213 l
  | 6, _ => zpx_214 l
  | 7, _ => zpx_215 l
  | 8, _ => zpx_216 l
  | 9, _ => zpx_217 l
  | 10, _ => zpx_218 l
  | 11, _ => zpx_219 l
  | 12, _ => zpx_220 l
  | 13, _ => zpx_221 l
  | 14, _ => zpx_222 l
  | 15, _ => zpx_223 l
  | i + 16, h => absurd h (by omega)
theorem zpxc_14 (l : Launch) : ∀ i, i < 16 → zPx l (224 + i)
  | 0, _ => zpx_224 l
  | 1, _ => zpx_225 l
  | 2, _ => zpx_226 l
  | 3, _ => zpx_227 l
  | 4, _ => zpx_228 l
  | 5, _ => zpx_229 l
  | 6, _ => zpx_230 l
  | 7, _ => zpx_231 l
  | 8, _ => zpx_232 l
  | 9, _ => zpx_233 l
  | 10, _ => zpx_234 l
  | 11, _ => zpx_235 l
  | 12, _ => zpx_236 l
  | 13, _ => zpx_237 l
  | 14, _ => zpx_238 l
  | 15, _ => zpx_239 l
  | i + 16, h => absurd h (by omega)
theorem zpxc_15 (l : Launch) : ∀ i, i < 16 → zPx l (240 + i)
  | 0, _ => zpx_240 l
  | 1, _ => zpx_241 l
  | 2, _ => zpx_242 l
  | 3, _ => zpx_243 l
  | 4, _ => zpx_244 l
  | 5, _ => zpx_245 l
  | 6, _ => zpx_246 l
  | 7, _ => zpx_247 l
  | 8, _ => zpx_248 l
  | 9, _ => zpx_249 l
  | 10, _ => zpx_250 l
  | 11, _ => zpx_251 l
  | 12, _ => zpx_252 l
  | 13, _ => zpx_253 l
  | 14, _ => zpx_254 l
  | 15, _ => zpx_255 l
  | i + 16, h => absurd h (by omega)
theorem zpxc_16 (l : Launch) : ∀ i, i < 16 → zPx l (256 + i)
  | 0, _ => zpx_256 l
  | 1, _ => zpx_257 l
  | 2, _ => zpx_258 l
  | 3, _ => zpx_259 l
  | 4, _ => zpx_260 l
  | 5, _ => zpx_261 l
  | 6, _ => zpx_262 l
  | 7, _ => zpx_263 l
  | 8, _ => zpx_264 l
  | 9, _ => zpx_265 l
  | 10, _ => zpx_266 l
  | 11, _ => zpx_267 l
  | 12, _ => zpx_268 l
  | 13, _ => zpx_269 l
  | 14, _ => zpx_270 l
  | 15, _ => zpx_271 l
  | i + 16, h => absurd h (by omega)
theorem zpxc_17 (l : Launch) : ∀ i, i < 16 → zPx l (272 + i)
  | 0, _ => zpx_272 l
  | 1, _ => zpx_273 l
  | 2, _ => zpx_274 l
  | 3, _ => zpx_275 l
  | 4, _ => zpx_276 l
  | 5, _ => zpx_277 l
  | 6, _ => zpx_278 l
  | 7, _ => zpx_279 l
  | 8, _ => zpx_280 l
  | 9, _ => zpx_281 l
  | 10, _ => zpx_282 l
  | 11, _ => zpx_283 l
  | 12, _ => zpx_284 l
  | 13, _ => zpx_285 l
  | 14, _ => zpx_286 l
  | 15, _ => zpx_287 l
  | i + 16, h => absurd h (by omega)
theorem zpxc_18 (l : Launch) : ∀ i, i < 16 → zPx l (288 + i)
  | 0, _ => zpx_288 l
  | 1, _ => zpx_289 l
  | 2, _ => zpx_290 l
  | 3, _ => zpx_291 l
  | 4, _ => zpx_292 l
  | 5, _ => zpx_293 l
  | 6, _ => zpx_294 l
  | 7, _ => zpx_295 l
  | 8, _ => zpx_296 l
  | 9, _ => zpx_297 l
  | 10, _ => zpx_298 l
  | 11, _ => zpx_299 l
  | 12, _ => zpx_300 l
  | 13, _ => zpx_301 l
  | 14, _ => zpx_302 l
  | 15, _ => zpx_303 l
  | i + 16, h => absurd h (by omega)
theorem zpxc_19 (l : Launch) : ∀ i, i < 16 → zPx l (304 + i)
  | 0, _ => zpx_304 l
  | 1, _ => zpx_305 l
  | 2, _ => zpx_306 l
  | 3, _ => zpx_307 l
  | 4, _ => zpx_308 l
  | 5, _ => zpx_309 l
  | 6, _ => zpx_310 l
  | 7, _ => zpx_311 l
  | 8, _ => zpx_312 l
  | 9, _ => zpx_313 l
  | 10, _ => zpx_314 l
  | 11, _ => zpx_315 l
  | 12, _ => zpx_316 l
  | 13, _ => zpx_317 l
  | 14, _ => zpx_318 l
  | 15, _ => zpx_319 l
  | i + 16, h => absurd h (by omega)
theorem zpxc_20 (l : Launch) : ∀ i, i < 2 → zPx l (320 + i)
  | 0, _ => zpx_320 l
  | 1, _ => zpx_321 l
  | i + 2, h => absurd h (by omega)
theorem zpxAll (l : Launch) (j : Nat) (hj : j < 322) : zPx l j := by
  rcases Nat.lt_or_ge j 16 with h0 | h0
  · have h := zpxc_0 l (j - 0) (by omega)
    rw [show 0 + (j - 0) = j by omega] at h
    exact h
  rcases Nat.lt_or_ge j 32 with h1 | h1
  · have h := zpxc_1 l (j - 16) (by omega)
    rw [show 16 + (j - 16) = j by omega] at h
    exact h
  rcases Nat.lt_or_ge j 48 with h2 | h2
  · have h := zpxc_2 l (j - 32) (by omega)
    rw [show 32 + (j - 32) = j by omega] at h
    exact h
  rcases Nat.lt_or_ge j 64 with h3 | h3
  · have h := zpxc_3 l (j - 48) (by omega)
    rw [show 48 + (j - 48) = j by omega] at h
    exact h
  rcases Nat.lt_or_ge j 80 with h4 | h4
  · have h := zpxc_4 l (j - 64) (by omega)
    rw [show 64 + (j - 64) = j by omega] at h
    exact h
  rcases Nat.lt_or_ge j 96 with h5 | h5
  · have h := zpxc_5 l (j - 80) (by omega)
    rw [show 80 + (j - 80) = j by omega] at h
    exact h
  rcases Nat.lt_or_ge j 112 with h6 | h6
  · have h := zpxc_6 l (j - 96) (by omega)
    rw [show 96 + (j - 96) = j by omega] at h
    exact h
  rcases Nat.lt_or_ge j 128 with h7 | h7
  · have h := zpxc_7 l (j - 112) (by omega)
    rw [show 112 + (j - 112) = j by omega] at h
    exact h
  rcases Nat.lt_or_ge j 144 with h8 | h8
  · have h := zpxc_8 l (j - 128) (by omega)
    rw [show 128 + (j - 128) = j by omega] at h
    exact h
  rcases Nat.lt_or_ge j 160 with h9 | h9
  · have h := zpxc_9 l (j - 144) (by omega)
    rw [show 144 + (j - 144) = j by omega] at h
    exact h
  rcases Nat.lt_or_ge j 176 with h10 | h10
  · have h := zpxc_10 l (j - 160) (by omega)
    rw [show 160 + (j - 160) = j by omega] at h
    exact h
  rcases Nat.lt_or_ge j 192 with h11 | h11
  · have h := zpxc_11 l (j - 176) (by omega)
    rw [show 176 + (j - 176) = j by omega] at h
    exact h
  rcases Nat.lt_or_ge j 208 with h12 | h12
  · have h := zpxc_12 l (j - 192) (by omega)
    rw [show 192 + (j - 192) = j by omega] at h
    exact h
  rcases Nat.lt_or_ge j 224 with h13 | h13
  · have h := zpxc_13 l (j - 208) (by omega)
    rw [show 208 + (j - 208) = j by omega] at h
    exact h
  rcases Nat.lt_or_ge j 240 with h14 | h14
  · have h := zpxc_14 l (j - 224) (by omega)
    rw [show 224 + (j - 224) = j by omega] at h
    exact h
  rcases Nat.lt_or_ge j 256 with h15 | h15
  · have h := zpxc_15 l (j - 240) (by omega)
    rw [show 240 + (j - 240) = j by omega] at h
    exact h
  rcases Nat.lt_or_ge j 272 with h16 | h16
  · have h := zpxc_16 l (j - 256) (by omega)
    rw [show 256 + (j - 256) = j by omega] at h
    exact h
  rcases Nat.lt_or_ge j 288 with h17 | h17
  · have h := zpxc_17 l (j - 272) (by omega)
    rw [show 272 + (j - 272) = j by omega] at h
    exact h
  rcases Nat.lt_or_ge j 304 with h18 | h18
  · have h := zpxc_18 l (j - 288) (by omega)
    rw [show 288 + (j - 288) = j by omega] at h
    exact h
  rcases Nat.lt_or_ge j 320 with h19 | h19
  · have h := zpxc_19 l (j - 304) (by omega)
    rw [show 304 + (j - 304) = j by omega] at h
    exact h
  rcases Nat.lt_or_ge j 322 with h20 | h20
  · have h := zpxc_20 l (j - 320) (by omega)
    rw [show 320 + (j - 320) = j by omega] at h
    exact h
  omega
theorem ztab_big {j : Nat} (h : ¬ j < 322) : ztab j = [] := by
  unfold ztab
  by_cases e : j / 16 = 20
  · rw [e]
    have h2 : 2 ≤ j % 16 := by omega
    show (zts_20).getD (j % 16) [] = []
    rw [List.getD_eq_getElem?_getD, List.getElem?_eq_none (by show 2 ≤ _; exact h2)]
    rfl
  · rw [List.getD_eq_getElem?_getD (l := zts), List.getElem?_eq_none (l := zts) (by show 21 ≤ _; omega)]
    rfl
theorem zxtab_big {j : Nat} (h : ¬ j < 322) : zxtab j = [] := by
  unfold zxtab
  by_cases e : j / 16 = 20
  · rw [e]
    have h2 : 2 ≤ j % 16 := by omega
    show (zxs_20).getD (j % 16) [] = []
    rw [List.getD_eq_getElem?_getD, List.getElem?_eq_none (by show 2 ≤ _; exact h2)]
    rfl
  · rw [List.getD_eq_getElem?_getD (l := zxs), List.getElem?_eq_none (l := zxs) (by show 21 ≤ _; omega)]
    rfl
theorem zVal_ok (l : Launch) (hl : l.stackTraces = false) : zVal l zrx zi := by
  have hrow : ∀ j pc i a b, zr j pc = some (i, a, b) → j < 322 ∧ (pc, i, a, b) ∈ ztab j := by
    intro j pc i a b h
    by_cases hj : j < 322
    · exact ⟨hj, zfind_mem h⟩
    · unfold zr at h
      rw [ztab_big hj] at h
      cases h
  have old : ∀ j pc i a b, zr j pc = some (i, a, b) → b < 5000 → zVr l zi j pc i a b := by
    intro j pc i a b h hb
    obtain ⟨hj, hm⟩ := hrow j pc i a b h
    obtain ⟨h1, h2, h3, h4, h5⟩ := zpAll l hl j hj
    have h6 := List.all_eq_true.mp h1 _ hm
    unfold zRowOk at h6
    obtain ⟨h7, h8⟩ := Bool.and_eq_true_iff.mp h6
    have hw : ∀ w ∈ zNd zi j i a b, zWd w := fun w hw => h2 w (List.mem_flatMap.mpr ⟨_, hm, hw⟩)
    rcases Bool.or_eq_true_iff.mp h8 with q | q
    · have hk : zKd i a b = 5 := by simpa using q
      refine ⟨zDcd_ok h7, ?_⟩
      rw [zKe_lt hb, hk]
      have h9 := h5 (pc, i, a, b) hm hk
      dsimp only at h9
      exact h9
    · exact zVr_of hb h7 q hw
  have hx : ∀ j pc y, zrx j pc = some y → j < 322 ∧ (zfind pc (zxtab j) = some y ∨ (zr j pc = some y ∧ y.2.2 < 5000)) := by
    intro j pc y h
    unfold zrx at h
    split at h
    · rename_i z hz
      cases h
      refine ⟨?_, Or.inl hz⟩
      by_cases hj : j < 322
      · exact hj
      · rw [zxtab_big hj] at hz
        cases hz
    · split at h
      · rename_i i a b hz
        split at h
        · rename_i hb
          cases h
          exact ⟨(hrow _ _ _ _ _ hz).1, Or.inr ⟨hz, hb⟩⟩
        · cases h
      · cases h
  refine ⟨?_, ?_, ?_, ?_, ?_⟩
  · intro j pc i a b h
    obtain ⟨hj, q | ⟨q, hb⟩⟩ := hx j pc _ h
    · have h9 := (zpxAll l j hj).1 (pc, i, a, b) (zfind_mem q)
      dsimp only at h9
      exact h9
    · exact old j pc i a b q hb
  · intro j h
    cases hz : zrx j 0 with
    | none => exact absurd hz h
    | some y => exact (zpAll l hl j (hx j 0 y hz).1).2.2.1
  · intro j pc h
    cases hz : zrx j pc with
    | none => exact absurd hz h
    | some y =>
      obtain ⟨hj, q⟩ := hx j pc y hz
      have h4 := (zpxAll l j hj).2
      rcases Bool.or_eq_true_iff.mp h4 with h4 | h4
      · intro z
        rw [z] at h4
        cases h4
      · obtain ⟨h5, h6⟩ := Bool.and_eq_true_iff.mp h4
        rcases q with q | ⟨q, -⟩
        · have hm := zfind_mem q
          cases ht : zxtab j with
          | nil => rw [ht] at hm; cases hm
          | cons x r => rw [ht] at h6; cases h6
        · have hm := zfind_mem q
          cases ht : ztab j with
          | nil => rw [ht] at hm; cases hm
          | cons x r => rw [ht] at h5; cases h5
  · exact zPls_ok (l := [.instanceMethod objectInit]) [117] (by decide +kernel) (by decide +kernel) _ List.mem_cons_self
  · exact zPls_ok (l := [.code objectInit ⟨#[0xb1]⟩ 1 none]) [118] (by decide +kernel) (by decide +kernel) _ List.mem_cons_self
