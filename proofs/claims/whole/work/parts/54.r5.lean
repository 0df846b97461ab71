set_option maxHeartbeats 4000000 in
set_option maxRecDepth 100000 in
theorem r_midpoints (l : Launch) (D : va_G) (cD cI cM cL : ClassId) (A : Nat → Nat) (σ : Sys) (th : Int32) (t sh tl er : UInt64) (fl kp : Int32) (ks : UInt64) (tk : Int32) (tz sp : UInt64) (wd : Int32) (lv : UInt64) (dn rf ev : Int32) (aI : Nat) (y va vu vw vI : Nat → UInt64) (r : UInt64) (mm S : Nat) (hk : okst σ t y r) (hs : bd 1 S (mst r mm)) (hS1 : S ≤ 1) (hm : 1 ≤ mm ∧ mm - 1 ≤ 3) (hB : ∀ q, q ≤ mm - 1 → 2 * mB S q + 13 ≤ 1000) : Met l yX7_midpoints (Cond.code yX7_midpoints cX7_midpoints 11 none :: lw_good) { frames := 2, cells := 0, slots := 0, locals := 51 } (xPc D (tyL cD cI cM cL) [.ref (A 0), .double r, .int (nI mm), .ref aI] [(A 0, mO A th (nI (sn σ)) (nI (sc σ)) t sh tl er fl kp ks tk tz sp wd lv dn rf ev), (A 1, iA cI 10 (so σ)), (A 2, iA cI 10 (sl σ)), (A 3, iA cI 10 (sr σ)), (A 4, dA cD 10 (sk σ)), (A 5, dA cD 3 y), (A 7, dA cD 3 va), (A 11, dA cD 3 vu), (A 12, dA cD 3 vw), (aI, dA cD 3 vI)]) (xQ D [A 7, A 11, A 12, aI] (fun (u : (Nat → UInt64) × (Nat → UInt64) × (Nat → UInt64)) => none) (fun (u : (Nat → UInt64) × (Nat → UInt64) × (Nat → UInt64)) => True) (fun (u : (Nat → UInt64) × (Nat → UInt64) × (Nat → UInt64)) => [(A 7, dA cD 3 u.1), (A 11, dA cD 3 u.2.1), (A 12, dA cD 3 u.2.2), (aI, dA cD 3 (mix (sn σ) (mie σ t y r mm) vI))])) 0 0 (fun q => q ∈ ([A 7, A 11, A 12, aI] : List Nat)) := by
  refine xofW (adr := [A 7, A 11, A 12, aI]) (by decide) (Nat.le_of_ble_eq_true rfl) ?_
  intro p e s m below meth c ls hx hb hr hml hg hown hlk hI hP hd hS hl
  have hown : s.vm.findClass RX7 = some m.cls := hown
  have hd : dj [A 0, A 1, A 2, A 3, A 4, A 5, A 7, A 11, A 12, aI] := hd
  have hl : lv_has ls 11 [(0, .ref (A 0)), (1, .double r), (3, .int (nI mm)), (4, .ref aI)] := hl
  have hn : sn σ ≤ 3 := hk.1.2.1
  refine lv_dload_n hx hb dX7_midpoints_0 rfl (lv_at hl 1 rfl) ?_
  refine lv_iload_n hx hb dX7_midpoints_1 rfl (lv_at hl 2 rfl) ?_
  refine lv_i2d hx hb dX7_midpoints_2 ?_
  refine lv_ddiv hx hb dX7_midpoints_3 hs.nn ?_
  refine lv_dstore (lv' := [(5, .double (mst r mm)), (0, .ref (A 0)), (1, .double r), (3, .int (nI mm)), (4, .ref aI)]) hx hb dX7_midpoints_4 hl (by decide) rfl (fun ls hl => ?_)
  refine lv_aload_n hx hb dX7_midpoints_6 rfl (lv_at hl 1 rfl) ?_
  refine lv_aload_n hx hb dX7_midpoints_7 rfl (lv_at hl 1 rfl) ?_
  refine gX7 hx hb hg hown hI hP 0 rfl 7 rfl mF_X7_98 rfl dX7_midpoints_8 ?_
  refine lv_aload_n hx hb dX7_midpoints_11 rfl (lv_at hl 1 rfl) ?_
  refine gX7 hx hb hg hown hI hP 0 rfl 10 rfl mF_X7_36 rfl dX7_midpoints_12 ?_
  refine lv_aload_n hx hb dX7_midpoints_15 rfl (lv_at hl 1 rfl) ?_
  refine gX7 hx hb hg hown hI hP 0 rfl 14 rfl mF_X7_42 rfl dX7_midpoints_16 ?_
  refine xcv (xV (As := [.double t, .ref (A 5), .ref (A 7)]) (rest := []) hx hb hml hown hg (r_derive l D cD cI cM cL A σ th t sh tl er fl kp ks tk tz sp wd lv dn rf ev (A 5) (A 7) (t) (y) (va) 20 hk.1 (hk.2.1.up (by decide)) hk.2.2.2 (by omega)) mM_X7_101 ok_X7_derive rfl rfl ⟨Nat.le_of_ble_eq_true rfl, Nat.le_of_ble_eq_true rfl⟩ hI hP hd rfl [0, 1, 2, 3, 4, 5, 6] rfl rfl rfl rfl rfl hl.1 rfl (Nat.le_of_ble_eq_true rfl) dX7_midpoints_19 ⟨Nat.zero_le _, Nat.zero_le _⟩) hP hd hS (fa1 pm0 fa0) [6] rfl rfl (fun _ => rfl) (fun _u H locs hu hP hS => ?_)
  have hP : va_P D vwCl [(A 0, mO A th (nI (sn σ)) (nI (sc σ)) t sh tl er fl kp ks tk tz sp wd lv dn rf ev), (A 1, iA cI 10 (so σ)), (A 2, iA cI 10 (sl σ)), (A 3, iA cI 10 (sr σ)), (A 4, dA cD 10 (sk σ)), (A 5, dA cD 3 y), (A 7, dA cD 3 (mix (sn σ) (fs σ (t) (y)) (va))), (A 11, dA cD 3 vu), (A 12, dA cD 3 vw), (aI, dA cD 3 vI)] H := hP
  refine lv_iconst (v := nI 0) hx hb dX7_midpoints_22 (by decide) ?_
  refine lv_istore (lv' := [(7, .int (nI 0)), (5, .double (mst r mm)), (0, .ref (A 0)), (1, .double r), (3, .int (nI mm)), (4, .ref aI)]) hx hb dX7_midpoints_23 hl (by decide) rfl (fun ls hl => ?_)
  refine xfor (I := fun i H locs ls => ∃ (f' : Nat → UInt64) (g' : Nat → UInt64), (f' = mix i y vu) ∧ (g' = mix i (mv y (mst r mm) (fs σ t y)) vw) ∧ va_P D vwCl [(A 0, mO A th (nI (sn σ)) (nI (sc σ)) t sh tl er fl kp ks tk tz sp wd lv dn rf ev), (A 1, iA cI 10 (so σ)), (A 2, iA cI 10 (sl σ)), (A 3, iA cI 10 (sr σ)), (A 4, dA cD 10 (sk σ)), (A 5, dA cD 3 y), (A 7, dA cD 3 (mix (sn σ) (fs σ (t) (y)) (va))), (A 11, dA cD 3 f'), (A 12, dA cD 3 g'), (aI, dA cD 3 vI)] H ∧ va_S (fun q => q ∈ ([A 7, A 11, A 12, aI] : List Nat)) s.heap H locs ∧ lv_has ls 11 [(7, .int (nI i)), (5, .double (mst r mm)), (0, .ref (A 0)), (1, .double r), (3, .int (nI mm)), (4, .ref aI)]) (sn σ) 0 ⟨_, _, (mix_0 _ _).symm, (mix_0 _ _).symm, hP, hS, lv_sub hl [0, 1, 2, 3, 4, 5] rfl⟩ (Nat.zero_le _) ?_ ?_
  ·
    intro i h_i ih H locs ls ⟨f', g', hf, hgg, hP, hS, hl⟩
    refine xpc (q := 25) rfl ?_
    refine lv_iload hx hb dX7_midpoints_25 (lv_at hl 0 rfl) ?_
    refine lv_aload_n hx hb dX7_midpoints_27 rfl (lv_at hl 2 rfl) ?_
    refine gX7 hx hb hg hown hI hP 0 rfl 1 rfl mF_X7_7 rfl dX7_midpoints_28 ?_
    refine lv_icmp_ge (tgt := 79) hx hb dX7_midpoints_31 (by decide) (fun c_31 => absurd c_31 (nI_ge h_i (by omega))) (fun c_31 => ?_)
    refine lv_aload_n hx hb dX7_midpoints_34 rfl (lv_at hl 2 rfl) ?_
    refine gX7 hx hb hg hown hI hP 0 rfl 18 rfl mF_X7_54 rfl dX7_midpoints_35 ?_
    refine lv_iload hx hb dX7_midpoints_38 (lv_at hl 0 rfl) ?_
    refine lv_aload_n hx hb dX7_midpoints_40 rfl (lv_at hl 2 rfl) ?_
    refine gX7 hx hb hg hown hI hP 0 rfl 10 rfl mF_X7_36 rfl dX7_midpoints_41 ?_
    refine lv_iload hx hb dX7_midpoints_44 (lv_at hl 0 rfl) ?_
    refine xdald hx hb hI hP 5 0 rfl rfl (Nat.lt_of_lt_of_le h_i hn) (by decide) dX7_midpoints_46 ?_
    refine xdast hx hb hI hP hd rfl hS 7 0 rfl rfl (Nat.lt_of_lt_of_le h_i hn) (by decide) (pmS pm0) dX7_midpoints_47 (fun H locs hP hS => ?_)
    have hP : va_P D vwCl [(A 0, mO A th (nI (sn σ)) (nI (sc σ)) t sh tl er fl kp ks tk tz sp wd lv dn rf ev), (A 1, iA cI 10 (so σ)), (A 2, iA cI 10 (sl σ)), (A 3, iA cI 10 (sr σ)), (A 4, dA cD 10 (sk σ)), (A 5, dA cD 3 y), (A 7, dA cD 3 (mix (sn σ) (fs σ (t) (y)) (va))), (A 11, dA cD 3 (vf_upd f' i (y i))), (A 12, dA cD 3 g'), (aI, dA cD 3 vI)] H := hP
    refine lv_aload_n hx hb dX7_midpoints_48 rfl (lv_at hl 2 rfl) ?_
    refine gX7 hx hb hg hown hI hP 0 rfl 19 rfl mF_X7_57 rfl dX7_midpoints_49 ?_
    refine lv_iload hx hb dX7_midpoints_52 (lv_at hl 0 rfl) ?_
    refine xpc (q := 54) rfl ?_
    refine lv_aload_n hx hb dX7_midpoints_54 rfl (lv_at hl 2 rfl) ?_
    refine gX7 hx hb hg hown hI hP 0 rfl 10 rfl mF_X7_36 rfl dX7_midpoints_55 ?_
    refine lv_iload hx hb dX7_midpoints_58 (lv_at hl 0 rfl) ?_
    refine xdald hx hb hI hP 5 0 rfl rfl (Nat.lt_of_lt_of_le h_i hn) (by decide) dX7_midpoints_60 ?_
    refine lv_dload hx hb dX7_midpoints_61 (lv_at hl 1 rfl) ?_
    refine lv_aload_n hx hb dX7_midpoints_63 rfl (lv_at hl 2 rfl) ?_
    refine gX7 hx hb hg hown hI hP 0 rfl 14 rfl mF_X7_42 rfl dX7_midpoints_64 ?_
    refine lv_iload hx hb dX7_midpoints_67 (lv_at hl 0 rfl) ?_
    refine xdald hx hb hI hP 6 0 rfl rfl (Nat.lt_of_lt_of_le h_i hn) (by decide) dX7_midpoints_69 ?_
    refine xeqd (y := (fs σ t y) i) (mix_lt h_i) ?_
    refine lv_dmul hx hb dX7_midpoints_70 ((mi1_bd (i := i) hk hs hS1).nn) ?_
    refine lv_dadd hx hb dX7_midpoints_71 ((mi0_bd hk hs hS1 h_i).nn) ?_
    refine xdast hx hb hI hP hd rfl hS 8 0 rfl rfl (Nat.lt_of_lt_of_le h_i hn) (by decide) (pmS (pmS pm0)) dX7_midpoints_72 (fun H locs hP hS => ?_)
    have hP : va_P D vwCl [(A 0, mO A th (nI (sn σ)) (nI (sc σ)) t sh tl er fl kp ks tk tz sp wd lv dn rf ev), (A 1, iA cI 10 (so σ)), (A 2, iA cI 10 (sl σ)), (A 3, iA cI 10 (sr σ)), (A 4, dA cD 10 (sk σ)), (A 5, dA cD 3 y), (A 7, dA cD 3 (mix (sn σ) (fs σ (t) (y)) (va))), (A 11, dA cD 3 (vf_upd f' i (y i))), (A 12, dA cD 3 (vf_upd g' i (FP.dadd (y i) (FP.dmul (mst r mm) ((fs σ t y) i))))), (aI, dA cD 3 vI)] H := hP
    refine lv_iinc (v := nI (i + 1)) (lv' := [(7, .int (nI (i + 1))), (5, .double (mst r mm)), (0, .ref (A 0)), (1, .double r), (3, .int (nI mm)), (4, .ref aI)]) hx hb dX7_midpoints_73 hl (k := 0) rfl (nI_1 i) (by decide) rfl (fun ls hl => ?_)
    refine lv_goto (tgt := 25) hx hb dX7_midpoints_76 (by decide) ?_
    exact ih _ _ _ ⟨_, _, mix_s hf rfl, mix_s hgg rfl, hP, hS, lv_sub hl [0, 1, 2, 3, 4, 5] rfl⟩
  ·
    intro H locs ls ⟨f', g', hf, hgg, hP, hS, hl⟩
    refine xpc (q := 25) rfl ?_
    refine lv_iload hx hb dX7_midpoints_25 (lv_at hl 0 rfl) ?_
    refine lv_aload_n hx hb dX7_midpoints_27 rfl (lv_at hl 2 rfl) ?_
    refine gX7 hx hb hg hown hI hP 0 rfl 1 rfl mF_X7_7 rfl dX7_midpoints_28 ?_
    refine lv_icmp_ge (tgt := 79) hx hb dX7_midpoints_31 (by decide) (fun c_31 => ?_) (fun c_31 => absurd (Int32.le_refl _) c_31)
    subst hf
    subst hgg
    have hP : va_P D vwCl [(A 0, mO A th (nI (sn σ)) (nI (sc σ)) t sh tl er fl kp ks tk tz sp wd lv dn rf ev), (A 1, iA cI 10 (so σ)), (A 2, iA cI 10 (sl σ)), (A 3, iA cI 10 (sr σ)), (A 4, dA cD 10 (sk σ)), (A 5, dA cD 3 y), (A 7, dA cD 3 (mix (sn σ) (fs σ (t) (y)) (va))), (A 11, dA cD 3 (mix (sn σ) (mid σ t y (mst r mm) 0).1 vu)), (A 12, dA cD 3 (mix (sn σ) (mid σ t y (mst r mm) 0).2 vw)), (aI, dA cD 3 vI)] H := hP
    refine lv_iconst (v := nI 1) hx hb dX7_midpoints_79 (by decide) ?_
    refine lv_istore (lv' := [(7, .int (nI 1)), (5, .double (mst r mm)), (0, .ref (A 0)), (1, .double r), (3, .int (nI mm)), (4, .ref aI)]) hx hb dX7_midpoints_80 hl (by decide) rfl (fun ls hl => ?_)
    refine xfor (I := fun j H locs ls => ∃ (v' : Nat → UInt64), (True) ∧ va_P D vwCl [(A 0, mO A th (nI (sn σ)) (nI (sc σ)) t sh tl er fl kp ks tk tz sp wd lv dn rf ev), (A 1, iA cI 10 (so σ)), (A 2, iA cI 10 (sl σ)), (A 3, iA cI 10 (sr σ)), (A 4, dA cD 10 (sk σ)), (A 5, dA cD 3 y), (A 7, dA cD 3 v'), (A 11, dA cD 3 (mix (sn σ) (mid σ t y (mst r mm) j).1 vu)), (A 12, dA cD 3 (mix (sn σ) (mid σ t y (mst r mm) j).2 vw)), (aI, dA cD 3 vI)] H ∧ va_S (fun q => q ∈ ([A 7, A 11, A 12, aI] : List Nat)) s.heap H locs ∧ lv_has ls 11 [(7, .int (nI (j + 1))), (5, .double (mst r mm)), (0, .ref (A 0)), (1, .double r), (3, .int (nI mm)), (4, .ref aI)]) (mm - 1) 0 ⟨_, trivial, hP, hS, lv_sub hl [0, 1, 2, 3, 4, 5] rfl⟩ (Nat.zero_le _) ?_ ?_
    ·
      intro j h_j ih H locs ls ⟨v', hv, hP, hS, hl⟩
      have hj3 : j < 3 := by omega
      have hBj := hB j (by omega)
      refine lv_iload hx hb dX7_midpoints_82 (lv_at hl 0 rfl) ?_
      refine lv_iload_n hx hb dX7_midpoints_84 rfl (lv_at hl 4 rfl) ?_
      refine lv_icmp_ge (tgt := 182) hx hb dX7_midpoints_85 (by decide) (fun c_85 => absurd c_85 (nI_ge (show j + 1 < mm by omega) (by omega))) (fun c_85 => ?_)
      refine lv_aload_n hx hb dX7_midpoints_88 rfl (lv_at hl 2 rfl) ?_
      refine lv_aload_n hx hb dX7_midpoints_89 rfl (lv_at hl 2 rfl) ?_
      refine gX7 hx hb hg hown hI hP 0 rfl 7 rfl mF_X7_98 rfl dX7_midpoints_90 ?_
      refine lv_iload hx hb dX7_midpoints_93 (lv_at hl 0 rfl) ?_
      refine lv_i2d hx hb dX7_midpoints_95 ?_
      refine lv_dload hx hb dX7_midpoints_96 (lv_at hl 1 rfl) ?_
      refine lv_dmul hx hb dX7_midpoints_98 ((mit_bd (q := j + 1) hk hs hS1 (by omega)).1.nn) ?_
      refine lv_dadd hx hb dX7_midpoints_99 ((mit_bd (q := j + 1) hk hs hS1 (by omega)).2.nn) ?_
      refine lv_aload_n hx hb dX7_midpoints_100 rfl (lv_at hl 2 rfl) ?_
      refine xpc (q := 101) rfl ?_
      refine gX7 hx hb hg hown hI hP 0 rfl 19 rfl mF_X7_57 rfl dX7_midpoints_101 ?_
      refine lv_aload_n hx hb dX7_midpoints_104 rfl (lv_at hl 2 rfl) ?_
      refine gX7 hx hb hg hown hI hP 0 rfl 14 rfl mF_X7_42 rfl dX7_midpoints_105 ?_
      refine xcv (xV (As := [.double (FP.dadd t (FP.dmul (FP.i2d (nI (j + 1))) (mst r mm))), .ref (A 12), .ref (A 7)]) (rest := []) hx hb hml hown hg (r_derive l D cD cI cM cL A σ th t sh tl er fl kp ks tk tz sp wd lv dn rf ev (A 12) (A 7) (FP.dadd t (FP.dmul (FP.i2d (nI (j + 1))) (mst r mm))) (mix (sn σ) (mid σ t y (mst r mm) j).2 vw) (v') (mB S j) hk.1 ((mit_bd (q := j + 1) hk hs hS1 (by omega)).2.up (by have := mB_ge (S := S) (q := j); omega)) (fun i hi => by rw [mix_lt hi]; exact (mid_bd hk hs hS1 j (by omega) (by omega) i hi).2) (by omega)) mM_X7_101 ok_X7_derive rfl rfl ⟨Nat.le_of_ble_eq_true rfl, Nat.le_of_ble_eq_true rfl⟩ hI hP hd rfl [0, 1, 2, 3, 4, 8, 6] rfl rfl rfl rfl rfl hl.1 rfl (Nat.le_of_ble_eq_true rfl) dX7_midpoints_108 ⟨Nat.zero_le _, Nat.zero_le _⟩) hP hd hS (fa1 pm0 fa0) [6] rfl rfl (fun _ => rfl) (fun _u H locs hu hP hS => ?_)
      have hP : va_P D vwCl [(A 0, mO A th (nI (sn σ)) (nI (sc σ)) t sh tl er fl kp ks tk tz sp wd lv dn rf ev), (A 1, iA cI 10 (so σ)), (A 2, iA cI 10 (sl σ)), (A 3, iA cI 10 (sr σ)), (A 4, dA cD 10 (sk σ)), (A 5, dA cD 3 y), (A 7, dA cD 3 (mix (sn σ) (fs σ (FP.dadd t (FP.dmul (FP.i2d (nI (j + 1))) (mst r mm))) (mix (sn σ) (mid σ t y (mst r mm) j).2 vw)) (v'))), (A 11, dA cD 3 (mix (sn σ) (mid σ t y (mst r mm) j).1 vu)), (A 12, dA cD 3 (mix (sn σ) (mid σ t y (mst r mm) j).2 vw)), (aI, dA cD 3 vI)] H := hP
      have hP : va_P D vwCl [(A 0, mO A th (nI (sn σ)) (nI (sc σ)) t sh tl er fl kp ks tk tz sp wd lv dn rf ev), (A 1, iA cI 10 (so σ)), (A 2, iA cI 10 (sl σ)), (A 3, iA cI 10 (sr σ)), (A 4, dA cD 10 (sk σ)), (A 5, dA cD 3 y), (A 7, dA cD 3 (mix (sn σ) (fs σ (FP.dadd t (FP.dmul (FP.i2d (nI (j + 1))) (mst r mm))) (mid σ t y (mst r mm) j).2) (v'))), (A 11, dA cD 3 (mix (sn σ) (mid σ t y (mst r mm) j).1 vu)), (A 12, dA cD 3 (mix (sn σ) (mid σ t y (mst r mm) j).2 vw)), (aI, dA cD 3 vI)] H := by rw [← fs_mix (σ := σ) (t := FP.dadd t (FP.dmul (FP.i2d (nI (j + 1))) (mst r mm))) (g := (mid σ t y (mst r mm) j).2) (f := vw) hn]; exact hP
      refine lv_iconst (v := nI 0) hx hb dX7_midpoints_111 (by decide) ?_
      refine lv_istore (lv' := [(8, .int (nI 0)), (7, .int (nI (j + 1))), (5, .double (mst r mm)), (0, .ref (A 0)), (1, .double r), (3, .int (nI mm)), (4, .ref aI)]) hx hb dX7_midpoints_112 hl (by decide) rfl (fun ls hl => ?_)
      refine xfor (I := fun i H locs ls => ∃ (f' : Nat → UInt64) (g' : Nat → UInt64), (f' = mix i (mid σ t y (mst r mm) j).2 (mix (sn σ) (mid σ t y (mst r mm) j).1 vu)) ∧ (g' = mix i (mid σ t y (mst r mm) (j + 1)).2 (mix (sn σ) (mid σ t y (mst r mm) j).2 vw)) ∧ va_P D vwCl [(A 0, mO A th (nI (sn σ)) (nI (sc σ)) t sh tl er fl kp ks tk tz sp wd lv dn rf ev), (A 1, iA cI 10 (so σ)), (A 2, iA cI 10 (sl σ)), (A 3, iA cI 10 (sr σ)), (A 4, dA cD 10 (sk σ)), (A 5, dA cD 3 y), (A 7, dA cD 3 (mix (sn σ) (fs σ (FP.dadd t (FP.dmul (FP.i2d (nI (j + 1))) (mst r mm))) (mid σ t y (mst r mm) j).2) (v'))), (A 11, dA cD 3 f'), (A 12, dA cD 3 g'), (aI, dA cD 3 vI)] H ∧ va_S (fun q => q ∈ ([A 7, A 11, A 12, aI] : List Nat)) s.heap H locs ∧ lv_has ls 11 [(8, .int (nI i)), (7, .int (nI (j + 1))), (5, .double (mst r mm)), (0, .ref (A 0)), (1, .double r), (3, .int (nI mm)), (4, .ref aI)]) (sn σ) 0 ⟨_, _, (mix_0 _ _).symm, (mix_0 _ _).symm, hP, hS, lv_sub hl [0, 1, 2, 3, 4, 5, 6] rfl⟩ (Nat.zero_le _) ?_ ?_
      ·
        intro i h_i ih3 H locs ls ⟨f', g', hf, hgg, hP, hS, hl⟩
        refine lv_iload hx hb dX7_midpoints_114 (lv_at hl 0 rfl) ?_
        refine lv_aload_n hx hb dX7_midpoints_116 rfl (lv_at hl 3 rfl) ?_
        refine gX7 hx hb hg hown hI hP 0 rfl 1 rfl mF_X7_7 rfl dX7_midpoints_117 ?_
        refine lv_icmp_ge (tgt := 176) hx hb dX7_midpoints_120 (by decide) (fun c_120 => absurd c_120 (nI_ge h_i (by omega))) (fun c_120 => ?_)
        refine lv_aload_n hx hb dX7_midpoints_123 rfl (lv_at hl 3 rfl) ?_
        refine gX7 hx hb hg hown hI hP 0 rfl 18 rfl mF_X7_54 rfl dX7_midpoints_124 ?_
        refine lv_iload hx hb dX7_midpoints_127 (lv_at hl 0 rfl) ?_
        refine xdald hx hb hI hP 7 0 rfl rfl (Nat.lt_of_lt_of_le h_i hn) (by decide) dX7_midpoints_129 ?_
        refine xeqd (y := ((mid σ t y (mst r mm) j).1) i) (show f' i = (mid σ t y (mst r mm) j).1 i by rw [hf, mix_ge (Nat.le_refl _), mix_lt h_i]) ?_
        refine lv_ldc2d (v := k2) hx hb hown (hg _ mD_X7_113) dX7_midpoints_130 ?_
        refine lv_dload hx hb dX7_midpoints_133 (lv_at hl 2 rfl) ?_
        refine lv_dmul hx hb dX7_midpoints_135 ((mi2_bd hs hS1).nn) ?_
        refine xpc (q := 136) rfl ?_
        refine lv_aload_n hx hb dX7_midpoints_136 rfl (lv_at hl 3 rfl) ?_
        refine gX7 hx hb hg hown hI hP 0 rfl 14 rfl mF_X7_42 rfl dX7_midpoints_137 ?_
        refine lv_iload hx hb dX7_midpoints_140 (lv_at hl 0 rfl) ?_
        refine xdald hx hb hI hP 6 0 rfl rfl (Nat.lt_of_lt_of_le h_i hn) (by decide) dX7_midpoints_142 ?_
        refine xeqd (y := (fs σ (FP.dadd t (FP.dmul (FP.i2d (nI (j + 1))) (mst r mm))) (mid σ t y (mst r mm) j).2) i) (mix_lt h_i) ?_
        refine lv_dmul hx hb dX7_midpoints_143 ((mig_bd (i := i) hk hs hS1 hj3 hBj).nn) ?_
        refine lv_dadd hx hb dX7_midpoints_144 ((mid_bd hk hs hS1 (j + 1) (by omega) (by have := hB (j + 1) (by omega); omega) i h_i).2.nn) ?_
        refine lv_dstore (lv' := [(9, .double (FP.dadd (((mid σ t y (mst r mm) j).1) i) (FP.dmul (FP.dmul k2 (mst r mm)) ((fs σ (FP.dadd t (FP.dmul (FP.i2d (nI (j + 1))) (mst r mm))) (mid σ t y (mst r mm) j).2) i)))), (8, .int (nI i)), (7, .int (nI (j + 1))), (5, .double (mst r mm)), (0, .ref (A 0)), (1, .double r), (3, .int (nI mm)), (4, .ref aI)]) hx hb dX7_midpoints_145 hl (by decide) rfl (fun ls hl => ?_)
        refine lv_aload_n hx hb dX7_midpoints_147 rfl (lv_at hl 4 rfl) ?_
        refine gX7 hx hb hg hown hI hP 0 rfl 18 rfl mF_X7_54 rfl dX7_midpoints_148 ?_
        refine lv_iload hx hb dX7_midpoints_151 (lv_at hl 1 rfl) ?_
        refine lv_aload_n hx hb dX7_midpoints_153 rfl (lv_at hl 4 rfl) ?_
        refine gX7 hx hb hg hown hI hP 0 rfl 19 rfl mF_X7_57 rfl dX7_midpoints_154 ?_
        refine lv_iload hx hb dX7_midpoints_157 (lv_at hl 1 rfl) ?_
        refine xdald hx hb hI hP 8 0 rfl rfl (Nat.lt_of_lt_of_le h_i hn) (by decide) dX7_midpoints_159 ?_
        refine xeqd (y := ((mid σ t y (mst r mm) j).2) i) (show g' i = (mid σ t y (mst r mm) j).2 i by rw [hgg, mix_ge (Nat.le_refl _), mix_lt h_i]) ?_
        refine xdast hx hb hI hP hd rfl hS 7 0 rfl rfl (Nat.lt_of_lt_of_le h_i hn) (by decide) (pmS pm0) dX7_midpoints_160 (fun H locs hP hS => ?_)
        have hP : va_P D vwCl [(A 0, mO A th (nI (sn σ)) (nI (sc σ)) t sh tl er fl kp ks tk tz sp wd lv dn rf ev), (A 1, iA cI 10 (so σ)), (A 2, iA cI 10 (sl σ)), (A 3, iA cI 10 (sr σ)), (A 4, dA cD 10 (sk σ)), (A 5, dA cD 3 y), (A 7, dA cD 3 (mix (sn σ) (fs σ (FP.dadd t (FP.dmul (FP.i2d (nI (j + 1))) (mst r mm))) (mid σ t y (mst r mm) j).2) (v'))), (A 11, dA cD 3 (vf_upd f' i (((mid σ t y (mst r mm) j).2) i))), (A 12, dA cD 3 g'), (aI, dA cD 3 vI)] H := hP
        refine lv_aload_n hx hb dX7_midpoints_161 rfl (lv_at hl 4 rfl) ?_
        refine xpc (q := 162) rfl ?_
        refine gX7 hx hb hg hown hI hP 0 rfl 19 rfl mF_X7_57 rfl dX7_midpoints_162 ?_
        refine lv_iload hx hb dX7_midpoints_165 (lv_at hl 1 rfl) ?_
        refine lv_dload hx hb dX7_midpoints_167 (lv_at hl 0 rfl) ?_
        refine xdast hx hb hI hP hd rfl hS 8 0 rfl rfl (Nat.lt_of_lt_of_le h_i hn) (by decide) (pmS (pmS pm0)) dX7_midpoints_169 (fun H locs hP hS => ?_)
        have hP : va_P D vwCl [(A 0, mO A th (nI (sn σ)) (nI (sc σ)) t sh tl er fl kp ks tk tz sp wd lv dn rf ev), (A 1, iA cI 10 (so σ)), (A 2, iA cI 10 (sl σ)), (A 3, iA cI 10 (sr σ)), (A 4, dA cD 10 (sk σ)), (A 5, dA cD 3 y), (A 7, dA cD 3 (mix (sn σ) (fs σ (FP.dadd t (FP.dmul (FP.i2d (nI (j + 1))) (mst r mm))) (mid σ t y (mst r mm) j).2) (v'))), (A 11, dA cD 3 (vf_upd f' i (((mid σ t y (mst r mm) j).2) i))), (A 12, dA cD 3 (vf_upd g' i (FP.dadd (((mid σ t y (mst r mm) j).1) i) (FP.dmul (FP.dmul k2 (mst r mm)) ((fs σ (FP.dadd t (FP.dmul (FP.i2d (nI (j + 1))) (mst r mm))) (mid σ t y (mst r mm) j).2) i))))), (aI, dA cD 3 vI)] H := hP
        refine lv_iinc (v := nI (i + 1)) (lv' := [(8, .int (nI (i + 1))), (9, .double (FP.dadd (((mid σ t y (mst r mm) j).1) i) (FP.dmul (FP.dmul k2 (mst r mm)) ((fs σ (FP.dadd t (FP.dmul (FP.i2d (nI (j + 1))) (mst r mm))) (mid σ t y (mst r mm) j).2) i)))), (7, .int (nI (j + 1))), (5, .double (mst r mm)), (0, .ref (A 0)), (1, .double r), (3, .int (nI mm)), (4, .ref aI)]) hx hb dX7_midpoints_170 hl (k := 1) rfl (nI_1 i) (by decide) rfl (fun ls hl => ?_)
        refine lv_goto (tgt := 114) hx hb dX7_midpoints_173 (by decide) ?_
        exact ih3 _ _ _ ⟨_, _, mix_s hf rfl, mix_s hgg rfl, hP, hS, lv_sub hl [0, 2, 3, 4, 5, 6, 7] rfl⟩
      ·
        intro H locs ls ⟨f', g', hf, hgg, hP, hS, hl⟩
        refine lv_iload hx hb dX7_midpoints_114 (lv_at hl 0 rfl) ?_
        refine lv_aload_n hx hb dX7_midpoints_116 rfl (lv_at hl 3 rfl) ?_
        refine gX7 hx hb hg hown hI hP 0 rfl 1 rfl mF_X7_7 rfl dX7_midpoints_117 ?_
        refine lv_icmp_ge (tgt := 176) hx hb dX7_midpoints_120 (by decide) (fun c_120 => ?_) (fun c_120 => absurd (Int32.le_refl _) c_120)
        rw [mix_mix] at hf hgg
        subst hf
        subst hgg
        have hP : va_P D vwCl [(A 0, mO A th (nI (sn σ)) (nI (sc σ)) t sh tl er fl kp ks tk tz sp wd lv dn rf ev), (A 1, iA cI 10 (so σ)), (A 2, iA cI 10 (sl σ)), (A 3, iA cI 10 (sr σ)), (A 4, dA cD 10 (sk σ)), (A 5, dA cD 3 y), (A 7, dA cD 3 (mix (sn σ) (fs σ (FP.dadd t (FP.dmul (FP.i2d (nI (j + 1))) (mst r mm))) (mid σ t y (mst r mm) j).2) (v'))), (A 11, dA cD 3 (mix (sn σ) (mid σ t y (mst r mm) (j + 1)).1 vu)), (A 12, dA cD 3 (mix (sn σ) (mid σ t y (mst r mm) (j + 1)).2 vw)), (aI, dA cD 3 vI)] H := hP
        refine lv_iinc (v := nI (j + 1 + 1)) (lv' := [(7, .int (nI (j + 1 + 1))), (8, .int (nI (sn σ))), (5, .double (mst r mm)), (0, .ref (A 0)), (1, .double r), (3, .int (nI mm)), (4, .ref aI)]) hx hb dX7_midpoints_176 hl (k := 1) rfl (nI_1 (j + 1)) (by decide) rfl (fun ls hl => ?_)
        refine lv_goto (tgt := 82) hx hb dX7_midpoints_179 (by decide) ?_
        exact ih _ _ _ ⟨_, trivial, hP, hS, lv_sub hl [0, 2, 3, 4, 5, 6] rfl⟩
    ·
      intro H locs ls ⟨v', hv, hP, hS, hl⟩
      refine lv_iload hx hb dX7_midpoints_82 (lv_at hl 0 rfl) ?_
      refine lv_iload_n hx hb dX7_midpoints_84 rfl (lv_at hl 4 rfl) ?_
      refine lv_icmp_ge (tgt := 182) hx hb dX7_midpoints_85 (by decide) (fun c_85 => ?_) (fun c_85 => absurd (nI_le (by omega) (by omega)) c_85)
      refine lv_aload_n hx hb dX7_midpoints_182 rfl (lv_at hl 2 rfl) ?_
      refine lv_aload_n hx hb dX7_midpoints_183 rfl (lv_at hl 2 rfl) ?_
      refine gX7 hx hb hg hown hI hP 0 rfl 7 rfl mF_X7_98 rfl dX7_midpoints_184 ?_
      refine lv_dload_n hx hb dX7_midpoints_187 rfl (lv_at hl 3 rfl) ?_
      refine lv_dadd hx hb dX7_midpoints_188 ((t2_bd hk hk.2.2.1).nn) ?_
      refine lv_aload_n hx hb dX7_midpoints_189 rfl (lv_at hl 2 rfl) ?_
      refine gX7 hx hb hg hown hI hP 0 rfl 19 rfl mF_X7_57 rfl dX7_midpoints_190 ?_
      refine lv_aload_n hx hb dX7_midpoints_193 rfl (lv_at hl 2 rfl) ?_
      refine xpc (q := 194) rfl ?_
      refine gX7 hx hb hg hown hI hP 0 rfl 14 rfl mF_X7_42 rfl dX7_midpoints_194 ?_
      have hBl := hB (mm - 1) (Nat.le_refl _)
      refine xcv (xV (As := [.double (FP.dadd t r), .ref (A 12), .ref (A 7)]) (rest := []) hx hb hml hown hg (r_derive l D cD cI cM cL A σ th t sh tl er fl kp ks tk tz sp wd lv dn rf ev (A 12) (A 7) (FP.dadd t r) (mix (sn σ) (mid σ t y (mst r mm) (mm - 1)).2 vw) (v') (mB S (mm - 1)) hk.1 ((t2_bd hk hk.2.2.1).up (by have := mB_ge (S := S) (q := mm - 1); omega)) (fun i hi => by rw [mix_lt hi]; exact (mid_bd hk hs hS1 (mm - 1) hm.2 (by omega) i hi).2) (by omega)) mM_X7_101 ok_X7_derive rfl rfl ⟨Nat.le_of_ble_eq_true rfl, Nat.le_of_ble_eq_true rfl⟩ hI hP hd rfl [0, 1, 2, 3, 4, 8, 6] rfl rfl rfl rfl rfl hl.1 rfl (Nat.le_of_ble_eq_true rfl) dX7_midpoints_197 ⟨Nat.zero_le _, Nat.zero_le _⟩) hP hd hS (fa1 pm0 fa0) [6] rfl rfl (fun _ => rfl) (fun _u H locs hu hP hS => ?_)
      have hP : va_P D vwCl [(A 0, mO A th (nI (sn σ)) (nI (sc σ)) t sh tl er fl kp ks tk tz sp wd lv dn rf ev), (A 1, iA cI 10 (so σ)), (A 2, iA cI 10 (sl σ)), (A 3, iA cI 10 (sr σ)), (A 4, dA cD 10 (sk σ)), (A 5, dA cD 3 y), (A 7, dA cD 3 (mix (sn σ) (fs σ (FP.dadd t r) (mix (sn σ) (mid σ t y (mst r mm) (mm - 1)).2 vw)) (v'))), (A 11, dA cD 3 (mix (sn σ) (mid σ t y (mst r mm) (mm - 1)).1 vu)), (A 12, dA cD 3 (mix (sn σ) (mid σ t y (mst r mm) (mm - 1)).2 vw)), (aI, dA cD 3 vI)] H := hP
      have hP : va_P D vwCl [(A 0, mO A th (nI (sn σ)) (nI (sc σ)) t sh tl er fl kp ks tk tz sp wd lv dn rf ev), (A 1, iA cI 10 (so σ)), (A 2, iA cI 10 (sl σ)), (A 3, iA cI 10 (sr σ)), (A 4, dA cD 10 (sk σ)), (A 5, dA cD 3 y), (A 7, dA cD 3 (mix (sn σ) (fs σ (FP.dadd t r) (mid σ t y (mst r mm) (mm - 1)).2) (v'))), (A 11, dA cD 3 (mix (sn σ) (mid σ t y (mst r mm) (mm - 1)).1 vu)), (A 12, dA cD 3 (mix (sn σ) (mid σ t y (mst r mm) (mm - 1)).2 vw)), (aI, dA cD 3 vI)] H := by rw [← fs_mix (σ := σ) (t := FP.dadd t r) (g := (mid σ t y (mst r mm) (mm - 1)).2) (f := vw) hn]; exact hP
      refine lv_iconst (v := nI 0) hx hb dX7_midpoints_200 (by decide) ?_
      refine lv_istore (lv' := [(7, .int (nI 0)), (5, .double (mst r mm)), (0, .ref (A 0)), (1, .double r), (3, .int (nI mm)), (4, .ref aI)]) hx hb dX7_midpoints_201 hl (by decide) rfl (fun ls hl => ?_)
      refine xfor (I := fun i H locs ls => ∃ (f' : Nat → UInt64), (f' = mix i (mie σ t y r mm) vI) ∧ va_P D vwCl [(A 0, mO A th (nI (sn σ)) (nI (sc σ)) t sh tl er fl kp ks tk tz sp wd lv dn rf ev), (A 1, iA cI 10 (so σ)), (A 2, iA cI 10 (sl σ)), (A 3, iA cI 10 (sr σ)), (A 4, dA cD 10 (sk σ)), (A 5, dA cD 3 y), (A 7, dA cD 3 (mix (sn σ) (fs σ (FP.dadd t r) (mid σ t y (mst r mm) (mm - 1)).2) (v'))), (A 11, dA cD 3 (mix (sn σ) (mid σ t y (mst r mm) (mm - 1)).1 vu)), (A 12, dA cD 3 (mix (sn σ) (mid σ t y (mst r mm) (mm - 1)).2 vw)), (aI, dA cD 3 f')] H ∧ va_S (fun q => q ∈ ([A 7, A 11, A 12, aI] : List Nat)) s.heap H locs ∧ lv_has ls 11 [(7, .int (nI i)), (5, .double (mst r mm)), (0, .ref (A 0)), (1, .double r), (3, .int (nI mm)), (4, .ref aI)]) (sn σ) 0 ⟨_, (mix_0 _ _).symm, hP, hS, lv_sub hl [0, 1, 2, 3, 4, 5] rfl⟩ (Nat.zero_le _) ?_ ?_
      ·
        intro i h_i ih H locs ls ⟨f', hf, hP, hS, hl⟩
        refine lv_iload hx hb dX7_midpoints_203 (lv_at hl 0 rfl) ?_
        refine lv_aload_n hx hb dX7_midpoints_205 rfl (lv_at hl 2 rfl) ?_
        refine gX7 hx hb hg hown hI hP 0 rfl 1 rfl mF_X7_7 rfl dX7_midpoints_206 ?_
        refine lv_icmp_ge (tgt := 253) hx hb dX7_midpoints_209 (by decide) (fun c_209 => absurd c_209 (nI_ge h_i (by omega))) (fun c_209 => ?_)
        refine lv_aload hx hb dX7_midpoints_212 (lv_at hl 5 rfl) ?_
        refine lv_iload hx hb dX7_midpoints_214 (lv_at hl 0 rfl) ?_
        refine lv_ldc2d (v := k0_5) hx hb hown (hg _ mD_X7_105) dX7_midpoints_216 ?_
        refine lv_aload_n hx hb dX7_midpoints_219 rfl (lv_at hl 2 rfl) ?_
        refine gX7 hx hb hg hown hI hP 0 rfl 19 rfl mF_X7_57 rfl dX7_midpoints_220 ?_
        refine lv_iload hx hb dX7_midpoints_223 (lv_at hl 0 rfl) ?_
        refine xdald hx hb hI hP 8 0 rfl rfl (Nat.lt_of_lt_of_le h_i hn) (by decide) dX7_midpoints_225 ?_
        refine xeqd (y := ((mid σ t y (mst r mm) (mm - 1)).2) i) (mix_lt h_i) ?_
        refine lv_aload_n hx hb dX7_midpoints_226 rfl (lv_at hl 2 rfl) ?_
        refine xpc (q := 227) rfl ?_
        refine gX7 hx hb hg hown hI hP 0 rfl 18 rfl mF_X7_54 rfl dX7_midpoints_227 ?_
        refine lv_iload hx hb dX7_midpoints_230 (lv_at hl 0 rfl) ?_
        refine xdald hx hb hI hP 7 0 rfl rfl (Nat.lt_of_lt_of_le h_i hn) (by decide) dX7_midpoints_232 ?_
        refine xeqd (y := ((mid σ t y (mst r mm) (mm - 1)).1) i) (mix_lt h_i) ?_
        refine lv_dadd hx hb dX7_midpoints_233 ((mie_bd hk hs hS1 hm.2 hBl h_i).1.nn) ?_
        refine lv_dload hx hb dX7_midpoints_234 (lv_at hl 1 rfl) ?_
        refine lv_aload_n hx hb dX7_midpoints_236 rfl (lv_at hl 2 rfl) ?_
        refine gX7 hx hb hg hown hI hP 0 rfl 14 rfl mF_X7_42 rfl dX7_midpoints_237 ?_
        refine lv_iload hx hb dX7_midpoints_240 (lv_at hl 0 rfl) ?_
        refine xdald hx hb hI hP 6 0 rfl rfl (Nat.lt_of_lt_of_le h_i hn) (by decide) dX7_midpoints_242 ?_
        refine xeqd (y := (fs σ (FP.dadd t r) (mid σ t y (mst r mm) (mm - 1)).2) i) (mix_lt h_i) ?_
        refine lv_dmul hx hb dX7_midpoints_243 ((mie_bd hk hs hS1 hm.2 hBl h_i).2.1.nn) ?_
        refine lv_dadd hx hb dX7_midpoints_244 ((mie_bd hk hs hS1 hm.2 hBl h_i).2.2.1.nn) ?_
        refine lv_dmul hx hb dX7_midpoints_245 ((mie_bd hk hs hS1 hm.2 hBl h_i).2.2.2.nn) ?_
        refine xdast hx hb hI hP hd rfl hS 9 0 rfl rfl (Nat.lt_of_lt_of_le h_i hn) (by decide) (pmS (pmS (pmS pm0))) dX7_midpoints_246 (fun H locs hP hS => ?_)
        have hP : va_P D vwCl [(A 0, mO A th (nI (sn σ)) (nI (sc σ)) t sh tl er fl kp ks tk tz sp wd lv dn rf ev), (A 1, iA cI 10 (so σ)), (A 2, iA cI 10 (sl σ)), (A 3, iA cI 10 (sr σ)), (A 4, dA cD 10 (sk σ)), (A 5, dA cD 3 y), (A 7, dA cD 3 (mix (sn σ) (fs σ (FP.dadd t r) (mid σ t y (mst r mm) (mm - 1)).2) (v'))), (A 11, dA cD 3 (mix (sn σ) (mid σ t y (mst r mm) (mm - 1)).1 vu)), (A 12, dA cD 3 (mix (sn σ) (mid σ t y (mst r mm) (mm - 1)).2 vw)), (aI, dA cD 3 (vf_upd f' i (FP.dmul k0_5 (FP.dadd (FP.dadd (((mid σ t y (mst r mm) (mm - 1)).2) i) (((mid σ t y (mst r mm) (mm - 1)).1) i)) (FP.dmul (mst r mm) ((fs σ (FP.dadd t r) (mid σ t y (mst r mm) (mm - 1)).2) i))))))] H := hP
        refine lv_iinc (v := nI (i + 1)) (lv' := [(7, .int (nI (i + 1))), (5, .double (mst r mm)), (0, .ref (A 0)), (1, .double r), (3, .int (nI mm)), (4, .ref aI)]) hx hb dX7_midpoints_247 hl (k := 0) rfl (nI_1 i) (by decide) rfl (fun ls hl => ?_)
        refine lv_goto (tgt := 203) hx hb dX7_midpoints_250 (by decide) ?_
        exact ih _ _ _ ⟨_, mix_s hf rfl, hP, hS, lv_sub hl [0, 1, 2, 3, 4, 5] rfl⟩
      ·
        intro H locs ls ⟨f', hf, hP, hS, hl⟩
        refine lv_iload hx hb dX7_midpoints_203 (lv_at hl 0 rfl) ?_
        refine lv_aload_n hx hb dX7_midpoints_205 rfl (lv_at hl 2 rfl) ?_
        refine gX7 hx hb hg hown hI hP 0 rfl 1 rfl mF_X7_7 rfl dX7_midpoints_206 ?_
        refine lv_icmp_ge (tgt := 253) hx hb dX7_midpoints_209 (by decide) (fun c_209 => ?_) (fun c_209 => absurd (Int32.le_refl _) c_209)
        subst hf
        exact W.vret hx hb hr (fun tS hTS hWS => ⟨(mix (sn σ) (fs σ (FP.dadd t r) (mid σ t y (mst r mm) (mm - 1)).2) (v'), mix (sn σ) (mid σ t y (mst r mm) (mm - 1)).1 vu, mix (sn σ) (mid σ t y (mst r mm) (mm - 1)).2 vw), rfl, trivial, by rw [hTS]; exact hP.sub [6, 7, 8, 9] rfl, hS.F hTS⟩) hS.2.2 dX7_midpoints_253
