set_option maxHeartbeats 4000000 in
set_option maxRecDepth 100000 in
theorem r_runge (l : Launch) (D : va_G) (cD cI cM cL : ClassId) (A : Nat → Nat) (σ : Sys) (th : Int32) (t sh tl er : UInt64) (fl kp : Int32) (ks : UInt64) (tk : Int32) (tz sp : UInt64) (wd : Int32) (lv : UInt64) (dn rf ev : Int32) (y vz va vb vc vd vu : Nat → UInt64) (r : UInt64) (hk : okst σ t y r) : Met l yX7_runge (Cond.code yX7_runge cX7_runge 4 none :: lw_good) { frames := 2, cells := 0, slots := 0, locals := 51 } (xPc D (tyL cD cI cM cL) [.ref (A 0), .double r] [(A 0, mO A th (nI (sn σ)) (nI (sc σ)) t sh tl er fl kp ks tk tz sp wd lv dn rf ev), (A 1, iA cI 10 (so σ)), (A 2, iA cI 10 (sl σ)), (A 3, iA cI 10 (sr σ)), (A 4, dA cD 10 (sk σ)), (A 5, dA cD 3 y), (A 6, dA cD 3 vz), (A 7, dA cD 3 va), (A 8, dA cD 3 vb), (A 9, dA cD 3 vc), (A 10, dA cD 3 vd), (A 11, dA cD 3 vu)]) (xQ D [A 6, A 7, A 8, A 9, A 10, A 11] (fun (u : (Nat → UInt64) × (Nat → UInt64) × (Nat → UInt64) × (Nat → UInt64) × (Nat → UInt64)) => none) (fun (u : (Nat → UInt64) × (Nat → UInt64) × (Nat → UInt64) × (Nat → UInt64) × (Nat → UInt64)) => True) (fun (u : (Nat → UInt64) × (Nat → UInt64) × (Nat → UInt64) × (Nat → UInt64) × (Nat → UInt64)) => [(A 6, dA cD 3 (mix (sn σ) (rgz σ t y r) vz)), (A 7, dA cD 3 u.1), (A 8, dA cD 3 u.2.1), (A 9, dA cD 3 u.2.2.1), (A 10, dA cD 3 u.2.2.2.1), (A 11, dA cD 3 u.2.2.2.2)])) 0 0 (fun q => q ∈ ([A 6, A 7, A 8, A 9, A 10, A 11] : List Nat)) := by
  refine xofW (adr := [A 6, A 7, A 8, A 9, A 10, A 11]) (by decide) (Nat.le_of_ble_eq_true rfl) ?_
  intro p e s m below meth c ls hx hb hr hml hg hown hlk hI hP hd hS hl
  have hown : s.vm.findClass RX7 = some m.cls := hown
  have hd : dj [A 0, A 1, A 2, A 3, A 4, A 5, A 6, A 7, A 8, A 9, A 10, A 11] := hd
  have hl : lv_has ls 4 [(0, .ref (A 0)), (1, .double r)] := hl
  have hn : sn σ ≤ 3 := hk.1.2.1
  refine lv_aload_n hx hb dX7_runge_0 rfl (lv_at hl 0 rfl) ?_
  refine lv_aload_n hx hb dX7_runge_1 rfl (lv_at hl 0 rfl) ?_
  refine gX7 hx hb hg hown hI hP 0 rfl 7 rfl mF_X7_98 rfl dX7_runge_2 ?_
  refine lv_aload_n hx hb dX7_runge_5 rfl (lv_at hl 0 rfl) ?_
  refine gX7 hx hb hg hown hI hP 0 rfl 10 rfl mF_X7_36 rfl dX7_runge_6 ?_
  refine lv_aload_n hx hb dX7_runge_9 rfl (lv_at hl 0 rfl) ?_
  refine gX7 hx hb hg hown hI hP 0 rfl 14 rfl mF_X7_42 rfl dX7_runge_10 ?_
  refine xcv (xV (As := [.double t, .ref (A 5), .ref (A 7)]) (rest := []) hx hb hml hown hg (r_derive l D cD cI cM cL A σ th t sh tl er fl kp ks tk tz sp wd lv dn rf ev (A 5) (A 7) t (y) (va) 20 hk.1 (hk.2.1.up (by decide)) hk.2.2.2 (by decide)) mM_X7_101 ok_X7_derive rfl rfl ⟨Nat.le_of_ble_eq_true rfl, Nat.le_of_ble_eq_true rfl⟩ hI hP hd rfl [0, 1, 2, 3, 4, 5, 7] rfl rfl rfl rfl rfl hl.1 rfl (Nat.le_of_ble_eq_true rfl) dX7_runge_13 ⟨Nat.zero_le _, Nat.zero_le _⟩) hP hd hS (fa1 (pmS pm0) fa0) [7] rfl rfl (fun _ => rfl) (fun _u H locs hu hP hS => ?_)
  have hP : va_P D vwCl [(A 0, mO A th (nI (sn σ)) (nI (sc σ)) t sh tl er fl kp ks tk tz sp wd lv dn rf ev), (A 1, iA cI 10 (so σ)), (A 2, iA cI 10 (sl σ)), (A 3, iA cI 10 (sr σ)), (A 4, dA cD 10 (sk σ)), (A 5, dA cD 3 y), (A 6, dA cD 3 vz), (A 7, dA cD 3 (mix (sn σ) (fs σ t (y)) va)), (A 8, dA cD 3 vb), (A 9, dA cD 3 vc), (A 10, dA cD 3 vd), (A 11, dA cD 3 vu)] H := hP
  have hP : va_P D vwCl [(A 0, mO A th (nI (sn σ)) (nI (sc σ)) t sh tl er fl kp ks tk tz sp wd lv dn rf ev), (A 1, iA cI 10 (so σ)), (A 2, iA cI 10 (sl σ)), (A 3, iA cI 10 (sr σ)), (A 4, dA cD 10 (sk σ)), (A 5, dA cD 3 y), (A 6, dA cD 3 vz), (A 7, dA cD 3 (mix (sn σ) (fs σ t y) va)), (A 8, dA cD 3 vb), (A 9, dA cD 3 vc), (A 10, dA cD 3 vd), (A 11, dA cD 3 vu)] H := hP
  refine lv_aload_n hx hb dX7_runge_16 rfl (lv_at hl 0 rfl) ?_
  refine lv_aload_n hx hb dX7_runge_17 rfl (lv_at hl 0 rfl) ?_
  refine gX7 hx hb hg hown hI hP 0 rfl 10 rfl mF_X7_36 rfl dX7_runge_18 ?_
  refine lv_ldc2d (v := k0_5) hx hb hown (hg _ mD_X7_105) dX7_runge_21 ?_
  refine lv_dload_n hx hb dX7_runge_24 rfl (lv_at hl 1 rfl) ?_
  have b1 : bd 1 2 (FP.dmul k0_5 r) := bd_mul b_k0_5 hk.2.2.1 (by decide) (by decide)
  refine lv_dmul hx hb dX7_runge_25 b1.nn ?_
  refine xpc (q := 26) rfl ?_
  refine lv_aload_n hx hb dX7_runge_26 rfl (lv_at hl 0 rfl) ?_
  refine gX7 hx hb hg hown hI hP 0 rfl 14 rfl mF_X7_42 rfl dX7_runge_27 ?_
  refine lv_aload_n hx hb dX7_runge_30 rfl (lv_at hl 0 rfl) ?_
  refine gX7 hx hb hg hown hI hP 0 rfl 18 rfl mF_X7_54 rfl dX7_runge_31 ?_
  refine xcv (xV (As := [.ref (A 5), .double (FP.dmul k0_5 r), .ref (A 7), .ref (A 11)]) (rest := []) hx hb hml hown hg (r_lead l D cD cI cM cL A σ th t sh tl er fl kp ks tk tz sp wd lv dn rf ev (A 5) (A 7) (A 11) y (mix (sn σ) (fs σ t y) va) (vu) (FP.dmul k0_5 r) hn (fun i hi => by rw [mix_lt hi]; exact (bd_mul (k := 400) (hr_bd hk) (f0_bd (i := i) hk) (by decide) (by decide)).1) (fun i hi => by unfold mv; rw [mix_lt hi]; exact (mv1_bd hk (hr_bd hk) hi).1)) mM_X7_107 ok_X7_lead rfl rfl ⟨Nat.le_of_ble_eq_true rfl, Nat.le_of_ble_eq_true rfl⟩ hI hP hd rfl [0, 5, 7, 11] rfl rfl rfl rfl rfl hl.1 rfl (Nat.le_of_ble_eq_true rfl) dX7_runge_34 ⟨Nat.zero_le _, Nat.zero_le _⟩) hP hd hS (fa1 (pmS (pmS (pmS (pmS (pmS pm0))))) fa0) [11] rfl rfl (fun _ => rfl) (fun _u H locs hu hP hS => ?_)
  have hP : va_P D vwCl [(A 0, mO A th (nI (sn σ)) (nI (sc σ)) t sh tl er fl kp ks tk tz sp wd lv dn rf ev), (A 1, iA cI 10 (so σ)), (A 2, iA cI 10 (sl σ)), (A 3, iA cI 10 (sr σ)), (A 4, dA cD 10 (sk σ)), (A 5, dA cD 3 y), (A 6, dA cD 3 vz), (A 7, dA cD 3 (mix (sn σ) (fs σ t y) va)), (A 8, dA cD 3 vb), (A 9, dA cD 3 vc), (A 10, dA cD 3 vd), (A 11, dA cD 3 (mix (sn σ) (mv y (FP.dmul k0_5 r) (mix (sn σ) (fs σ t y) va)) (vu)))] H := hP
  have hP : va_P D vwCl [(A 0, mO A th (nI (sn σ)) (nI (sc σ)) t sh tl er fl kp ks tk tz sp wd lv dn rf ev), (A 1, iA cI 10 (so σ)), (A 2, iA cI 10 (sl σ)), (A 3, iA cI 10 (sr σ)), (A 4, dA cD 10 (sk σ)), (A 5, dA cD 3 y), (A 6, dA cD 3 vz), (A 7, dA cD 3 (mix (sn σ) (fs σ t y) va)), (A 8, dA cD 3 vb), (A 9, dA cD 3 vc), (A 10, dA cD 3 vd), (A 11, dA cD 3 (mix (sn σ) (mv y (FP.dmul k0_5 r) (fs σ t y)) (vu)))] H := by rw [← mv_mix (q := va)]; exact hP
  refine lv_aload_n hx hb dX7_runge_37 rfl (lv_at hl 0 rfl) ?_
  refine lv_aload_n hx hb dX7_runge_38 rfl (lv_at hl 0 rfl) ?_
  refine gX7 hx hb hg hown hI hP 0 rfl 7 rfl mF_X7_98 rfl dX7_runge_39 ?_
  refine lv_ldc2d (v := k0_5) hx hb hown (hg _ mD_X7_105) dX7_runge_42 ?_
  refine lv_dload_n hx hb dX7_runge_45 rfl (lv_at hl 1 rfl) ?_
  have b2 : bd 1 2 (FP.dmul k0_5 r) := bd_mul b_k0_5 hk.2.2.1 (by decide) (by decide)
  refine lv_dmul hx hb dX7_runge_46 b2.nn ?_
  have b3 : bd 1 17 (FP.dadd t (FP.dmul k0_5 r)) := bd_add hk.2.1 b2 (by decide) (by decide) (by decide)
  refine lv_dadd hx hb dX7_runge_47 b3.nn ?_
  refine lv_aload_n hx hb dX7_runge_48 rfl (lv_at hl 0 rfl) ?_
  refine gX7 hx hb hg hown hI hP 0 rfl 18 rfl mF_X7_54 rfl dX7_runge_49 ?_
  refine lv_aload_n hx hb dX7_runge_52 rfl (lv_at hl 0 rfl) ?_
  refine xpc (q := 53) rfl ?_
  refine gX7 hx hb hg hown hI hP 0 rfl 15 rfl mF_X7_45 rfl dX7_runge_53 ?_
  refine xcv (xV (As := [.double (FP.dadd t (FP.dmul k0_5 r)), .ref (A 11), .ref (A 8)]) (rest := []) hx hb hml hown hg (r_derive l D cD cI cM cL A σ th t sh tl er fl kp ks tk tz sp wd lv dn rf ev (A 11) (A 8) (FP.dadd t (FP.dmul k0_5 r)) (mix (sn σ) (mv y (FP.dmul k0_5 r) (fs σ t y)) (vu)) (vb) 53 hk.1 ((t2_bd hk (hr_bd hk)).up (by decide)) (fun i hi => by rw [mix_lt hi]; exact mv1_bd hk (hr_bd hk) hi) (by decide)) mM_X7_101 ok_X7_derive rfl rfl ⟨Nat.le_of_ble_eq_true rfl, Nat.le_of_ble_eq_true rfl⟩ hI hP hd rfl [0, 1, 2, 3, 4, 11, 8] rfl rfl rfl rfl rfl hl.1 rfl (Nat.le_of_ble_eq_true rfl) dX7_runge_56 ⟨Nat.zero_le _, Nat.zero_le _⟩) hP hd hS (fa1 (pmS (pmS pm0)) fa0) [8] rfl rfl (fun _ => rfl) (fun _u H locs hu hP hS => ?_)
  have hP : va_P D vwCl [(A 0, mO A th (nI (sn σ)) (nI (sc σ)) t sh tl er fl kp ks tk tz sp wd lv dn rf ev), (A 1, iA cI 10 (so σ)), (A 2, iA cI 10 (sl σ)), (A 3, iA cI 10 (sr σ)), (A 4, dA cD 10 (sk σ)), (A 5, dA cD 3 y), (A 6, dA cD 3 vz), (A 7, dA cD 3 (mix (sn σ) (fs σ t y) va)), (A 8, dA cD 3 (mix (sn σ) (fs σ (FP.dadd t (FP.dmul k0_5 r)) (mix (sn σ) (mv y (FP.dmul k0_5 r) (fs σ t y)) (vu))) vb)), (A 9, dA cD 3 vc), (A 10, dA cD 3 vd), (A 11, dA cD 3 (mix (sn σ) (mv y (FP.dmul k0_5 r) (fs σ t y)) (vu)))] H := hP
  have hP : va_P D vwCl [(A 0, mO A th (nI (sn σ)) (nI (sc σ)) t sh tl er fl kp ks tk tz sp wd lv dn rf ev), (A 1, iA cI 10 (so σ)), (A 2, iA cI 10 (sl σ)), (A 3, iA cI 10 (sr σ)), (A 4, dA cD 10 (sk σ)), (A 5, dA cD 3 y), (A 6, dA cD 3 vz), (A 7, dA cD 3 (mix (sn σ) (fs σ t y) va)), (A 8, dA cD 3 (mix (sn σ) (fs σ (FP.dadd t (FP.dmul k0_5 r)) (mv y (FP.dmul k0_5 r) (fs σ t y))) vb)), (A 9, dA cD 3 vc), (A 10, dA cD 3 vd), (A 11, dA cD 3 (mix (sn σ) (mv y (FP.dmul k0_5 r) (fs σ t y)) (vu)))] H := by rw [← fs_mix (σ := σ) (t := FP.dadd t (FP.dmul k0_5 r)) (g := mv y (FP.dmul k0_5 r) (fs σ t y)) (f := vu) hn]; exact hP
  have hP : va_P D vwCl [(A 0, mO A th (nI (sn σ)) (nI (sc σ)) t sh tl er fl kp ks tk tz sp wd lv dn rf ev), (A 1, iA cI 10 (so σ)), (A 2, iA cI 10 (sl σ)), (A 3, iA cI 10 (sr σ)), (A 4, dA cD 10 (sk σ)), (A 5, dA cD 3 y), (A 6, dA cD 3 vz), (A 7, dA cD 3 (mix (sn σ) (fs σ t y) va)), (A 8, dA cD 3 (mix (sn σ) (rk2 σ t y r) vb)), (A 9, dA cD 3 vc), (A 10, dA cD 3 vd), (A 11, dA cD 3 (mix (sn σ) (mv y (FP.dmul k0_5 r) (fs σ t y)) (vu)))] H := hP
  refine lv_aload_n hx hb dX7_runge_59 rfl (lv_at hl 0 rfl) ?_
  refine lv_aload_n hx hb dX7_runge_60 rfl (lv_at hl 0 rfl) ?_
  refine gX7 hx hb hg hown hI hP 0 rfl 10 rfl mF_X7_36 rfl dX7_runge_61 ?_
  refine lv_ldc2d (v := k0_5) hx hb hown (hg _ mD_X7_105) dX7_runge_64 ?_
  refine lv_dload_n hx hb dX7_runge_67 rfl (lv_at hl 1 rfl) ?_
  have b4 : bd 1 2 (FP.dmul k0_5 r) := bd_mul b_k0_5 hk.2.2.1 (by decide) (by decide)
  refine lv_dmul hx hb dX7_runge_68 b4.nn ?_
  refine lv_aload_n hx hb dX7_runge_69 rfl (lv_at hl 0 rfl) ?_
  refine gX7 hx hb hg hown hI hP 0 rfl 15 rfl mF_X7_45 rfl dX7_runge_70 ?_
  refine lv_aload_n hx hb dX7_runge_73 rfl (lv_at hl 0 rfl) ?_
  refine gX7 hx hb hg hown hI hP 0 rfl 18 rfl mF_X7_54 rfl dX7_runge_74 ?_
  refine xcv (xV (As := [.ref (A 5), .double (FP.dmul k0_5 r), .ref (A 8), .ref (A 11)]) (rest := []) hx hb hml hown hg (r_lead l D cD cI cM cL A σ th t sh tl er fl kp ks tk tz sp wd lv dn rf ev (A 5) (A 8) (A 11) y (mix (sn σ) (rk2 σ t y r) vb) (mix (sn σ) (mv y (FP.dmul k0_5 r) (fs σ t y)) (vu)) (FP.dmul k0_5 r) hn (fun i hi => by rw [mix_lt hi]; exact (bd_mul (k := 400) (hr_bd hk) (rk2_bd (i := i) hk) (by decide) (by decide)).1) (fun i hi => by unfold mv; rw [mix_lt hi]; exact (mv2_bd hk (hr_bd hk) hi).1)) mM_X7_107 ok_X7_lead rfl rfl ⟨Nat.le_of_ble_eq_true rfl, Nat.le_of_ble_eq_true rfl⟩ hI hP hd rfl [0, 5, 8, 11] rfl rfl rfl rfl rfl hl.1 rfl (Nat.le_of_ble_eq_true rfl) dX7_runge_77 ⟨Nat.zero_le _, Nat.zero_le _⟩) hP hd hS (fa1 (pmS (pmS (pmS (pmS (pmS pm0))))) fa0) [11] rfl rfl (fun _ => rfl) (fun _u H locs hu hP hS => ?_)
  have hP : va_P D vwCl [(A 0, mO A th (nI (sn σ)) (nI (sc σ)) t sh tl er fl kp ks tk tz sp wd lv dn rf ev), (A 1, iA cI 10 (so σ)), (A 2, iA cI 10 (sl σ)), (A 3, iA cI 10 (sr σ)), (A 4, dA cD 10 (sk σ)), (A 5, dA cD 3 y), (A 6, dA cD 3 vz), (A 7, dA cD 3 (mix (sn σ) (fs σ t y) va)), (A 8, dA cD 3 (mix (sn σ) (rk2 σ t y r) vb)), (A 9, dA cD 3 vc), (A 10, dA cD 3 vd), (A 11, dA cD 3 (mix (sn σ) (mv y (FP.dmul k0_5 r) (mix (sn σ) (rk2 σ t y r) vb)) (mix (sn σ) (mv y (FP.dmul k0_5 r) (fs σ t y)) (vu))))] H := hP
  have hP : va_P D vwCl [(A 0, mO A th (nI (sn σ)) (nI (sc σ)) t sh tl er fl kp ks tk tz sp wd lv dn rf ev), (A 1, iA cI 10 (so σ)), (A 2, iA cI 10 (sl σ)), (A 3, iA cI 10 (sr σ)), (A 4, dA cD 10 (sk σ)), (A 5, dA cD 3 y), (A 6, dA cD 3 vz), (A 7, dA cD 3 (mix (sn σ) (fs σ t y) va)), (A 8, dA cD 3 (mix (sn σ) (rk2 σ t y r) vb)), (A 9, dA cD 3 vc), (A 10, dA cD 3 vd), (A 11, dA cD 3 (mix (sn σ) (mv y (FP.dmul k0_5 r) (rk2 σ t y r)) (mix (sn σ) (mv y (FP.dmul k0_5 r) (fs σ t y)) (vu))))] H := by rw [← mv_mix (q := vb)]; exact hP
  refine lv_aload_n hx hb dX7_runge_80 rfl (lv_at hl 0 rfl) ?_
  refine lv_aload_n hx hb dX7_runge_81 rfl (lv_at hl 0 rfl) ?_
  refine gX7 hx hb hg hown hI hP 0 rfl 7 rfl mF_X7_98 rfl dX7_runge_82 ?_
  refine xpc (q := 85) rfl ?_
  refine lv_ldc2d (v := k0_5) hx hb hown (hg _ mD_X7_105) dX7_runge_85 ?_
  refine lv_dload_n hx hb dX7_runge_88 rfl (lv_at hl 1 rfl) ?_
  have b5 : bd 1 2 (FP.dmul k0_5 r) := bd_mul b_k0_5 hk.2.2.1 (by decide) (by decide)
  refine lv_dmul hx hb dX7_runge_89 b5.nn ?_
  have b6 : bd 1 17 (FP.dadd t (FP.dmul k0_5 r)) := bd_add hk.2.1 b5 (by decide) (by decide) (by decide)
  refine lv_dadd hx hb dX7_runge_90 b6.nn ?_
  refine lv_aload_n hx hb dX7_runge_91 rfl (lv_at hl 0 rfl) ?_
  refine gX7 hx hb hg hown hI hP 0 rfl 18 rfl mF_X7_54 rfl dX7_runge_92 ?_
  refine lv_aload_n hx hb dX7_runge_95 rfl (lv_at hl 0 rfl) ?_
  refine gX7 hx hb hg hown hI hP 0 rfl 16 rfl mF_X7_48 rfl dX7_runge_96 ?_
  refine xcv (xV (As := [.double (FP.dadd t (FP.dmul k0_5 r)), .ref (A 11), .ref (A 9)]) (rest := []) hx hb hml hown hg (r_derive l D cD cI cM cL A σ th t sh tl er fl kp ks tk tz sp wd lv dn rf ev (A 11) (A 9) (FP.dadd t (FP.dmul k0_5 r)) (mix (sn σ) (mv y (FP.dmul k0_5 r) (rk2 σ t y r)) (mix (sn σ) (mv y (FP.dmul k0_5 r) (fs σ t y)) (vu))) (vc) 119 hk.1 ((t2_bd hk (hr_bd hk)).up (by decide)) (fun i hi => by rw [mix_lt hi]; exact mv2_bd hk (hr_bd hk) hi) (by decide)) mM_X7_101 ok_X7_derive rfl rfl ⟨Nat.le_of_ble_eq_true rfl, Nat.le_of_ble_eq_true rfl⟩ hI hP hd rfl [0, 1, 2, 3, 4, 11, 9] rfl rfl rfl rfl rfl hl.1 rfl (Nat.le_of_ble_eq_true rfl) dX7_runge_99 ⟨Nat.zero_le _, Nat.zero_le _⟩) hP hd hS (fa1 (pmS (pmS (pmS pm0))) fa0) [9] rfl rfl (fun _ => rfl) (fun _u H locs hu hP hS => ?_)
  have hP : va_P D vwCl [(A 0, mO A th (nI (sn σ)) (nI (sc σ)) t sh tl er fl kp ks tk tz sp wd lv dn rf ev), (A 1, iA cI 10 (so σ)), (A 2, iA cI 10 (sl σ)), (A 3, iA cI 10 (sr σ)), (A 4, dA cD 10 (sk σ)), (A 5, dA cD 3 y), (A 6, dA cD 3 vz), (A 7, dA cD 3 (mix (sn σ) (fs σ t y) va)), (A 8, dA cD 3 (mix (sn σ) (rk2 σ t y r) vb)), (A 9, dA cD 3 (mix (sn σ) (fs σ (FP.dadd t (FP.dmul k0_5 r)) (mix (sn σ) (mv y (FP.dmul k0_5 r) (rk2 σ t y r)) (mix (sn σ) (mv y (FP.dmul k0_5 r) (fs σ t y)) (vu)))) vc)), (A 10, dA cD 3 vd), (A 11, dA cD 3 (mix (sn σ) (mv y (FP.dmul k0_5 r) (rk2 σ t y r)) (mix (sn σ) (mv y (FP.dmul k0_5 r) (fs σ t y)) (vu))))] H := hP
  have hP : va_P D vwCl [(A 0, mO A th (nI (sn σ)) (nI (sc σ)) t sh tl er fl kp ks tk tz sp wd lv dn rf ev), (A 1, iA cI 10 (so σ)), (A 2, iA cI 10 (sl σ)), (A 3, iA cI 10 (sr σ)), (A 4, dA cD 10 (sk σ)), (A 5, dA cD 3 y), (A 6, dA cD 3 vz), (A 7, dA cD 3 (mix (sn σ) (fs σ t y) va)), (A 8, dA cD 3 (mix (sn σ) (rk2 σ t y r) vb)), (A 9, dA cD 3 (mix (sn σ) (fs σ (FP.dadd t (FP.dmul k0_5 r)) (mv y (FP.dmul k0_5 r) (rk2 σ t y r))) vc)), (A 10, dA cD 3 vd), (A 11, dA cD 3 (mix (sn σ) (mv y (FP.dmul k0_5 r) (rk2 σ t y r)) (mix (sn σ) (mv y (FP.dmul k0_5 r) (fs σ t y)) (vu))))] H := by rw [← fs_mix (σ := σ) (t := FP.dadd t (FP.dmul k0_5 r)) (g := mv y (FP.dmul k0_5 r) (rk2 σ t y r)) (f := mix (sn σ) (mv y (FP.dmul k0_5 r) (fs σ t y)) (vu)) hn]; exact hP
  have hP : va_P D vwCl [(A 0, mO A th (nI (sn σ)) (nI (sc σ)) t sh tl er fl kp ks tk tz sp wd lv dn rf ev), (A 1, iA cI 10 (so σ)), (A 2, iA cI 10 (sl σ)), (A 3, iA cI 10 (sr σ)), (A 4, dA cD 10 (sk σ)), (A 5, dA cD 3 y), (A 6, dA cD 3 vz), (A 7, dA cD 3 (mix (sn σ) (fs σ t y) va)), (A 8, dA cD 3 (mix (sn σ) (rk2 σ t y r) vb)), (A 9, dA cD 3 (mix (sn σ) (rk3 σ t y r) vc)), (A 10, dA cD 3 vd), (A 11, dA cD 3 (mix (sn σ) (mv y (FP.dmul k0_5 r) (rk2 σ t y r)) (mix (sn σ) (mv y (FP.dmul k0_5 r) (fs σ t y)) (vu))))] H := hP
  refine lv_aload_n hx hb dX7_runge_102 rfl (lv_at hl 0 rfl) ?_
  refine lv_aload_n hx hb dX7_runge_103 rfl (lv_at hl 0 rfl) ?_
  refine gX7 hx hb hg hown hI hP 0 rfl 10 rfl mF_X7_36 rfl dX7_runge_104 ?_
  refine lv_dload_n hx hb dX7_runge_107 rfl (lv_at hl 1 rfl) ?_
  refine lv_aload_n hx hb dX7_runge_108 rfl (lv_at hl 0 rfl) ?_
  refine gX7 hx hb hg hown hI hP 0 rfl 16 rfl mF_X7_48 rfl dX7_runge_109 ?_
  refine xpc (q := 112) rfl ?_
  refine lv_aload_n hx hb dX7_runge_112 rfl (lv_at hl 0 rfl) ?_
  refine gX7 hx hb hg hown hI hP 0 rfl 18 rfl mF_X7_54 rfl dX7_runge_113 ?_
  refine xcv (xV (As := [.ref (A 5), .double r, .ref (A 9), .ref (A 11)]) (rest := []) hx hb hml hown hg (r_lead l D cD cI cM cL A σ th t sh tl er fl kp ks tk tz sp wd lv dn rf ev (A 5) (A 9) (A 11) y (mix (sn σ) (rk3 σ t y r) vc) (mix (sn σ) (mv y (FP.dmul k0_5 r) (rk2 σ t y r)) (mix (sn σ) (mv y (FP.dmul k0_5 r) (fs σ t y)) (vu))) (r) hn (fun i hi => by rw [mix_lt hi]; exact (bd_mul (k := 400) hk.2.2.1 (rk3_bd (i := i) hk) (by decide) (by decide)).1) (fun i hi => by unfold mv; rw [mix_lt hi]; exact (mv3_bd hk hk.2.2.1 hi).1)) mM_X7_107 ok_X7_lead rfl rfl ⟨Nat.le_of_ble_eq_true rfl, Nat.le_of_ble_eq_true rfl⟩ hI hP hd rfl [0, 5, 9, 11] rfl rfl rfl rfl rfl hl.1 rfl (Nat.le_of_ble_eq_true rfl) dX7_runge_116 ⟨Nat.zero_le _, Nat.zero_le _⟩) hP hd hS (fa1 (pmS (pmS (pmS (pmS (pmS pm0))))) fa0) [11] rfl rfl (fun _ => rfl) (fun _u H locs hu hP hS => ?_)
  have hP : va_P D vwCl [(A 0, mO A th (nI (sn σ)) (nI (sc σ)) t sh tl er fl kp ks tk tz sp wd lv dn rf ev), (A 1, iA cI 10 (so σ)), (A 2, iA cI 10 (sl σ)), (A 3, iA cI 10 (sr σ)), (A 4, dA cD 10 (sk σ)), (A 5, dA cD 3 y), (A 6, dA cD 3 vz), (A 7, dA cD 3 (mix (sn σ) (fs σ t y) va)), (A 8, dA cD 3 (mix (sn σ) (rk2 σ t y r) vb)), (A 9, dA cD 3 (mix (sn σ) (rk3 σ t y r) vc)), (A 10, dA cD 3 vd), (A 11, dA cD 3 (mix (sn σ) (mv y (r) (mix (sn σ) (rk3 σ t y r) vc)) (mix (sn σ) (mv y (FP.dmul k0_5 r) (rk2 σ t y r)) (mix (sn σ) (mv y (FP.dmul k0_5 r) (fs σ t y)) (vu)))))] H := hP
  have hP : va_P D vwCl [(A 0, mO A th (nI (sn σ)) (nI (sc σ)) t sh tl er fl kp ks tk tz sp wd lv dn rf ev), (A 1, iA cI 10 (so σ)), (A 2, iA cI 10 (sl σ)), (A 3, iA cI 10 (sr σ)), (A 4, dA cD 10 (sk σ)), (A 5, dA cD 3 y), (A 6, dA cD 3 vz), (A 7, dA cD 3 (mix (sn σ) (fs σ t y) va)), (A 8, dA cD 3 (mix (sn σ) (rk2 σ t y r) vb)), (A 9, dA cD 3 (mix (sn σ) (rk3 σ t y r) vc)), (A 10, dA cD 3 vd), (A 11, dA cD 3 (mix (sn σ) (mv y (r) (rk3 σ t y r)) (mix (sn σ) (mv y (FP.dmul k0_5 r) (rk2 σ t y r)) (mix (sn σ) (mv y (FP.dmul k0_5 r) (fs σ t y)) (vu)))))] H := by rw [← mv_mix (q := vc)]; exact hP
  refine lv_aload_n hx hb dX7_runge_119 rfl (lv_at hl 0 rfl) ?_
  refine lv_aload_n hx hb dX7_runge_120 rfl (lv_at hl 0 rfl) ?_
  refine gX7 hx hb hg hown hI hP 0 rfl 7 rfl mF_X7_98 rfl dX7_runge_121 ?_
  refine lv_dload_n hx hb dX7_runge_124 rfl (lv_at hl 1 rfl) ?_
  have b7 : bd 1 17 (FP.dadd t r) := bd_add hk.2.1 hk.2.2.1 (by decide) (by decide) (by decide)
  refine lv_dadd hx hb dX7_runge_125 b7.nn ?_
  refine lv_aload_n hx hb dX7_runge_126 rfl (lv_at hl 0 rfl) ?_
  refine gX7 hx hb hg hown hI hP 0 rfl 18 rfl mF_X7_54 rfl dX7_runge_127 ?_
  refine lv_aload_n hx hb dX7_runge_130 rfl (lv_at hl 0 rfl) ?_
  refine gX7 hx hb hg hown hI hP 0 rfl 17 rfl mF_X7_51 rfl dX7_runge_131 ?_
  refine xcv (xV (As := [.double (FP.dadd t r), .ref (A 11), .ref (A 10)]) (rest := []) hx hb hml hown hg (r_derive l D cD cI cM cL A σ th t sh tl er fl kp ks tk tz sp wd lv dn rf ev (A 11) (A 10) (FP.dadd t r) (mix (sn σ) (mv y (r) (rk3 σ t y r)) (mix (sn σ) (mv y (FP.dmul k0_5 r) (rk2 σ t y r)) (mix (sn σ) (mv y (FP.dmul k0_5 r) (fs σ t y)) (vu)))) (vd) 251 hk.1 ((t2_bd hk hk.2.2.1).up (by decide)) (fun i hi => by rw [mix_lt hi]; exact mv3_bd hk hk.2.2.1 hi) (by decide)) mM_X7_101 ok_X7_derive rfl rfl ⟨Nat.le_of_ble_eq_true rfl, Nat.le_of_ble_eq_true rfl⟩ hI hP hd rfl [0, 1, 2, 3, 4, 11, 10] rfl rfl rfl rfl rfl hl.1 rfl (Nat.le_of_ble_eq_true rfl) dX7_runge_134 ⟨Nat.zero_le _, Nat.zero_le _⟩) hP hd hS (fa1 (pmS (pmS (pmS (pmS pm0)))) fa0) [10] rfl rfl (fun _ => rfl) (fun _u H locs hu hP hS => ?_)
  have hP : va_P D vwCl [(A 0, mO A th (nI (sn σ)) (nI (sc σ)) t sh tl er fl kp ks tk tz sp wd lv dn rf ev), (A 1, iA cI 10 (so σ)), (A 2, iA cI 10 (sl σ)), (A 3, iA cI 10 (sr σ)), (A 4, dA cD 10 (sk σ)), (A 5, dA cD 3 y), (A 6, dA cD 3 vz), (A 7, dA cD 3 (mix (sn σ) (fs σ t y) va)), (A 8, dA cD 3 (mix (sn σ) (rk2 σ t y r) vb)), (A 9, dA cD 3 (mix (sn σ) (rk3 σ t y r) vc)), (A 10, dA cD 3 (mix (sn σ) (fs σ (FP.dadd t r) (mix (sn σ) (mv y (r) (rk3 σ t y r)) (mix (sn σ) (mv y (FP.dmul k0_5 r) (rk2 σ t y r)) (mix (sn σ) (mv y (FP.dmul k0_5 r) (fs σ t y)) (vu))))) vd)), (A 11, dA cD 3 (mix (sn σ) (mv y (r) (rk3 σ t y r)) (mix (sn σ) (mv y (FP.dmul k0_5 r) (rk2 σ t y r)) (mix (sn σ) (mv y (FP.dmul k0_5 r) (fs σ t y)) (vu)))))] H := hP
  have hP : va_P D vwCl [(A 0, mO A th (nI (sn σ)) (nI (sc σ)) t sh tl er fl kp ks tk tz sp wd lv dn rf ev), (A 1, iA cI 10 (so σ)), (A 2, iA cI 10 (sl σ)), (A 3, iA cI 10 (sr σ)), (A 4, dA cD 10 (sk σ)), (A 5, dA cD 3 y), (A 6, dA cD 3 vz), (A 7, dA cD 3 (mix (sn σ) (fs σ t y) va)), (A 8, dA cD 3 (mix (sn σ) (rk2 σ t y r) vb)), (A 9, dA cD 3 (mix (sn σ) (rk3 σ t y r) vc)), (A 10, dA cD 3 (mix (sn σ) (fs σ (FP.dadd t r) (mv y (r) (rk3 σ t y r))) vd)), (A 11, dA cD 3 (mix (sn σ) (mv y (r) (rk3 σ t y r)) (mix (sn σ) (mv y (FP.dmul k0_5 r) (rk2 σ t y r)) (mix (sn σ) (mv y (FP.dmul k0_5 r) (fs σ t y)) (vu)))))] H := by rw [← fs_mix (σ := σ) (t := FP.dadd t r) (g := mv y (r) (rk3 σ t y r)) (f := mix (sn σ) (mv y (FP.dmul k0_5 r) (rk2 σ t y r)) (mix (sn σ) (mv y (FP.dmul k0_5 r) (fs σ t y)) (vu))) hn]; exact hP
  have hP : va_P D vwCl [(A 0, mO A th (nI (sn σ)) (nI (sc σ)) t sh tl er fl kp ks tk tz sp wd lv dn rf ev), (A 1, iA cI 10 (so σ)), (A 2, iA cI 10 (sl σ)), (A 3, iA cI 10 (sr σ)), (A 4, dA cD 10 (sk σ)), (A 5, dA cD 3 y), (A 6, dA cD 3 vz), (A 7, dA cD 3 (mix (sn σ) (fs σ t y) va)), (A 8, dA cD 3 (mix (sn σ) (rk2 σ t y r) vb)), (A 9, dA cD 3 (mix (sn σ) (rk3 σ t y r) vc)), (A 10, dA cD 3 (mix (sn σ) (rk4 σ t y r) vd)), (A 11, dA cD 3 (mix (sn σ) (mv y (r) (rk3 σ t y r)) (mix (sn σ) (mv y (FP.dmul k0_5 r) (rk2 σ t y r)) (mix (sn σ) (mv y (FP.dmul k0_5 r) (fs σ t y)) (vu)))))] H := hP
  refine lv_iconst (v := nI 0) hx hb dX7_runge_137 (by decide) ?_
  refine lv_istore_n (lv' := [(3, .int (nI 0)), (0, .ref (A 0)), (1, .double r)]) hx hb dX7_runge_138 rfl hl (by decide) rfl (fun ls hl => ?_)
  refine xfor (I := fun i H locs ls => ∃ (f' : Nat → UInt64), (f' = mix i (rgz σ t y r) vz) ∧ va_P D vwCl [(A 0, mO A th (nI (sn σ)) (nI (sc σ)) t sh tl er fl kp ks tk tz sp wd lv dn rf ev), (A 1, iA cI 10 (so σ)), (A 2, iA cI 10 (sl σ)), (A 3, iA cI 10 (sr σ)), (A 4, dA cD 10 (sk σ)), (A 5, dA cD 3 y), (A 6, dA cD 3 f'), (A 7, dA cD 3 (mix (sn σ) (fs σ t y) va)), (A 8, dA cD 3 (mix (sn σ) (rk2 σ t y r) vb)), (A 9, dA cD 3 (mix (sn σ) (rk3 σ t y r) vc)), (A 10, dA cD 3 (mix (sn σ) (rk4 σ t y r) vd)), (A 11, dA cD 3 (mix (sn σ) (mv y (r) (rk3 σ t y r)) (mix (sn σ) (mv y (FP.dmul k0_5 r) (rk2 σ t y r)) (mix (sn σ) (mv y (FP.dmul k0_5 r) (fs σ t y)) (vu)))))] H ∧ va_S (fun q => q ∈ ([A 6, A 7, A 8, A 9, A 10, A 11] : List Nat)) s.heap H locs ∧ lv_has ls 4 [(3, .int (nI i)), (0, .ref (A 0)), (1, .double r)]) (sn σ) 0 ⟨_, (mix_0 _ _).symm, hP, hS, lv_sub hl [0, 1, 2] rfl⟩ (Nat.zero_le _) ?_ ?_
  ·
    intro i h_i ih H locs ls ⟨f', hf, hP, hS, hl⟩
    refine lv_iload_n hx hb dX7_runge_139 rfl (lv_at hl 0 rfl) ?_
    refine xpc (q := 140) rfl ?_
    refine lv_aload_n hx hb dX7_runge_140 rfl (lv_at hl 1 rfl) ?_
    refine gX7 hx hb hg hown hI hP 0 rfl 1 rfl mF_X7_7 rfl dX7_runge_141 ?_
    refine lv_icmp_ge (tgt := 207) hx hb dX7_runge_144 (by decide) (fun c_144 => absurd c_144 (nI_ge h_i (by omega))) (fun c_144 => ?_)
    refine lv_aload_n hx hb dX7_runge_147 rfl (lv_at hl 1 rfl) ?_
    refine gX7 hx hb hg hown hI hP 0 rfl 11 rfl mF_X7_39 rfl dX7_runge_148 ?_
    refine lv_iload_n hx hb dX7_runge_151 rfl (lv_at hl 0 rfl) ?_
    refine lv_aload_n hx hb dX7_runge_152 rfl (lv_at hl 1 rfl) ?_
    refine gX7 hx hb hg hown hI hP 0 rfl 10 rfl mF_X7_36 rfl dX7_runge_153 ?_
    refine lv_iload_n hx hb dX7_runge_156 rfl (lv_at hl 0 rfl) ?_
    refine xdald hx hb hI hP 5 0 rfl rfl (Nat.lt_of_lt_of_le h_i hn) (by decide) dX7_runge_157 ?_
    refine lv_dload_n hx hb dX7_runge_158 rfl (lv_at hl 2 rfl) ?_
    refine lv_ldc2d (v := k6) hx hb hown (hg _ mD_X7_111) dX7_runge_159 ?_
    have b8 : bd 1 0 (FP.ddiv r k6) := bd_div hk.2.2.1 lb_k6 (by decide) (by decide)
    refine lv_ddiv hx hb dX7_runge_162 b8.nn ?_
    refine lv_aload_n hx hb dX7_runge_163 rfl (lv_at hl 1 rfl) ?_
    refine gX7 hx hb hg hown hI hP 0 rfl 14 rfl mF_X7_42 rfl dX7_runge_164 ?_
    refine xpc (q := 167) rfl ?_
    refine lv_iload_n hx hb dX7_runge_167 rfl (lv_at hl 0 rfl) ?_
    refine xdald hx hb hI hP 7 0 rfl rfl (Nat.lt_of_lt_of_le h_i hn) (by decide) dX7_runge_168 ?_
    refine xeqd (y := (fs σ t y) i) (mix_lt h_i) ?_
    refine lv_ldc2d (v := k2) hx hb hown (hg _ mD_X7_113) dX7_runge_169 ?_
    refine lv_aload_n hx hb dX7_runge_172 rfl (lv_at hl 1 rfl) ?_
    refine gX7 hx hb hg hown hI hP 0 rfl 15 rfl mF_X7_45 rfl dX7_runge_173 ?_
    refine lv_iload_n hx hb dX7_runge_176 rfl (lv_at hl 0 rfl) ?_
    refine xdald hx hb hI hP 8 0 rfl rfl (Nat.lt_of_lt_of_le h_i hn) (by decide) dX7_runge_177 ?_
    refine xeqd (y := (rk2 σ t y r) i) (mix_lt h_i) ?_
    have b9 : bd 1 117 (FP.dmul k2 ((rk2 σ t y r) i)) := bd_mul b_k2 (rk2_bd (i := i) hk) (by decide) (by decide)
    refine lv_dmul hx hb dX7_runge_178 b9.nn ?_
    have b10 : bd 1 118 (FP.dadd ((fs σ t y) i) (FP.dmul k2 ((rk2 σ t y r) i))) := bd_add (f0_bd (i := i) hk) b9 (by decide) (by decide) (by decide)
    refine lv_dadd hx hb dX7_runge_179 b10.nn ?_
    refine lv_ldc2d (v := k2) hx hb hown (hg _ mD_X7_113) dX7_runge_180 ?_
    refine lv_aload_n hx hb dX7_runge_183 rfl (lv_at hl 1 rfl) ?_
    refine gX7 hx hb hg hown hI hP 0 rfl 16 rfl mF_X7_48 rfl dX7_runge_184 ?_
    refine lv_iload_n hx hb dX7_runge_187 rfl (lv_at hl 0 rfl) ?_
    refine xdald hx hb hI hP 9 0 rfl rfl (Nat.lt_of_lt_of_le h_i hn) (by decide) dX7_runge_188 ?_
    refine xeqd (y := (rk3 σ t y r) i) (mix_lt h_i) ?_
    refine xpc (q := 189) rfl ?_
    have b11 : bd 1 249 (FP.dmul k2 ((rk3 σ t y r) i)) := bd_mul b_k2 (rk3_bd (i := i) hk) (by decide) (by decide)
    refine lv_dmul hx hb dX7_runge_189 b11.nn ?_
    have b12 : bd 1 250 (FP.dadd (FP.dadd ((fs σ t y) i) (FP.dmul k2 ((rk2 σ t y r) i))) (FP.dmul k2 ((rk3 σ t y r) i))) := bd_add b10 b11 (by decide) (by decide) (by decide)
    refine lv_dadd hx hb dX7_runge_190 b12.nn ?_
    refine lv_aload_n hx hb dX7_runge_191 rfl (lv_at hl 1 rfl) ?_
    refine gX7 hx hb hg hown hI hP 0 rfl 17 rfl mF_X7_51 rfl dX7_runge_192 ?_
    refine lv_iload_n hx hb dX7_runge_195 rfl (lv_at hl 0 rfl) ?_
    refine xdald hx hb hI hP 10 0 rfl rfl (Nat.lt_of_lt_of_le h_i hn) (by decide) dX7_runge_196 ?_
    refine xeqd (y := (rk4 σ t y r) i) (mix_lt h_i) ?_
    have b13 : bd 1 513 (FP.dadd (FP.dadd (FP.dadd ((fs σ t y) i) (FP.dmul k2 ((rk2 σ t y r) i))) (FP.dmul k2 ((rk3 σ t y r) i))) ((rk4 σ t y r) i)) := bd_add b12 (rk4_bd (i := i) hk) (by decide) (by decide) (by decide)
    refine lv_dadd hx hb dX7_runge_197 b13.nn ?_
    have b14 : bd 1 513 (FP.dmul (FP.ddiv r k6) (FP.dadd (FP.dadd (FP.dadd ((fs σ t y) i) (FP.dmul k2 ((rk2 σ t y r) i))) (FP.dmul k2 ((rk3 σ t y r) i))) ((rk4 σ t y r) i))) := bd_mul b8 b13 (by decide) (by decide)
    refine lv_dmul hx hb dX7_runge_198 b14.nn ?_
    have b15 : bd 1 514 (FP.dadd (y i) (FP.dmul (FP.ddiv r k6) (FP.dadd (FP.dadd (FP.dadd ((fs σ t y) i) (FP.dmul k2 ((rk2 σ t y r) i))) (FP.dmul k2 ((rk3 σ t y r) i))) ((rk4 σ t y r) i)))) := bd_add (hk.2.2.2 i h_i) b14 (by decide) (by decide) (by decide)
    refine lv_dadd hx hb dX7_runge_199 b15.nn ?_
    refine xdast hx hb hI hP hd rfl hS 6 0 rfl rfl (Nat.lt_of_lt_of_le h_i hn) (by decide) pm0 dX7_runge_200 (fun H locs hP hS => ?_)
    have hP : va_P D vwCl [(A 0, mO A th (nI (sn σ)) (nI (sc σ)) t sh tl er fl kp ks tk tz sp wd lv dn rf ev), (A 1, iA cI 10 (so σ)), (A 2, iA cI 10 (sl σ)), (A 3, iA cI 10 (sr σ)), (A 4, dA cD 10 (sk σ)), (A 5, dA cD 3 y), (A 6, dA cD 3 (vf_upd f' i (FP.dadd (y i) (FP.dmul (FP.ddiv r k6) (FP.dadd (FP.dadd (FP.dadd ((fs σ t y) i) (FP.dmul k2 ((rk2 σ t y r) i))) (FP.dmul k2 ((rk3 σ t y r) i))) ((rk4 σ t y r) i)))))), (A 7, dA cD 3 (mix (sn σ) (fs σ t y) va)), (A 8, dA cD 3 (mix (sn σ) (rk2 σ t y r) vb)), (A 9, dA cD 3 (mix (sn σ) (rk3 σ t y r) vc)), (A 10, dA cD 3 (mix (sn σ) (rk4 σ t y r) vd)), (A 11, dA cD 3 (mix (sn σ) (mv y (r) (rk3 σ t y r)) (mix (sn σ) (mv y (FP.dmul k0_5 r) (rk2 σ t y r)) (mix (sn σ) (mv y (FP.dmul k0_5 r) (fs σ t y)) (vu)))))] H := hP
    refine lv_iinc (v := nI (i + 1)) (lv' := [(3, .int (nI (i + 1))), (0, .ref (A 0)), (1, .double r)]) hx hb dX7_runge_201 hl (k := 0) rfl (nI_1 i) (by decide) rfl (fun ls hl => ?_)
    refine lv_goto (tgt := 139) hx hb dX7_runge_204 (by decide) ?_
    exact ih _ _ _ ⟨_, mix_s hf rfl, hP, hS, lv_sub hl [0, 1, 2] rfl⟩
  ·
    intro H locs ls ⟨f', hf, hP, hS, hl⟩
    refine lv_iload_n hx hb dX7_runge_139 rfl (lv_at hl 0 rfl) ?_
    refine xpc (q := 140) rfl ?_
    refine lv_aload_n hx hb dX7_runge_140 rfl (lv_at hl 1 rfl) ?_
    refine gX7 hx hb hg hown hI hP 0 rfl 1 rfl mF_X7_7 rfl dX7_runge_141 ?_
    refine lv_icmp_ge (tgt := 207) hx hb dX7_runge_144 (by decide) (fun c_144 => ?_) (fun c_144 => absurd (Int32.le_refl _) c_144)
    subst hf
    exact W.vret hx hb hr (fun tS hTS hWS => ⟨(mix (sn σ) (fs σ t y) va, mix (sn σ) (rk2 σ t y r) vb, mix (sn σ) (rk3 σ t y r) vc, mix (sn σ) (rk4 σ t y r) vd, mix (sn σ) (mv y (r) (rk3 σ t y r)) (mix (sn σ) (mv y (FP.dmul k0_5 r) (rk2 σ t y r)) (mix (sn σ) (mv y (FP.dmul k0_5 r) (fs σ t y)) (vu)))), rfl, trivial, by rw [hTS]; exact hP.sub [6, 7, 8, 9, 10, 11] rfl, hS.F hTS⟩) hS.2.2 dX7_runge_207

set_option maxHeartbeats 4000000 in
set_option maxRecDepth 100000 in
theorem r_pair (l : Launch) (D : va_G) (cD cI cM cL : ClassId) (A : Nat → Nat) (σ : Sys) (th : Int32) (t sh tl er : UInt64) (fl kp : Int32) (ks : UInt64) (tk : Int32) (tz sp : UInt64) (wd : Int32) (lv : UInt64) (dn rf ev : Int32) (y vz va vb vc vd vu : Nat → UInt64) (r : UInt64) (hk : okst σ t y r) : Met l yX7_pair (Cond.code yX7_pair cX7_pair 4 none :: lw_good) { frames := 2, cells := 0, slots := 0, locals := 51 } (xPc D (tyL cD cI cM cL) [.ref (A 0), .double r] [(A 0, mO A th (nI (sn σ)) (nI (sc σ)) t sh tl er fl kp ks tk tz sp wd lv dn rf ev), (A 1, iA cI 10 (so σ)), (A 2, iA cI 10 (sl σ)), (A 3, iA cI 10 (sr σ)), (A 4, dA cD 10 (sk σ)), (A 5, dA cD 3 y), (A 6, dA cD 3 vz), (A 7, dA cD 3 va), (A 8, dA cD 3 vb), (A 9, dA cD 3 vc), (A 10, dA cD 3 vd), (A 11, dA cD 3 vu)]) (xQ D [A 0, A 6, A 7, A 8, A 9, A 10, A 11] (fun (u : (Nat → UInt64) × (Nat → UInt64) × (Nat → UInt64) × (Nat → UInt64) × (Nat → UInt64)) => none) (fun (u : (Nat → UInt64) × (Nat → UInt64) × (Nat → UInt64) × (Nat → UInt64) × (Nat → UInt64)) => True) (fun (u : (Nat → UInt64) × (Nat → UInt64) × (Nat → UInt64) × (Nat → UInt64) × (Nat → UInt64)) => (A 0, mO A th (nI (sn σ)) (nI (sc σ)) t sh tl (mxv (pae σ t y r) (sn σ)) fl kp ks tk tz sp wd lv dn rf ev) :: [(A 6, dA cD 3 (mix (sn σ) (paz σ t y r) vz)), (A 7, dA cD 3 u.1), (A 8, dA cD 3 u.2.1), (A 9, dA cD 3 u.2.2.1), (A 10, dA cD 3 u.2.2.2.1), (A 11, dA cD 3 u.2.2.2.2)])) 0 0 (fun q => q ∈ ([A 0, A 6, A 7, A 8, A 9, A 10, A 11] : List Nat)) := by
  refine xofW (adr := [A 0, A 6, A 7, A 8, A 9, A 10, A 11]) (by decide) (Nat.le_of_ble_eq_true rfl) ?_
  intro p e s m below meth c ls hx hb hr hml hg hown hlk hI hP hd hS hl
  have hown : s.vm.findClass RX7 = some m.cls := hown
  have hd : dj [A 0, A 1, A 2, A 3, A 4, A 5, A 6, A 7, A 8, A 9, A 10, A 11] := hd
  have hl : lv_has ls 4 [(0, .ref (A 0)), (1, .double r)] := hl
  have hn : sn σ ≤ 3 := hk.1.2.1
  refine lv_aload_n hx hb dX7_pair_0 rfl (lv_at hl 0 rfl) ?_
  refine lv_aload_n hx hb dX7_pair_1 rfl (lv_at hl 0 rfl) ?_
  refine gX7 hx hb hg hown hI hP 0 rfl 7 rfl mF_X7_98 rfl dX7_pair_2 ?_
  refine lv_aload_n hx hb dX7_pair_5 rfl (lv_at hl 0 rfl) ?_
  refine gX7 hx hb hg hown hI hP 0 rfl 10 rfl mF_X7_36 rfl dX7_pair_6 ?_
  refine lv_aload_n hx hb dX7_pair_9 rfl (lv_at hl 0 rfl) ?_
  refine gX7 hx hb hg hown hI hP 0 rfl 14 rfl mF_X7_42 rfl dX7_pair_10 ?_
  refine xcv (xV (As := [.double t, .ref (A 5), .ref (A 7)]) (rest := []) hx hb hml hown hg (r_derive l D cD cI cM cL A σ th t sh tl er fl kp ks tk tz sp wd lv dn rf ev (A 5) (A 7) t (y) (va) 20 hk.1 (hk.2.1.up (by decide)) hk.2.2.2 (by decide)) mM_X7_101 ok_X7_derive rfl rfl ⟨Nat.le_of_ble_eq_true rfl, Nat.le_of_ble_eq_true rfl⟩ hI hP hd rfl [0, 1, 2, 3, 4, 5, 7] rfl rfl rfl rfl rfl hl.1 rfl (Nat.le_of_ble_eq_true rfl) dX7_pair_13 ⟨Nat.zero_le _, Nat.zero_le _⟩) hP hd hS (fa1 (pmS (pmS pm0)) fa0) [7] rfl rfl (fun _ => rfl) (fun _u H locs hu hP hS => ?_)
  have hP : va_P D vwCl [(A 0, mO A th (nI (sn σ)) (nI (sc σ)) t sh tl er fl kp ks tk tz sp wd lv dn rf ev), (A 1, iA cI 10 (so σ)), (A 2, iA cI 10 (sl σ)), (A 3, iA cI 10 (sr σ)), (A 4, dA cD 10 (sk σ)), (A 5, dA cD 3 y), (A 6, dA cD 3 vz), (A 7, dA cD 3 (mix (sn σ) (fs σ t (y)) va)), (A 8, dA cD 3 vb), (A 9, dA cD 3 vc), (A 10, dA cD 3 vd), (A 11, dA cD 3 vu)] H := hP
  have hP : va_P D vwCl [(A 0, mO A th (nI (sn σ)) (nI (sc σ)) t sh tl er fl kp ks tk tz sp wd lv dn rf ev), (A 1, iA cI 10 (so σ)), (A 2, iA cI 10 (sl σ)), (A 3, iA cI 10 (sr σ)), (A 4, dA cD 10 (sk σ)), (A 5, dA cD 3 y), (A 6, dA cD 3 vz), (A 7, dA cD 3 (mix (sn σ) (fs σ t y) va)), (A 8, dA cD 3 vb), (A 9, dA cD 3 vc), (A 10, dA cD 3 vd), (A 11, dA cD 3 vu)] H := hP
  refine lv_aload_n hx hb dX7_pair_16 rfl (lv_at hl 0 rfl) ?_
  refine lv_aload_n hx hb dX7_pair_17 rfl (lv_at hl 0 rfl) ?_
  refine gX7 hx hb hg hown hI hP 0 rfl 10 rfl mF_X7_36 rfl dX7_pair_18 ?_
  refine lv_ldc2d (v := k0_5) hx hb hown (hg _ mD_X7_105) dX7_pair_21 ?_
  refine lv_dload_n hx hb dX7_pair_24 rfl (lv_at hl 1 rfl) ?_
  have b1 : bd 1 2 (FP.dmul k0_5 r) := bd_mul b_k0_5 hk.2.2.1 (by decide) (by decide)
  refine lv_dmul hx hb dX7_pair_25 b1.nn ?_
  refine xpc (q := 26) rfl ?_
  refine lv_aload_n hx hb dX7_pair_26 rfl (lv_at hl 0 rfl) ?_
  refine gX7 hx hb hg hown hI hP 0 rfl 14 rfl mF_X7_42 rfl dX7_pair_27 ?_
  refine lv_aload_n hx hb dX7_pair_30 rfl (lv_at hl 0 rfl) ?_
  refine gX7 hx hb hg hown hI hP 0 rfl 18 rfl mF_X7_54 rfl dX7_pair_31 ?_
  refine xcv (xV (As := [.ref (A 5), .double (FP.dmul k0_5 r), .ref (A 7), .ref (A 11)]) (rest := []) hx hb hml hown hg (r_lead l D cD cI cM cL A σ th t sh tl er fl kp ks tk tz sp wd lv dn rf ev (A 5) (A 7) (A 11) y (mix (sn σ) (fs σ t y) va) (vu) (FP.dmul k0_5 r) hn (fun i hi => by rw [mix_lt hi]; exact (bd_mul (k := 400) (hr_bd hk) (f0_bd (i := i) hk) (by decide) (by decide)).1) (fun i hi => by unfold mv; rw [mix_lt hi]; exact (mv1_bd hk (hr_bd hk) hi).1)) mM_X7_107 ok_X7_lead rfl rfl ⟨Nat.le_of_ble_eq_true rfl, Nat.le_of_ble_eq_true rfl⟩ hI hP hd rfl [0, 5, 7, 11] rfl rfl rfl rfl rfl hl.1 rfl (Nat.le_of_ble_eq_true rfl) dX7_pair_34 ⟨Nat.zero_le _, Nat.zero_le _⟩) hP hd hS (fa1 (pmS (pmS (pmS (pmS (pmS (pmS pm0)))))) fa0) [11] rfl rfl (fun _ => rfl) (fun _u H locs hu hP hS => ?_)
  have hP : va_P D vwCl [(A 0, mO A th (nI (sn σ)) (nI (sc σ)) t sh tl er fl kp ks tk tz sp wd lv dn rf ev), (A 1, iA cI 10 (so σ)), (A 2, iA cI 10 (sl σ)), (A 3, iA cI 10 (sr σ)), (A 4, dA cD 10 (sk σ)), (A 5, dA cD 3 y), (A 6, dA cD 3 vz), (A 7, dA cD 3 (mix (sn σ) (fs σ t y) va)), (A 8, dA cD 3 vb), (A 9, dA cD 3 vc), (A 10, dA cD 3 vd), (A 11, dA cD 3 (mix (sn σ) (mv y (FP.dmul k0_5 r) (mix (sn σ) (fs σ t y) va)) (vu)))] H := hP
  have hP : va_P D vwCl [(A 0, mO A th (nI (sn σ)) (nI (sc σ)) t sh tl er fl kp ks tk tz sp wd lv dn rf ev), (A 1, iA cI 10 (so σ)), (A 2, iA cI 10 (sl σ)), (A 3, iA cI 10 (sr σ)), (A 4, dA cD 10 (sk σ)), (A 5, dA cD 3 y), (A 6, dA cD 3 vz), (A 7, dA cD 3 (mix (sn σ) (fs σ t y) va)), (A 8, dA cD 3 vb), (A 9, dA cD 3 vc), (A 10, dA cD 3 vd), (A 11, dA cD 3 (mix (sn σ) (mv y (FP.dmul k0_5 r) (fs σ t y)) (vu)))] H := by rw [← mv_mix (q := va)]; exact hP
  refine lv_aload_n hx hb dX7_pair_37 rfl (lv_at hl 0 rfl) ?_
  refine lv_aload_n hx hb dX7_pair_38 rfl (lv_at hl 0 rfl) ?_
  refine gX7 hx hb hg hown hI hP 0 rfl 7 rfl mF_X7_98 rfl dX7_pair_39 ?_
  refine lv_ldc2d (v := k0_5) hx hb hown (hg _ mD_X7_105) dX7_pair_42 ?_
  refine lv_dload_n hx hb dX7_pair_45 rfl (lv_at hl 1 rfl) ?_
  have b2 : bd 1 2 (FP.dmul k0_5 r) := bd_mul b_k0_5 hk.2.2.1 (by decide) (by decide)
  refine lv_dmul hx hb dX7_pair_46 b2.nn ?_
  have b3 : bd 1 17 (FP.dadd t (FP.dmul k0_5 r)) := bd_add hk.2.1 b2 (by decide) (by decide) (by decide)
  refine lv_dadd hx hb dX7_pair_47 b3.nn ?_
  refine lv_aload_n hx hb dX7_pair_48 rfl (lv_at hl 0 rfl) ?_
  refine gX7 hx hb hg hown hI hP 0 rfl 18 rfl mF_X7_54 rfl dX7_pair_49 ?_
  refine lv_aload_n hx hb dX7_pair_52 rfl (lv_at hl 0 rfl) ?_
  refine xpc (q := 53) rfl ?_
  refine gX7 hx hb hg hown hI hP 0 rfl 15 rfl mF_X7_45 rfl dX7_pair_53 ?_
  refine xcv (xV (As := [.double (FP.dadd t (FP.dmul k0_5 r)), .ref (A 11), .ref (A 8)]) (rest := []) hx hb hml hown hg (r_derive l D cD cI cM cL A σ th t sh tl er fl kp ks tk tz sp wd lv dn rf ev (A 11) (A 8) (FP.dadd t (FP.dmul k0_5 r)) (mix (sn σ) (mv y (FP.dmul k0_5 r) (fs σ t y)) (vu)) (vb) 53 hk.1 ((t2_bd hk (hr_bd hk)).up (by decide)) (fun i hi => by rw [mix_lt hi]; exact mv1_bd hk (hr_bd hk) hi) (by decide)) mM_X7_101 ok_X7_derive rfl rfl ⟨Nat.le_of_ble_eq_true rfl, Nat.le_of_ble_eq_true rfl⟩ hI hP hd rfl [0, 1, 2, 3, 4, 11, 8] rfl rfl rfl rfl rfl hl.1 rfl (Nat.le_of_ble_eq_true rfl) dX7_pair_56 ⟨Nat.zero_le _, Nat.zero_le _⟩) hP hd hS (fa1 (pmS (pmS (pmS pm0))) fa0) [8] rfl rfl (fun _ => rfl) (fun _u H locs hu hP hS => ?_)
  have hP : va_P D vwCl [(A 0, mO A th (nI (sn σ)) (nI (sc σ)) t sh tl er fl kp ks tk tz sp wd lv dn rf ev), (A 1, iA cI 10 (so σ)), (A 2, iA cI 10 (sl σ)), (A 3, iA cI 10 (sr σ)), (A 4, dA cD 10 (sk σ)), (A 5, dA cD 3 y), (A 6, dA cD 3 vz), (A 7, dA cD 3 (mix (sn σ) (fs σ t y) va)), (A 8, dA cD 3 (mix (sn σ) (fs σ (FP.dadd t (FP.dmul k0_5 r)) (mix (sn σ) (mv y (FP.dmul k0_5 r) (fs σ t y)) (vu))) vb)), (A 9, dA cD 3 vc), (A 10, dA cD 3 vd), (A 11, dA cD 3 (mix (sn σ) (mv y (FP.dmul k0_5 r) (fs σ t y)) (vu)))] H := hP
  have hP : va_P D vwCl [(A 0, mO A th (nI (sn σ)) (nI (sc σ)) t sh tl er fl kp ks tk tz sp wd lv dn rf ev), (A 1, iA cI 10 (so σ)), (A 2, iA cI 10 (sl σ)), (A 3, iA cI 10 (sr σ)), (A 4, dA cD 10 (sk σ)), (A 5, dA cD 3 y), (A 6, dA cD 3 vz), (A 7, dA cD 3 (mix (sn σ) (fs σ t y) va)), (A 8, dA cD 3 (mix (sn σ) (fs σ (FP.dadd t (FP.dmul k0_5 r)) (mv y (FP.dmul k0_5 r) (fs σ t y))) vb)), (A 9, dA cD 3 vc), (A 10, dA cD 3 vd), (A 11, dA cD 3 (mix (sn σ) (mv y (FP.dmul k0_5 r) (fs σ t y)) (vu)))] H := by rw [← fs_mix (σ := σ) (t := FP.dadd t (FP.dmul k0_5 r)) (g := mv y (FP.dmul k0_5 r) (fs σ t y)) (f := vu) hn]; exact hP
  have hP : va_P D vwCl [(A 0, mO A th (nI (sn σ)) (nI (sc σ)) t sh tl er fl kp ks tk tz sp wd lv dn rf ev), (A 1, iA cI 10 (so σ)), (A 2, iA cI 10 (sl σ)), (A 3, iA cI 10 (sr σ)), (A 4, dA cD 10 (sk σ)), (A 5, dA cD 3 y), (A 6, dA cD 3 vz), (A 7, dA cD 3 (mix (sn σ) (fs σ t y) va)), (A 8, dA cD 3 (mix (sn σ) (rk2 σ t y r) vb)), (A 9, dA cD 3 vc), (A 10, dA cD 3 vd), (A 11, dA cD 3 (mix (sn σ) (mv y (FP.dmul k0_5 r) (fs σ t y)) (vu)))] H := hP
  refine lv_aload_n hx hb dX7_pair_59 rfl (lv_at hl 0 rfl) ?_
  refine lv_aload_n hx hb dX7_pair_60 rfl (lv_at hl 0 rfl) ?_
  refine gX7 hx hb hg hown hI hP 0 rfl 10 rfl mF_X7_36 rfl dX7_pair_61 ?_
  refine lv_ldc2d (v := k0_75) hx hb hown (hg _ mD_X7_115) dX7_pair_64 ?_
  refine lv_dload_n hx hb dX7_pair_67 rfl (lv_at hl 1 rfl) ?_
  have b4 : bd 1 2 (FP.dmul k0_75 r) := bd_mul b_k0_75 hk.2.2.1 (by decide) (by decide)
  refine lv_dmul hx hb dX7_pair_68 b4.nn ?_
  refine lv_aload_n hx hb dX7_pair_69 rfl (lv_at hl 0 rfl) ?_
  refine gX7 hx hb hg hown hI hP 0 rfl 15 rfl mF_X7_45 rfl dX7_pair_70 ?_
  refine lv_aload_n hx hb dX7_pair_73 rfl (lv_at hl 0 rfl) ?_
  refine gX7 hx hb hg hown hI hP 0 rfl 18 rfl mF_X7_54 rfl dX7_pair_74 ?_
  refine xcv (xV (As := [.ref (A 5), .double (FP.dmul k0_75 r), .ref (A 8), .ref (A 11)]) (rest := []) hx hb hml hown hg (r_lead l D cD cI cM cL A σ th t sh tl er fl kp ks tk tz sp wd lv dn rf ev (A 5) (A 8) (A 11) y (mix (sn σ) (rk2 σ t y r) vb) (mix (sn σ) (mv y (FP.dmul k0_5 r) (fs σ t y)) (vu)) (FP.dmul k0_75 r) hn (fun i hi => by rw [mix_lt hi]; exact (bd_mul (k := 400) (h7_bd hk) (rk2_bd (i := i) hk) (by decide) (by decide)).1) (fun i hi => by unfold mv; rw [mix_lt hi]; exact (mv2_bd hk (h7_bd hk) hi).1)) mM_X7_107 ok_X7_lead rfl rfl ⟨Nat.le_of_ble_eq_true rfl, Nat.le_of_ble_eq_true rfl⟩ hI hP hd rfl [0, 5, 8, 11] rfl rfl rfl rfl rfl hl.1 rfl (Nat.le_of_ble_eq_true rfl) dX7_pair_77 ⟨Nat.zero_le _, Nat.zero_le _⟩) hP hd hS (fa1 (pmS (pmS (pmS (pmS (pmS (pmS pm0)))))) fa0) [11] rfl rfl (fun _ => rfl) (fun _u H locs hu hP hS => ?_)
  have hP : va_P D vwCl [(A 0, mO A th (nI (sn σ)) (nI (sc σ)) t sh tl er fl kp ks tk tz sp wd lv dn rf ev), (A 1, iA cI 10 (so σ)), (A 2, iA cI 10 (sl σ)), (A 3, iA cI 10 (sr σ)), (A 4, dA cD 10 (sk σ)), (A 5, dA cD 3 y), (A 6, dA cD 3 vz), (A 7, dA cD 3 (mix (sn σ) (fs σ t y) va)), (A 8, dA cD 3 (mix (sn σ) (rk2 σ t y r) vb)), (A 9, dA cD 3 vc), (A 10, dA cD 3 vd), (A 11, dA cD 3 (mix (sn σ) (mv y (FP.dmul k0_75 r) (mix (sn σ) (rk2 σ t y r) vb)) (mix (sn σ) (mv y (FP.dmul k0_5 r) (fs σ t y)) (vu))))] H := hP
  have hP : va_P D vwCl [(A 0, mO A th (nI (sn σ)) (nI (sc σ)) t sh tl er fl kp ks tk tz sp wd lv dn rf ev), (A 1, iA cI 10 (so σ)), (A 2, iA cI 10 (sl σ)), (A 3, iA cI 10 (sr σ)), (A 4, dA cD 10 (sk σ)), (A 5, dA cD 3 y), (A 6, dA cD 3 vz), (A 7, dA cD 3 (mix (sn σ) (fs σ t y) va)), (A 8, dA cD 3 (mix (sn σ) (rk2 σ t y r) vb)), (A 9, dA cD 3 vc), (A 10, dA cD 3 vd), (A 11, dA cD 3 (mix (sn σ) (mv y (FP.dmul k0_75 r) (rk2 σ t y r)) (mix (sn σ) (mv y (FP.dmul k0_5 r) (fs σ t y)) (vu))))] H := by rw [← mv_mix (q := vb)]; exact hP
  refine lv_aload_n hx hb dX7_pair_80 rfl (lv_at hl 0 rfl) ?_
  refine lv_aload_n hx hb dX7_pair_81 rfl (lv_at hl 0 rfl) ?_
  refine gX7 hx hb hg hown hI hP 0 rfl 7 rfl mF_X7_98 rfl dX7_pair_82 ?_
  refine xpc (q := 85) rfl ?_
  refine lv_ldc2d (v := k0_75) hx hb hown (hg _ mD_X7_115) dX7_pair_85 ?_
  refine lv_dload_n hx hb dX7_pair_88 rfl (lv_at hl 1 rfl) ?_
  have b5 : bd 1 2 (FP.dmul k0_75 r) := bd_mul b_k0_75 hk.2.2.1 (by decide) (by decide)
  refine lv_dmul hx hb dX7_pair_89 b5.nn ?_
  have b6 : bd 1 17 (FP.dadd t (FP.dmul k0_75 r)) := bd_add hk.2.1 b5 (by decide) (by decide) (by decide)
  refine lv_dadd hx hb dX7_pair_90 b6.nn ?_
  refine lv_aload_n hx hb dX7_pair_91 rfl (lv_at hl 0 rfl) ?_
  refine gX7 hx hb hg hown hI hP 0 rfl 18 rfl mF_X7_54 rfl dX7_pair_92 ?_
  refine lv_aload_n hx hb dX7_pair_95 rfl (lv_at hl 0 rfl) ?_
  refine gX7 hx hb hg hown hI hP 0 rfl 16 rfl mF_X7_48 rfl dX7_pair_96 ?_
  refine xcv (xV (As := [.double (FP.dadd t (FP.dmul k0_75 r)), .ref (A 11), .ref (A 9)]) (rest := []) hx hb hml hown hg (r_derive l D cD cI cM cL A σ th t sh tl er fl kp ks tk tz sp wd lv dn rf ev (A 11) (A 9) (FP.dadd t (FP.dmul k0_75 r)) (mix (sn σ) (mv y (FP.dmul k0_75 r) (rk2 σ t y r)) (mix (sn σ) (mv y (FP.dmul k0_5 r) (fs σ t y)) (vu))) (vc) 119 hk.1 ((t2_bd hk (h7_bd hk)).up (by decide)) (fun i hi => by rw [mix_lt hi]; exact mv2_bd hk (h7_bd hk) hi) (by decide)) mM_X7_101 ok_X7_derive rfl rfl ⟨Nat.le_of_ble_eq_true rfl, Nat.le_of_ble_eq_true rfl⟩ hI hP hd rfl [0, 1, 2, 3, 4, 11, 9] rfl rfl rfl rfl rfl hl.1 rfl (Nat.le_of_ble_eq_true rfl) dX7_pair_99 ⟨Nat.zero_le _, Nat.zero_le _⟩) hP hd hS (fa1 (pmS (pmS (pmS (pmS pm0)))) fa0) [9] rfl rfl (fun _ => rfl) (fun _u H locs hu hP hS => ?_)
  have hP : va_P D vwCl [(A 0, mO A th (nI (sn σ)) (nI (sc σ)) t sh tl er fl kp ks tk tz sp wd lv dn rf ev), (A 1, iA cI 10 (so σ)), (A 2, iA cI 10 (sl σ)), (A 3, iA cI 10 (sr σ)), (A 4, dA cD 10 (sk σ)), (A 5, dA cD 3 y), (A 6, dA cD 3 vz), (A 7, dA cD 3 (mix (sn σ) (fs σ t y) va)), (A 8, dA cD 3 (mix (sn σ) (rk2 σ t y r) vb)), (A 9, dA cD 3 (mix (sn σ) (fs σ (FP.dadd t (FP.dmul k0_75 r)) (mix (sn σ) (mv y (FP.dmul k0_75 r) (rk2 σ t y r)) (mix (sn σ) (mv y (FP.dmul k0_5 r) (fs σ t y)) (vu)))) vc)), (A 10, dA cD 3 vd), (A 11, dA cD 3 (mix (sn σ) (mv y (FP.dmul k0_75 r) (rk2 σ t y r)) (mix (sn σ) (mv y (FP.dmul k0_5 r) (fs σ t y)) (vu))))] H := hP
  have hP : va_P D vwCl [(A 0, mO A th (nI (sn σ)) (nI (sc σ)) t sh tl er fl kp ks tk tz sp wd lv dn rf ev), (A 1, iA cI 10 (so σ)), (A 2, iA cI 10 (sl σ)), (A 3, iA cI 10 (sr σ)), (A 4, dA cD 10 (sk σ)), (A 5, dA cD 3 y), (A 6, dA cD 3 vz), (A 7, dA cD 3 (mix (sn σ) (fs σ t y) va)), (A 8, dA cD 3 (mix (sn σ) (rk2 σ t y r) vb)), (A 9, dA cD 3 (mix (sn σ) (fs σ (FP.dadd t (FP.dmul k0_75 r)) (mv y (FP.dmul k0_75 r) (rk2 σ t y r))) vc)), (A 10, dA cD 3 vd), (A 11, dA cD 3 (mix (sn σ) (mv y (FP.dmul k0_75 r) (rk2 σ t y r)) (mix (sn σ) (mv y (FP.dmul k0_5 r) (fs σ t y)) (vu))))] H := by rw [← fs_mix (σ := σ) (t := FP.dadd t (FP.dmul k0_75 r)) (g := mv y (FP.dmul k0_75 r) (rk2 σ t y r)) (f := mix (sn σ) (mv y (FP.dmul k0_5 r) (fs σ t y)) (vu)) hn]; exact hP
  have hP : va_P D vwCl [(A 0, mO A th (nI (sn σ)) (nI (sc σ)) t sh tl er fl kp ks tk tz sp wd lv dn rf ev), (A 1, iA cI 10 (so σ)), (A 2, iA cI 10 (sl σ)), (A 3, iA cI 10 (sr σ)), (A 4, dA cD 10 (sk σ)), (A 5, dA cD 3 y), (A 6, dA cD 3 vz), (A 7, dA cD 3 (mix (sn σ) (fs σ t y) va)), (A 8, dA cD 3 (mix (sn σ) (rk2 σ t y r) vb)), (A 9, dA cD 3 (mix (sn σ) (pk3 σ t y r) vc)), (A 10, dA cD 3 vd), (A 11, dA cD 3 (mix (sn σ) (mv y (FP.dmul k0_75 r) (rk2 σ t y r)) (mix (sn σ) (mv y (FP.dmul k0_5 r) (fs σ t y)) (vu))))] H := hP
  refine lv_iconst (v := nI 0) hx hb dX7_pair_102 (by decide) ?_
  refine lv_istore_n (lv' := [(3, .int (nI 0)), (0, .ref (A 0)), (1, .double r)]) hx hb dX7_pair_103 rfl hl (by decide) rfl (fun ls hl => ?_)
  refine xfor (I := fun i H locs ls => ∃ (f' : Nat → UInt64), (f' = mix i (paz σ t y r) vz) ∧ va_P D vwCl [(A 0, mO A th (nI (sn σ)) (nI (sc σ)) t sh tl er fl kp ks tk tz sp wd lv dn rf ev), (A 1, iA cI 10 (so σ)), (A 2, iA cI 10 (sl σ)), (A 3, iA cI 10 (sr σ)), (A 4, dA cD 10 (sk σ)), (A 5, dA cD 3 y), (A 6, dA cD 3 f'), (A 7, dA cD 3 (mix (sn σ) (fs σ t y) va)), (A 8, dA cD 3 (mix (sn σ) (rk2 σ t y r) vb)), (A 9, dA cD 3 (mix (sn σ) (pk3 σ t y r) vc)), (A 10, dA cD 3 vd), (A 11, dA cD 3 (mix (sn σ) (mv y (FP.dmul k0_75 r) (rk2 σ t y r)) (mix (sn σ) (mv y (FP.dmul k0_5 r) (fs σ t y)) (vu))))] H ∧ va_S (fun q => q ∈ ([A 0, A 6, A 7, A 8, A 9, A 10, A 11] : List Nat)) s.heap H locs ∧ lv_has ls 4 [(3, .int (nI i)), (0, .ref (A 0)), (1, .double r)]) (sn σ) 0 ⟨_, (mix_0 _ _).symm, hP, hS, lv_sub hl [0, 1, 2] rfl⟩ (Nat.zero_le _) ?_ ?_
  ·
    intro i h_i ih H locs ls ⟨f', hf, hP, hS, hl⟩
    refine lv_iload_n hx hb dX7_pair_104 rfl (lv_at hl 0 rfl) ?_
    refine lv_aload_n hx hb dX7_pair_105 rfl (lv_at hl 1 rfl) ?_
    refine gX7 hx hb hg hown hI hP 0 rfl 1 rfl mF_X7_7 rfl dX7_pair_106 ?_
    refine lv_icmp_ge (tgt := 169) hx hb dX7_pair_109 (by decide) (fun c_109 => absurd c_109 (nI_ge h_i (by omega))) (fun c_109 => ?_)
    refine lv_aload_n hx hb dX7_pair_112 rfl (lv_at hl 1 rfl) ?_
    refine xpc (q := 113) rfl ?_
    refine gX7 hx hb hg hown hI hP 0 rfl 11 rfl mF_X7_39 rfl dX7_pair_113 ?_
    refine lv_iload_n hx hb dX7_pair_116 rfl (lv_at hl 0 rfl) ?_
    refine lv_aload_n hx hb dX7_pair_117 rfl (lv_at hl 1 rfl) ?_
    refine gX7 hx hb hg hown hI hP 0 rfl 10 rfl mF_X7_36 rfl dX7_pair_118 ?_
    refine lv_iload_n hx hb dX7_pair_121 rfl (lv_at hl 0 rfl) ?_
    refine xdald hx hb hI hP 5 0 rfl rfl (Nat.lt_of_lt_of_le h_i hn) (by decide) dX7_pair_122 ?_
    refine lv_dload_n hx hb dX7_pair_123 rfl (lv_at hl 2 rfl) ?_
    refine lv_ldc2d (v := k9) hx hb hown (hg _ mD_X7_117) dX7_pair_124 ?_
    have b7 : bd 1 0 (FP.ddiv r k9) := bd_div hk.2.2.1 lb_k9 (by decide) (by decide)
    refine lv_ddiv hx hb dX7_pair_127 b7.nn ?_
    refine lv_ldc2d (v := k2) hx hb hown (hg _ mD_X7_113) dX7_pair_128 ?_
    refine lv_aload_n hx hb dX7_pair_131 rfl (lv_at hl 1 rfl) ?_
    refine gX7 hx hb hg hown hI hP 0 rfl 14 rfl mF_X7_42 rfl dX7_pair_132 ?_
    refine lv_iload_n hx hb dX7_pair_135 rfl (lv_at hl 0 rfl) ?_
    refine xdald hx hb hI hP 7 0 rfl rfl (Nat.lt_of_lt_of_le h_i hn) (by decide) dX7_pair_136 ?_
    refine xeqd (y := (fs σ t y) i) (mix_lt h_i) ?_
    refine xpc (q := 137) rfl ?_
    have b8 : bd 1 51 (FP.dmul k2 ((fs σ t y) i)) := bd_mul b_k2 (f0_bd (i := i) hk) (by decide) (by decide)
    refine lv_dmul hx hb dX7_pair_137 b8.nn ?_
    refine lv_ldc2d (v := k3) hx hb hown (hg _ mD_X7_119) dX7_pair_138 ?_
    refine lv_aload_n hx hb dX7_pair_141 rfl (lv_at hl 1 rfl) ?_
    refine gX7 hx hb hg hown hI hP 0 rfl 15 rfl mF_X7_45 rfl dX7_pair_142 ?_
    refine lv_iload_n hx hb dX7_pair_145 rfl (lv_at hl 0 rfl) ?_
    refine xdald hx hb hI hP 8 0 rfl rfl (Nat.lt_of_lt_of_le h_i hn) (by decide) dX7_pair_146 ?_
    refine xeqd (y := (rk2 σ t y r) i) (mix_lt h_i) ?_
    have b9 : bd 1 118 (FP.dmul k3 ((rk2 σ t y r) i)) := bd_mul b_k3 (rk2_bd (i := i) hk) (by decide) (by decide)
    refine lv_dmul hx hb dX7_pair_147 b9.nn ?_
    have b10 : bd 1 119 (FP.dadd (FP.dmul k2 ((fs σ t y) i)) (FP.dmul k3 ((rk2 σ t y r) i))) := bd_add b8 b9 (by decide) (by decide) (by decide)
    refine lv_dadd hx hb dX7_pair_148 b10.nn ?_
    refine lv_ldc2d (v := k4) hx hb hown (hg _ mD_X7_121) dX7_pair_149 ?_
    refine lv_aload_n hx hb dX7_pair_152 rfl (lv_at hl 1 rfl) ?_
    refine gX7 hx hb hg hown hI hP 0 rfl 16 rfl mF_X7_48 rfl dX7_pair_153 ?_
    refine lv_iload_n hx hb dX7_pair_156 rfl (lv_at hl 0 rfl) ?_
    refine xdald hx hb hI hP 9 0 rfl rfl (Nat.lt_of_lt_of_le h_i hn) (by decide) dX7_pair_157 ?_
    refine xeqd (y := (pk3 σ t y r) i) (mix_lt h_i) ?_
    have b11 : bd 1 250 (FP.dmul k4 ((pk3 σ t y r) i)) := bd_mul b_k4 (pk3_bd (i := i) hk) (by decide) (by decide)
    refine lv_dmul hx hb dX7_pair_158 b11.nn ?_
    refine xpc (q := 159) rfl ?_
    have b12 : bd 1 251 (FP.dadd (FP.dadd (FP.dmul k2 ((fs σ t y) i)) (FP.dmul k3 ((rk2 σ t y r) i))) (FP.dmul k4 ((pk3 σ t y r) i))) := bd_add b10 b11 (by decide) (by decide) (by decide)
    refine lv_dadd hx hb dX7_pair_159 b12.nn ?_
    have b13 : bd 1 251 (FP.dmul (FP.ddiv r k9) (FP.dadd (FP.dadd (FP.dmul k2 ((fs σ t y) i)) (FP.dmul k3 ((rk2 σ t y r) i))) (FP.dmul k4 ((pk3 σ t y r) i)))) := bd_mul b7 b12 (by decide) (by decide)
    refine lv_dmul hx hb dX7_pair_160 b13.nn ?_
    have b14 : bd 1 252 (FP.dadd (y i) (FP.dmul (FP.ddiv r k9) (FP.dadd (FP.dadd (FP.dmul k2 ((fs σ t y) i)) (FP.dmul k3 ((rk2 σ t y r) i))) (FP.dmul k4 ((pk3 σ t y r) i))))) := bd_add (hk.2.2.2 i h_i) b13 (by decide) (by decide) (by decide)
    refine lv_dadd hx hb dX7_pair_161 b14.nn ?_
    refine xdast hx hb hI hP hd rfl hS 6 0 rfl rfl (Nat.lt_of_lt_of_le h_i hn) (by decide) (pmS pm0) dX7_pair_162 (fun H locs hP hS => ?_)
    have hP : va_P D vwCl [(A 0, mO A th (nI (sn σ)) (nI (sc σ)) t sh tl er fl kp ks tk tz sp wd lv dn rf ev), (A 1, iA cI 10 (so σ)), (A 2, iA cI 10 (sl σ)), (A 3, iA cI 10 (sr σ)), (A 4, dA cD 10 (sk σ)), (A 5, dA cD 3 y), (A 6, dA cD 3 (vf_upd f' i (FP.dadd (y i) (FP.dmul (FP.ddiv r k9) (FP.dadd (FP.dadd (FP.dmul k2 ((fs σ t y) i)) (FP.dmul k3 ((rk2 σ t y r) i))) (FP.dmul k4 ((pk3 σ t y r) i))))))), (A 7, dA cD 3 (mix (sn σ) (fs σ t y) va)), (A 8, dA cD 3 (mix (sn σ) (rk2 σ t y r) vb)), (A 9, dA cD 3 (mix (sn σ) (pk3 σ t y r) vc)), (A 10, dA cD 3 vd), (A 11, dA cD 3 (mix (sn σ) (mv y (FP.dmul k0_75 r) (rk2 σ t y r)) (mix (sn σ) (mv y (FP.dmul k0_5 r) (fs σ t y)) (vu))))] H := hP
    refine lv_iinc (v := nI (i + 1)) (lv' := [(3, .int (nI (i + 1))), (0, .ref (A 0)), (1, .double r)]) hx hb dX7_pair_163 hl (k := 0) rfl (nI_1 i) (by decide) rfl (fun ls hl => ?_)
    refine lv_goto (tgt := 104) hx hb dX7_pair_166 (by decide) ?_
    exact ih _ _ _ ⟨_, mix_s hf rfl, hP, hS, lv_sub hl [0, 1, 2] rfl⟩
  ·
    intro H locs ls ⟨f', hf, hP, hS, hl⟩
    refine lv_iload_n hx hb dX7_pair_104 rfl (lv_at hl 0 rfl) ?_
    refine lv_aload_n hx hb dX7_pair_105 rfl (lv_at hl 1 rfl) ?_
    refine gX7 hx hb hg hown hI hP 0 rfl 1 rfl mF_X7_7 rfl dX7_pair_106 ?_
    refine lv_icmp_ge (tgt := 169) hx hb dX7_pair_109 (by decide) (fun c_109 => ?_) (fun c_109 => absurd (Int32.le_refl _) c_109)
    subst hf
    refine lv_aload_n hx hb dX7_pair_169 rfl (lv_at hl 1 rfl) ?_
    refine xpc (q := 170) rfl ?_
    refine lv_aload_n hx hb dX7_pair_170 rfl (lv_at hl 1 rfl) ?_
    refine gX7 hx hb hg hown hI hP 0 rfl 7 rfl mF_X7_98 rfl dX7_pair_171 ?_
    refine lv_dload_n hx hb dX7_pair_174 rfl (lv_at hl 2 rfl) ?_
    have b7 : bd 1 17 (FP.dadd t r) := bd_add hk.2.1 hk.2.2.1 (by decide) (by decide) (by decide)
    refine lv_dadd hx hb dX7_pair_175 b7.nn ?_
    refine lv_aload_n hx hb dX7_pair_176 rfl (lv_at hl 1 rfl) ?_
    refine gX7 hx hb hg hown hI hP 0 rfl 11 rfl mF_X7_39 rfl dX7_pair_177 ?_
    refine lv_aload_n hx hb dX7_pair_180 rfl (lv_at hl 1 rfl) ?_
    refine gX7 hx hb hg hown hI hP 0 rfl 17 rfl mF_X7_51 rfl dX7_pair_181 ?_
    refine xcv (xV (As := [.double (FP.dadd t r), .ref (A 6), .ref (A 10)]) (rest := []) hx hb hml hown hg (r_derive l D cD cI cM cL A σ th t sh tl er fl kp ks tk tz sp wd lv dn rf ev (A 6) (A 10) (FP.dadd t r) (mix (sn σ) (paz σ t y r) vz) (vd) 260 hk.1 ((t2_bd hk hk.2.2.1).up (by decide)) (fun i hi => by rw [mix_lt hi]; exact paz_bd hk hi) (by decide)) mM_X7_101 ok_X7_derive rfl rfl ⟨Nat.le_of_ble_eq_true rfl, Nat.le_of_ble_eq_true rfl⟩ hI hP hd rfl [0, 1, 2, 3, 4, 6, 10] rfl rfl rfl rfl rfl hl.1 rfl (Nat.le_of_ble_eq_true rfl) dX7_pair_184 ⟨Nat.zero_le _, Nat.zero_le _⟩) hP hd hS (fa1 (pmS (pmS (pmS (pmS (pmS pm0))))) fa0) [10] rfl rfl (fun _ => rfl) (fun _u H locs hu hP hS => ?_)
    have hP : va_P D vwCl [(A 0, mO A th (nI (sn σ)) (nI (sc σ)) t sh tl er fl kp ks tk tz sp wd lv dn rf ev), (A 1, iA cI 10 (so σ)), (A 2, iA cI 10 (sl σ)), (A 3, iA cI 10 (sr σ)), (A 4, dA cD 10 (sk σ)), (A 5, dA cD 3 y), (A 6, dA cD 3 (mix (sn σ) (paz σ t y r) vz)), (A 7, dA cD 3 (mix (sn σ) (fs σ t y) va)), (A 8, dA cD 3 (mix (sn σ) (rk2 σ t y r) vb)), (A 9, dA cD 3 (mix (sn σ) (pk3 σ t y r) vc)), (A 10, dA cD 3 (mix (sn σ) (fs σ (FP.dadd t r) (mix (sn σ) (paz σ t y r) vz)) vd)), (A 11, dA cD 3 (mix (sn σ) (mv y (FP.dmul k0_75 r) (rk2 σ t y r)) (mix (sn σ) (mv y (FP.dmul k0_5 r) (fs σ t y)) (vu))))] H := hP
    have hP : va_P D vwCl [(A 0, mO A th (nI (sn σ)) (nI (sc σ)) t sh tl er fl kp ks tk tz sp wd lv dn rf ev), (A 1, iA cI 10 (so σ)), (A 2, iA cI 10 (sl σ)), (A 3, iA cI 10 (sr σ)), (A 4, dA cD 10 (sk σ)), (A 5, dA cD 3 y), (A 6, dA cD 3 (mix (sn σ) (paz σ t y r) vz)), (A 7, dA cD 3 (mix (sn σ) (fs σ t y) va)), (A 8, dA cD 3 (mix (sn σ) (rk2 σ t y r) vb)), (A 9, dA cD 3 (mix (sn σ) (pk3 σ t y r) vc)), (A 10, dA cD 3 (mix (sn σ) (fs σ (FP.dadd t r) (paz σ t y r)) vd)), (A 11, dA cD 3 (mix (sn σ) (mv y (FP.dmul k0_75 r) (rk2 σ t y r)) (mix (sn σ) (mv y (FP.dmul k0_5 r) (fs σ t y)) (vu))))] H := by rw [← fs_mix (σ := σ) (t := FP.dadd t r) (g := paz σ t y r) (f := vz) hn]; exact hP
    have hP : va_P D vwCl [(A 0, mO A th (nI (sn σ)) (nI (sc σ)) t sh tl er fl kp ks tk tz sp wd lv dn rf ev), (A 1, iA cI 10 (so σ)), (A 2, iA cI 10 (sl σ)), (A 3, iA cI 10 (sr σ)), (A 4, dA cD 10 (sk σ)), (A 5, dA cD 3 y), (A 6, dA cD 3 (mix (sn σ) (paz σ t y r) vz)), (A 7, dA cD 3 (mix (sn σ) (fs σ t y) va)), (A 8, dA cD 3 (mix (sn σ) (rk2 σ t y r) vb)), (A 9, dA cD 3 (mix (sn σ) (pk3 σ t y r) vc)), (A 10, dA cD 3 (mix (sn σ) (pk4 σ t y r) vd)), (A 11, dA cD 3 (mix (sn σ) (mv y (FP.dmul k0_75 r) (rk2 σ t y r)) (mix (sn σ) (mv y (FP.dmul k0_5 r) (fs σ t y)) (vu))))] H := hP
    refine lv_iconst (v := nI 0) hx hb dX7_pair_187 (by decide) ?_
    refine lv_istore_n (lv' := [(3, .int (nI 0)), (0, .ref (A 0)), (1, .double r)]) hx hb dX7_pair_188 rfl hl (by decide) rfl (fun ls hl => ?_)
    refine xfor (I := fun i H locs ls => ∃ (f' : Nat → UInt64), (f' = mix i (pae σ t y r) (mix (sn σ) (mv y (FP.dmul k0_75 r) (rk2 σ t y r)) (mix (sn σ) (mv y (FP.dmul k0_5 r) (fs σ t y)) (vu)))) ∧ va_P D vwCl [(A 0, mO A th (nI (sn σ)) (nI (sc σ)) t sh tl er fl kp ks tk tz sp wd lv dn rf ev), (A 1, iA cI 10 (so σ)), (A 2, iA cI 10 (sl σ)), (A 3, iA cI 10 (sr σ)), (A 4, dA cD 10 (sk σ)), (A 5, dA cD 3 y), (A 6, dA cD 3 (mix (sn σ) (paz σ t y r) vz)), (A 7, dA cD 3 (mix (sn σ) (fs σ t y) va)), (A 8, dA cD 3 (mix (sn σ) (rk2 σ t y r) vb)), (A 9, dA cD 3 (mix (sn σ) (pk3 σ t y r) vc)), (A 10, dA cD 3 (mix (sn σ) (pk4 σ t y r) vd)), (A 11, dA cD 3 f')] H ∧ va_S (fun q => q ∈ ([A 0, A 6, A 7, A 8, A 9, A 10, A 11] : List Nat)) s.heap H locs ∧ lv_has ls 4 [(3, .int (nI i)), (0, .ref (A 0)), (1, .double r)]) (sn σ) 0 ⟨_, (mix_0 _ _).symm, hP, hS, lv_sub hl [0, 1, 2] rfl⟩ (Nat.zero_le _) ?_ ?_
    ·
      intro i h_i ih H locs ls ⟨f', hf, hP, hS, hl⟩
      refine lv_iload_n hx hb dX7_pair_189 rfl (lv_at hl 0 rfl) ?_
      refine lv_aload_n hx hb dX7_pair_190 rfl (lv_at hl 1 rfl) ?_
      refine gX7 hx hb hg hown hI hP 0 rfl 1 rfl mF_X7_7 rfl dX7_pair_191 ?_
      refine lv_icmp_ge (tgt := 258) hx hb dX7_pair_194 (by decide) (fun c_194 => absurd c_194 (nI_ge h_i (by omega))) (fun c_194 => ?_)
      refine lv_aload_n hx hb dX7_pair_197 rfl (lv_at hl 1 rfl) ?_
      refine xpc (q := 198) rfl ?_
      refine gX7 hx hb hg hown hI hP 0 rfl 18 rfl mF_X7_54 rfl dX7_pair_198 ?_
      refine lv_iload_n hx hb dX7_pair_201 rfl (lv_at hl 0 rfl) ?_
      refine lv_dload_n hx hb dX7_pair_202 rfl (lv_at hl 2 rfl) ?_
      refine lv_ldc2d (v := k72) hx hb hown (hg _ mD_X7_123) dX7_pair_203 ?_
      have b8 : bd 1 0 (FP.ddiv r k72) := bd_div hk.2.2.1 lb_k72 (by decide) (by decide)
      refine lv_ddiv hx hb dX7_pair_206 b8.nn ?_
      refine lv_ldc2d (v := k6) hx hb hown (hg _ mD_X7_111) dX7_pair_207 ?_
      refine lv_aload_n hx hb dX7_pair_210 rfl (lv_at hl 1 rfl) ?_
      refine gX7 hx hb hg hown hI hP 0 rfl 15 rfl mF_X7_45 rfl dX7_pair_211 ?_
      refine lv_iload_n hx hb dX7_pair_214 rfl (lv_at hl 0 rfl) ?_
      refine xdald hx hb hI hP 8 0 rfl rfl (Nat.lt_of_lt_of_le h_i hn) (by decide) dX7_pair_215 ?_
      refine xeqd (y := (rk2 σ t y r) i) (mix_lt h_i) ?_
      have b9 : bd 1 119 (FP.dmul k6 ((rk2 σ t y r) i)) := bd_mul b_k6 (rk2_bd (i := i) hk) (by decide) (by decide)
      refine lv_dmul hx hb dX7_pair_216 b9.nn ?_
      refine lv_ldc2d (v := k8) hx hb hown (hg _ mD_X7_125) dX7_pair_217 ?_
      refine lv_aload_n hx hb dX7_pair_220 rfl (lv_at hl 1 rfl) ?_
      refine gX7 hx hb hg hown hI hP 0 rfl 16 rfl mF_X7_48 rfl dX7_pair_221 ?_
      refine xpc (q := 224) rfl ?_
      refine lv_iload_n hx hb dX7_pair_224 rfl (lv_at hl 0 rfl) ?_
      refine xdald hx hb hI hP 9 0 rfl rfl (Nat.lt_of_lt_of_le h_i hn) (by decide) dX7_pair_225 ?_
      refine xeqd (y := (pk3 σ t y r) i) (mix_lt h_i) ?_
      have b10 : bd 1 251 (FP.dmul k8 ((pk3 σ t y r) i)) := bd_mul b_k8 (pk3_bd (i := i) hk) (by decide) (by decide)
      refine lv_dmul hx hb dX7_pair_226 b10.nn ?_
      have b11 : bd 1 252 (FP.dadd (FP.dmul k6 ((rk2 σ t y r) i)) (FP.dmul k8 ((pk3 σ t y r) i))) := bd_add b9 b10 (by decide) (by decide) (by decide)
      refine lv_dadd hx hb dX7_pair_227 b11.nn ?_
      refine lv_ldc2d (v := k5) hx hb hown (hg _ mD_X7_127) dX7_pair_228 ?_
      refine lv_aload_n hx hb dX7_pair_231 rfl (lv_at hl 1 rfl) ?_
      refine gX7 hx hb hg hown hI hP 0 rfl 14 rfl mF_X7_42 rfl dX7_pair_232 ?_
      refine lv_iload_n hx hb dX7_pair_235 rfl (lv_at hl 0 rfl) ?_
      refine xdald hx hb hI hP 7 0 rfl rfl (Nat.lt_of_lt_of_le h_i hn) (by decide) dX7_pair_236 ?_
      refine xeqd (y := (fs σ t y) i) (mix_lt h_i) ?_
      have b12 : bd 1 53 (FP.dmul k5 ((fs σ t y) i)) := bd_mul b_k5 (f0_bd (i := i) hk) (by decide) (by decide)
      refine lv_dmul hx hb dX7_pair_237 b12.nn ?_
      have b13 : bd 1 253 (FP.dsub (FP.dadd (FP.dmul k6 ((rk2 σ t y r) i)) (FP.dmul k8 ((pk3 σ t y r) i))) (FP.dmul k5 ((fs σ t y) i))) := bd_sub b11 b12 (by decide) (by decide) (by decide)
      refine lv_dsub hx hb dX7_pair_238 b13.nn ?_
      refine lv_ldc2d (v := k9) hx hb hown (hg _ mD_X7_117) dX7_pair_239 ?_
      refine lv_aload_n hx hb dX7_pair_242 rfl (lv_at hl 1 rfl) ?_
      refine gX7 hx hb hg hown hI hP 0 rfl 17 rfl mF_X7_51 rfl dX7_pair_243 ?_
      refine xpc (q := 246) rfl ?_
      refine lv_iload_n hx hb dX7_pair_246 rfl (lv_at hl 0 rfl) ?_
      refine xdald hx hb hI hP 10 0 rfl rfl (Nat.lt_of_lt_of_le h_i hn) (by decide) dX7_pair_247 ?_
      refine xeqd (y := (pk4 σ t y r) i) (mix_lt h_i) ?_
      have b14 : bd 1 534 (FP.dmul k9 ((pk4 σ t y r) i)) := bd_mul b_k9 (pk4_bd (i := i) hk) (by decide) (by decide)
      refine lv_dmul hx hb dX7_pair_248 b14.nn ?_
      have b15 : bd 1 535 (FP.dsub (FP.dsub (FP.dadd (FP.dmul k6 ((rk2 σ t y r) i)) (FP.dmul k8 ((pk3 σ t y r) i))) (FP.dmul k5 ((fs σ t y) i))) (FP.dmul k9 ((pk4 σ t y r) i))) := bd_sub b13 b14 (by decide) (by decide) (by decide)
      refine lv_dsub hx hb dX7_pair_249 b15.nn ?_
      have b16 : bd 1 535 (FP.dmul (FP.ddiv r k72) (FP.dsub (FP.dsub (FP.dadd (FP.dmul k6 ((rk2 σ t y r) i)) (FP.dmul k8 ((pk3 σ t y r) i))) (FP.dmul k5 ((fs σ t y) i))) (FP.dmul k9 ((pk4 σ t y r) i)))) := bd_mul b8 b15 (by decide) (by decide)
      refine lv_dmul hx hb dX7_pair_250 b16.nn ?_
      refine xdast hx hb hI hP hd rfl hS 11 0 rfl rfl (Nat.lt_of_lt_of_le h_i hn) (by decide) (pmS (pmS (pmS (pmS (pmS (pmS pm0)))))) dX7_pair_251 (fun H locs hP hS => ?_)
      have hP : va_P D vwCl [(A 0, mO A th (nI (sn σ)) (nI (sc σ)) t sh tl er fl kp ks tk tz sp wd lv dn rf ev), (A 1, iA cI 10 (so σ)), (A 2, iA cI 10 (sl σ)), (A 3, iA cI 10 (sr σ)), (A 4, dA cD 10 (sk σ)), (A 5, dA cD 3 y), (A 6, dA cD 3 (mix (sn σ) (paz σ t y r) vz)), (A 7, dA cD 3 (mix (sn σ) (fs σ t y) va)), (A 8, dA cD 3 (mix (sn σ) (rk2 σ t y r) vb)), (A 9, dA cD 3 (mix (sn σ) (pk3 σ t y r) vc)), (A 10, dA cD 3 (mix (sn σ) (pk4 σ t y r) vd)), (A 11, dA cD 3 (vf_upd f' i (FP.dmul (FP.ddiv r k72) (FP.dsub (FP.dsub (FP.dadd (FP.dmul k6 ((rk2 σ t y r) i)) (FP.dmul k8 ((pk3 σ t y r) i))) (FP.dmul k5 ((fs σ t y) i))) (FP.dmul k9 ((pk4 σ t y r) i))))))] H := hP
      refine lv_iinc (v := nI (i + 1)) (lv' := [(3, .int (nI (i + 1))), (0, .ref (A 0)), (1, .double r)]) hx hb dX7_pair_252 hl (k := 0) rfl (nI_1 i) (by decide) rfl (fun ls hl => ?_)
      refine lv_goto (tgt := 189) hx hb dX7_pair_255 (by decide) ?_
      exact ih _ _ _ ⟨_, mix_s hf rfl, hP, hS, lv_sub hl [0, 1, 2] rfl⟩
    ·
      intro H locs ls ⟨f', hf, hP, hS, hl⟩
      refine lv_iload_n hx hb dX7_pair_189 rfl (lv_at hl 0 rfl) ?_
      refine lv_aload_n hx hb dX7_pair_190 rfl (lv_at hl 1 rfl) ?_
      refine gX7 hx hb hg hown hI hP 0 rfl 1 rfl mF_X7_7 rfl dX7_pair_191 ?_
      refine lv_icmp_ge (tgt := 258) hx hb dX7_pair_194 (by decide) (fun c_194 => ?_) (fun c_194 => absurd (Int32.le_refl _) c_194)
      subst hf
      refine lv_aload_n hx hb dX7_pair_258 rfl (lv_at hl 1 rfl) ?_
      refine xpc (q := 259) rfl ?_
      refine lv_aload_n hx hb dX7_pair_259 rfl (lv_at hl 1 rfl) ?_
      refine lv_aload_n hx hb dX7_pair_260 rfl (lv_at hl 1 rfl) ?_
      refine gX7 hx hb hg hown hI hP 0 rfl 18 rfl mF_X7_54 rfl dX7_pair_261 ?_
      refine xcd (xV (As := [.ref (A 11)]) (rest := [.ref (A 0)]) hx hb hml hown hg (r_max l D cD cI cM cL A σ th t sh tl er fl kp ks tk tz sp wd lv dn rf ev (A 11) (mix (sn σ) (pae σ t y r) (mix (sn σ) (mv y (FP.dmul k0_75 r) (rk2 σ t y r)) (mix (sn σ) (mv y (FP.dmul k0_5 r) (fs σ t y)) (vu)))) hn) mM_X7_129 ok_X7_max rfl rfl ⟨Nat.le_of_ble_eq_true rfl, Nat.le_of_ble_eq_true rfl⟩ hI hP hd rfl [0, 11] rfl rfl rfl rfl rfl hl.1 rfl (Nat.le_of_ble_eq_true rfl) dX7_pair_264 ⟨Nat.zero_le _, Nat.zero_le _⟩) hP hd hS fa0 [] rfl rfl (fun _ => rfl) (fun _u H locs hu hP hS => ?_)
      have hP : va_P D vwCl [(A 0, mO A th (nI (sn σ)) (nI (sc σ)) t sh tl er fl kp ks tk tz sp wd lv dn rf ev), (A 1, iA cI 10 (so σ)), (A 2, iA cI 10 (sl σ)), (A 3, iA cI 10 (sr σ)), (A 4, dA cD 10 (sk σ)), (A 5, dA cD 3 y), (A 6, dA cD 3 (mix (sn σ) (paz σ t y r) vz)), (A 7, dA cD 3 (mix (sn σ) (fs σ t y) va)), (A 8, dA cD 3 (mix (sn σ) (rk2 σ t y r) vb)), (A 9, dA cD 3 (mix (sn σ) (pk3 σ t y r) vc)), (A 10, dA cD 3 (mix (sn σ) (pk4 σ t y r) vd)), (A 11, dA cD 3 (mix (sn σ) (pae σ t y r) (mix (sn σ) (mv y (FP.dmul k0_75 r) (rk2 σ t y r)) (mix (sn σ) (mv y (FP.dmul k0_5 r) (fs σ t y)) (vu)))))] H := hP
      refine xeqd (y := mxv (pae σ t y r) (sn σ)) (mxv_mix _ (Nat.le_refl _)) ?_
      refine pX7 hx hb hg hown hI hP hd rfl hS 0 rfl 12 rfl mF_X7_133 rfl rfl rfl (Nat.le_of_ble_eq_true rfl) pm0 dX7_pair_267 (fun H locs hP hS => ?_)
      have hP : va_P D vwCl [(A 0, mO A th (nI (sn σ)) (nI (sc σ)) t sh tl (mxv (pae σ t y r) (sn σ)) fl kp ks tk tz sp wd lv dn rf ev), (A 1, iA cI 10 (so σ)), (A 2, iA cI 10 (sl σ)), (A 3, iA cI 10 (sr σ)), (A 4, dA cD 10 (sk σ)), (A 5, dA cD 3 y), (A 6, dA cD 3 (mix (sn σ) (paz σ t y r) vz)), (A 7, dA cD 3 (mix (sn σ) (fs σ t y) va)), (A 8, dA cD 3 (mix (sn σ) (rk2 σ t y r) vb)), (A 9, dA cD 3 (mix (sn σ) (pk3 σ t y r) vc)), (A 10, dA cD 3 (mix (sn σ) (pk4 σ t y r) vd)), (A 11, dA cD 3 (mix (sn σ) (pae σ t y r) (mix (sn σ) (mv y (FP.dmul k0_75 r) (rk2 σ t y r)) (mix (sn σ) (mv y (FP.dmul k0_5 r) (fs σ t y)) (vu)))))] H := hP
      exact W.vret hx hb hr (fun tS hTS hWS => ⟨(mix (sn σ) (fs σ t y) va, mix (sn σ) (rk2 σ t y r) vb, mix (sn σ) (pk3 σ t y r) vc, mix (sn σ) (pk4 σ t y r) vd, mix (sn σ) (pae σ t y r) (mix (sn σ) (mv y (FP.dmul k0_75 r) (rk2 σ t y r)) (mix (sn σ) (mv y (FP.dmul k0_5 r) (fs σ t y)) (vu)))), rfl, trivial, by rw [hTS]; exact hP.sub [0, 6, 7, 8, 9, 10, 11] rfl, hS.F hTS⟩) hS.2.2 dX7_pair_270

set_option maxHeartbeats 4000000 in
set_option maxRecDepth 100000 in
theorem r_adams (l : Launch) (D : va_G) (cD cI cM cL : ClassId) (A : Nat → Nat) (σ : Sys) (th : Int32) (t sh tl er : UInt64) (fl : Int32) (go : Bool) (ks : UInt64) (tk : Int32) (tz sp : UInt64) (wd : Int32) (lv : UInt64) (dn rf ev : Int32) (y vz va vb vc vd vu : Nat → UInt64) (r : UInt64) (g vn : Nat → UInt64) (hk : okst σ t y r) (hgb : (go && decide (deq ks r)) = true → ∀ i, i < sn σ → bd 1 50 (g i)) : Met l yX7_adams (Cond.code yX7_adams cX7_adams 4 none :: lw_good) { frames := 3, cells := 0, slots := 0, locals := 74 } (xPc D (tyL cD cI cM cL) [.ref (A 0), .double r] [(A 0, mO A th (nI (sn σ)) (nI (sc σ)) t sh tl er fl (bI go) ks tk tz sp wd lv dn rf ev), (A 1, iA cI 10 (so σ)), (A 2, iA cI 10 (sl σ)), (A 3, iA cI 10 (sr σ)), (A 4, dA cD 10 (sk σ)), (A 5, dA cD 3 y), (A 6, dA cD 3 vz), (A 7, dA cD 3 va), (A 8, dA cD 3 vb), (A 9, dA cD 3 vc), (A 10, dA cD 3 vd), (A 11, dA cD 3 vu), (A 14, dA cD 3 g), (A 15, dA cD 3 vn)]) (xQ D [A 0, A 6, A 7, A 8, A 9, A 10, A 11, A 14, A 15] (fun (u : (Nat → UInt64) × (Nat → UInt64) × (Nat → UInt64) × (Nat → UInt64) × (Nat → UInt64)) => none) (fun (u : (Nat → UInt64) × (Nat → UInt64) × (Nat → UInt64) × (Nat → UInt64) × (Nat → UInt64)) => True) (fun (u : (Nat → UInt64) × (Nat → UInt64) × (Nat → UInt64) × (Nat → UInt64) × (Nat → UInt64)) => (A 0, mO A th (nI (sn σ)) (nI (sc σ)) t sh tl er fl (bI go) r tk tz sp wd lv dn rf ev) :: [(A 6, dA cD 3 (mix (sn σ) (if (go && decide (deq ks r)) then adz σ t y r g else rgz σ t y r) vz)), (A 7, dA cD 3 u.1), (A 8, dA cD 3 u.2.1), (A 9, dA cD 3 u.2.2.1), (A 10, dA cD 3 u.2.2.2.1), (A 11, dA cD 3 u.2.2.2.2), (A 14, dA cD 3 (mix (sn σ) (fs σ t y) g)), (A 15, dA cD 3 (mix (sn σ) (fs σ t y) vn))])) 0 0 (fun q => q ∈ ([A 0, A 6, A 7, A 8, A 9, A 10, A 11, A 14, A 15] : List Nat)) := by
  refine xofW (adr := [A 0, A 6, A 7, A 8, A 9, A 10, A 11, A 14, A 15]) (by decide) (Nat.le_of_ble_eq_true rfl) ?_
  intro p e s m below meth c ls hx hb hr hml hg hown hlk hI hP hd hS hl
  have hown : s.vm.findClass RX7 = some m.cls := hown
  have hd : dj [A 0, A 1, A 2, A 3, A 4, A 5, A 6, A 7, A 8, A 9, A 10, A 11, A 14, A 15] := hd
  have hl : lv_has ls 4 [(0, .ref (A 0)), (1, .double r)] := hl
  have hn : sn σ ≤ 3 := hk.1.2.1
  refine lv_aload_n hx hb dX7_adams_0 rfl (lv_at hl 0 rfl) ?_
  refine lv_aload_n hx hb dX7_adams_1 rfl (lv_at hl 0 rfl) ?_
  refine gX7 hx hb hg hown hI hP 0 rfl 7 rfl mF_X7_98 rfl dX7_adams_2 ?_
  refine lv_aload_n hx hb dX7_adams_5 rfl (lv_at hl 0 rfl) ?_
  refine gX7 hx hb hg hown hI hP 0 rfl 10 rfl mF_X7_36 rfl dX7_adams_6 ?_
  refine lv_aload_n hx hb dX7_adams_9 rfl (lv_at hl 0 rfl) ?_
  refine gX7 hx hb hg hown hI hP 0 rfl 24 rfl mF_X7_66 rfl dX7_adams_10 ?_
  refine xcv (xV (As := [.double t, .ref (A 5), .ref (A 15)]) (rest := []) hx hb hml hown hg (r_derive l D cD cI cM cL A σ th t sh tl er fl (bI go) ks tk tz sp wd lv dn rf ev (A 5) (A 15) t (y) (vn) 20 hk.1 (hk.2.1.up (by decide)) hk.2.2.2 (by decide)) mM_X7_101 ok_X7_derive rfl rfl ⟨Nat.le_of_ble_eq_true rfl, Nat.le_of_ble_eq_true rfl⟩ hI hP hd rfl [0, 1, 2, 3, 4, 5, 13] rfl rfl rfl rfl rfl hl.1 rfl (Nat.le_of_ble_eq_true rfl) dX7_adams_13 ⟨Nat.zero_le _, Nat.zero_le _⟩) hP hd hS (fa1 (pmS (pmS (pmS (pmS (pmS (pmS (pmS (pmS pm0)))))))) fa0) [13] rfl rfl (fun _ => rfl) (fun _u H locs hu hP hS => ?_)
  have hP : va_P D vwCl [(A 0, mO A th (nI (sn σ)) (nI (sc σ)) t sh tl er fl (bI go) ks tk tz sp wd lv dn rf ev), (A 1, iA cI 10 (so σ)), (A 2, iA cI 10 (sl σ)), (A 3, iA cI 10 (sr σ)), (A 4, dA cD 10 (sk σ)), (A 5, dA cD 3 y), (A 6, dA cD 3 vz), (A 7, dA cD 3 va), (A 8, dA cD 3 vb), (A 9, dA cD 3 vc), (A 10, dA cD 3 vd), (A 11, dA cD 3 vu), (A 14, dA cD 3 g), (A 15, dA cD 3 (mix (sn σ) (fs σ t (y)) vn))] H := hP
  have hP : va_P D vwCl [(A 0, mO A th (nI (sn σ)) (nI (sc σ)) t sh tl er fl (bI go) ks tk tz sp wd lv dn rf ev), (A 1, iA cI 10 (so σ)), (A 2, iA cI 10 (sl σ)), (A 3, iA cI 10 (sr σ)), (A 4, dA cD 10 (sk σ)), (A 5, dA cD 3 y), (A 6, dA cD 3 vz), (A 7, dA cD 3 va), (A 8, dA cD 3 vb), (A 9, dA cD 3 vc), (A 10, dA cD 3 vd), (A 11, dA cD 3 vu), (A 14, dA cD 3 g), (A 15, dA cD 3 (mix (sn σ) (fs σ t y) vn))] H := hP
  refine xcut (I := fun H locs ls => ∃ (u : (Nat → UInt64) × (Nat → UInt64) × (Nat → UInt64) × (Nat → UInt64) × (Nat → UInt64)), (True) ∧ va_P D vwCl [(A 0, mO A th (nI (sn σ)) (nI (sc σ)) t sh tl er fl (bI go) ks tk tz sp wd lv dn rf ev), (A 1, iA cI 10 (so σ)), (A 2, iA cI 10 (sl σ)), (A 3, iA cI 10 (sr σ)), (A 4, dA cD 10 (sk σ)), (A 5, dA cD 3 y), (A 6, dA cD 3 (mix (sn σ) (if (go && decide (deq ks r)) then adz σ t y r g else rgz σ t y r) vz)), (A 7, dA cD 3 u.1), (A 8, dA cD 3 u.2.1), (A 9, dA cD 3 u.2.2.1), (A 10, dA cD 3 u.2.2.2.1), (A 11, dA cD 3 u.2.2.2.2), (A 14, dA cD 3 g), (A 15, dA cD 3 (mix (sn σ) (fs σ t y) vn))] H ∧ va_S (fun q => q ∈ ([A 0, A 6, A 7, A 8, A 9, A 10, A 11, A 14, A 15] : List Nat)) s.heap H locs ∧ lv_has ls 4 [(0, .ref (A 0)), (1, .double r)]) (pc2 := 158) (rest2 := []) (fun H locs ls hh => ?_) (fun K1 => ?_)
  ·
    obtain ⟨u, _hu, hP, hS, hl⟩ := hh
    refine lv_iconst (v := nI 0) hx hb dX7_adams_158 (by decide) ?_
    refine lv_istore_n (lv' := [(3, .int (nI 0)), (0, .ref (A 0)), (1, .double r)]) hx hb dX7_adams_159 rfl hl (by decide) rfl (fun ls hl => ?_)
    refine xfor (I := fun i H locs ls => ∃ (f' : Nat → UInt64), (f' = mix i (fs σ t y) g) ∧ va_P D vwCl [(A 0, mO A th (nI (sn σ)) (nI (sc σ)) t sh tl er fl (bI go) ks tk tz sp wd lv dn rf ev), (A 1, iA cI 10 (so σ)), (A 2, iA cI 10 (sl σ)), (A 3, iA cI 10 (sr σ)), (A 4, dA cD 10 (sk σ)), (A 5, dA cD 3 y), (A 6, dA cD 3 (mix (sn σ) (if (go && decide (deq ks r)) then adz σ t y r g else rgz σ t y r) vz)), (A 7, dA cD 3 u.1), (A 8, dA cD 3 u.2.1), (A 9, dA cD 3 u.2.2.1), (A 10, dA cD 3 u.2.2.2.1), (A 11, dA cD 3 u.2.2.2.2), (A 14, dA cD 3 f'), (A 15, dA cD 3 (mix (sn σ) (fs σ t y) vn))] H ∧ va_S (fun q => q ∈ ([A 0, A 6, A 7, A 8, A 9, A 10, A 11, A 14, A 15] : List Nat)) s.heap H locs ∧ lv_has ls 4 [(3, .int (nI i)), (0, .ref (A 0)), (1, .double r)]) (sn σ) 0 ⟨_, (mix_0 _ _).symm, hP, hS, lv_sub hl [0, 1, 2] rfl⟩ (Nat.zero_le _) ?_ ?_
    ·
      intro i h_i ih H locs ls ⟨f', hf, hP, hS, hl⟩
      refine lv_iload_n hx hb dX7_adams_160 rfl (lv_at hl 0 rfl) ?_
      refine lv_aload_n hx hb dX7_adams_161 rfl (lv_at hl 1 rfl) ?_
      refine gX7 hx hb hg hown hI hP 0 rfl 1 rfl mF_X7_7 rfl dX7_adams_162 ?_
      refine lv_icmp_ge (tgt := 186) hx hb dX7_adams_165 (by decide) (fun c_165 => absurd c_165 (nI_ge h_i (by omega))) (fun c_165 => ?_)
      refine lv_aload_n hx hb dX7_adams_168 rfl (lv_at hl 1 rfl) ?_
      refine xpc (q := 169) rfl ?_
      refine gX7 hx hb hg hown hI hP 0 rfl 23 rfl mF_X7_63 rfl dX7_adams_169 ?_
      refine lv_iload_n hx hb dX7_adams_172 rfl (lv_at hl 0 rfl) ?_
      refine lv_aload_n hx hb dX7_adams_173 rfl (lv_at hl 1 rfl) ?_
      refine gX7 hx hb hg hown hI hP 0 rfl 24 rfl mF_X7_66 rfl dX7_adams_174 ?_
      refine lv_iload_n hx hb dX7_adams_177 rfl (lv_at hl 0 rfl) ?_
      refine xdald hx hb hI hP 13 0 rfl rfl (Nat.lt_of_lt_of_le h_i hn) (by decide) dX7_adams_178 ?_
      refine xeqd (y := (fs σ t y) i) (mix_lt h_i) ?_
      refine xdast hx hb hI hP hd rfl hS 12 0 rfl rfl (Nat.lt_of_lt_of_le h_i hn) (by decide) (pmS (pmS (pmS (pmS (pmS (pmS (pmS pm0))))))) dX7_adams_179 (fun H locs hP hS => ?_)
      have hP : va_P D vwCl [(A 0, mO A th (nI (sn σ)) (nI (sc σ)) t sh tl er fl (bI go) ks tk tz sp wd lv dn rf ev), (A 1, iA cI 10 (so σ)), (A 2, iA cI 10 (sl σ)), (A 3, iA cI 10 (sr σ)), (A 4, dA cD 10 (sk σ)), (A 5, dA cD 3 y), (A 6, dA cD 3 (mix (sn σ) (if (go && decide (deq ks r)) then adz σ t y r g else rgz σ t y r) vz)), (A 7, dA cD 3 u.1), (A 8, dA cD 3 u.2.1), (A 9, dA cD 3 u.2.2.1), (A 10, dA cD 3 u.2.2.2.1), (A 11, dA cD 3 u.2.2.2.2), (A 14, dA cD 3 (vf_upd f' i ((fs σ t y) i))), (A 15, dA cD 3 (mix (sn σ) (fs σ t y) vn))] H := hP
      refine lv_iinc (v := nI (i + 1)) (lv' := [(3, .int (nI (i + 1))), (0, .ref (A 0)), (1, .double r)]) hx hb dX7_adams_180 hl (k := 0) rfl (nI_1 i) (by decide) rfl (fun ls hl => ?_)
      refine lv_goto (tgt := 160) hx hb dX7_adams_183 (by decide) ?_
      exact ih _ _ _ ⟨_, mix_s hf rfl, hP, hS, lv_sub hl [0, 1, 2] rfl⟩
    ·
      intro H locs ls ⟨f', hf, hP, hS, hl⟩
      refine lv_iload_n hx hb dX7_adams_160 rfl (lv_at hl 0 rfl) ?_
      refine lv_aload_n hx hb dX7_adams_161 rfl (lv_at hl 1 rfl) ?_
      refine gX7 hx hb hg hown hI hP 0 rfl 1 rfl mF_X7_7 rfl dX7_adams_162 ?_
      refine lv_icmp_ge (tgt := 186) hx hb dX7_adams_165 (by decide) (fun c_165 => ?_) (fun c_165 => absurd (Int32.le_refl _) c_165)
      subst hf
      refine lv_aload_n hx hb dX7_adams_186 rfl (lv_at hl 1 rfl) ?_
      refine xpc (q := 187) rfl ?_
      refine lv_dload_n hx hb dX7_adams_187 rfl (lv_at hl 2 rfl) ?_
      refine pX7 hx hb hg hown hI hP hd rfl hS 0 rfl 22 rfl mF_X7_140 rfl rfl rfl (Nat.le_of_ble_eq_true rfl) pm0 dX7_adams_188 (fun H locs hP hS => ?_)
      have hP : va_P D vwCl [(A 0, mO A th (nI (sn σ)) (nI (sc σ)) t sh tl er fl (bI go) r tk tz sp wd lv dn rf ev), (A 1, iA cI 10 (so σ)), (A 2, iA cI 10 (sl σ)), (A 3, iA cI 10 (sr σ)), (A 4, dA cD 10 (sk σ)), (A 5, dA cD 3 y), (A 6, dA cD 3 (mix (sn σ) (if (go && decide (deq ks r)) then adz σ t y r g else rgz σ t y r) vz)), (A 7, dA cD 3 u.1), (A 8, dA cD 3 u.2.1), (A 9, dA cD 3 u.2.2.1), (A 10, dA cD 3 u.2.2.2.1), (A 11, dA cD 3 u.2.2.2.2), (A 14, dA cD 3 (mix (sn σ) (fs σ t y) g)), (A 15, dA cD 3 (mix (sn σ) (fs σ t y) vn))] H := hP
      exact W.vret hx hb hr (fun tS hTS hWS => ⟨u, rfl, trivial, by rw [hTS]; exact hP.sub [0, 6, 7, 8, 9, 10, 11, 12, 13] rfl, hS.F hTS⟩) hS.2.2 dX7_adams_191
  ·
    refine lv_aload_n hx hb dX7_adams_16 rfl (lv_at hl 0 rfl) ?_
    refine gX7 hx hb hg hown hI hP 0 rfl 21 rfl mF_X7_136 rfl dX7_adams_17 ?_
    refine lv_if_eq (tgt := 153) hx hb dX7_adams_20 (by decide) (fun c_20 => ?_) (fun c_20 => ?_)
    ·
      have hgf : (go && decide (deq ks r)) = false := by rw [bI_eq0.mp c_20]; rfl
      refine lv_aload_n hx hb dX7_adams_153 rfl (lv_at hl 0 rfl) ?_
      refine lv_dload_n hx hb dX7_adams_154 rfl (lv_at hl 1 rfl) ?_
      refine xcv (xV (As := [.double r]) (rest := []) hx hb hml hown hg (r_runge l D cD cI cM cL A σ th t sh tl er fl (bI go) ks tk tz sp wd lv dn rf ev y vz va vb vc vd vu r hk) mM_X7_145 ok_X7_runge rfl rfl ⟨Nat.le_of_ble_eq_true rfl, Nat.le_of_ble_eq_true rfl⟩ hI hP hd rfl [0, 1, 2, 3, 4, 5, 6, 7, 8, 9, 10, 11] rfl rfl rfl rfl rfl hl.1 rfl (Nat.le_of_ble_eq_true rfl) dX7_adams_155 ⟨Nat.zero_le _, Nat.zero_le _⟩) hP hd hS (fa1 (pmS pm0) (fa1 (pmS (pmS pm0)) (fa1 (pmS (pmS (pmS pm0))) (fa1 (pmS (pmS (pmS (pmS pm0)))) (fa1 (pmS (pmS (pmS (pmS (pmS pm0))))) (fa1 (pmS (pmS (pmS (pmS (pmS (pmS pm0)))))) fa0)))))) [6, 7, 8, 9, 10, 11] rfl rfl (fun _ => rfl) (fun u H locs hu hP hS => ?_)
      have hP : va_P D vwCl [(A 0, mO A th (nI (sn σ)) (nI (sc σ)) t sh tl er fl (bI go) ks tk tz sp wd lv dn rf ev), (A 1, iA cI 10 (so σ)), (A 2, iA cI 10 (sl σ)), (A 3, iA cI 10 (sr σ)), (A 4, dA cD 10 (sk σ)), (A 5, dA cD 3 y), (A 6, dA cD 3 (mix (sn σ) (rgz σ t y r) vz)), (A 7, dA cD 3 u.1), (A 8, dA cD 3 u.2.1), (A 9, dA cD 3 u.2.2.1), (A 10, dA cD 3 u.2.2.2.1), (A 11, dA cD 3 u.2.2.2.2), (A 14, dA cD 3 g), (A 15, dA cD 3 (mix (sn σ) (fs σ t y) vn))] H := hP
      rw [show rgz σ t y r = (if (go && decide (deq ks r)) then adz σ t y r g else rgz σ t y r) by rw [hgf]; rfl] at hP
      exact K1 _ _ _ ⟨u, trivial, hP, hS, lv_sub hl [0, 1] rfl⟩
    ·
      refine lv_aload_n hx hb dX7_adams_23 rfl (lv_at hl 0 rfl) ?_
      refine gX7 hx hb hg hown hI hP 0 rfl 22 rfl mF_X7_140 rfl dX7_adams_24 ?_
      refine lv_dload_n hx hb dX7_adams_27 rfl (lv_at hl 1 rfl) ?_
      refine xl_ne (tgt := 153) hx hb dX7_adams_28 dX7_adams_29 (by decide) (fun c_28 => ?_) (fun c_28 => ?_)
      ·
        have hgf : (go && decide (deq ks r)) = false := by rw [df c_28, Bool.and_false]
        refine lv_aload_n hx hb dX7_adams_153 rfl (lv_at hl 0 rfl) ?_
        refine lv_dload_n hx hb dX7_adams_154 rfl (lv_at hl 1 rfl) ?_
        refine xcv (xV (As := [.double r]) (rest := []) hx hb hml hown hg (r_runge l D cD cI cM cL A σ th t sh tl er fl (bI go) ks tk tz sp wd lv dn rf ev y vz va vb vc vd vu r hk) mM_X7_145 ok_X7_runge rfl rfl ⟨Nat.le_of_ble_eq_true rfl, Nat.le_of_ble_eq_true rfl⟩ hI hP hd rfl [0, 1, 2, 3, 4, 5, 6, 7, 8, 9, 10, 11] rfl rfl rfl rfl rfl hl.1 rfl (Nat.le_of_ble_eq_true rfl) dX7_adams_155 ⟨Nat.zero_le _, Nat.zero_le _⟩) hP hd hS (fa1 (pmS pm0) (fa1 (pmS (pmS pm0)) (fa1 (pmS (pmS (pmS pm0))) (fa1 (pmS (pmS (pmS (pmS pm0)))) (fa1 (pmS (pmS (pmS (pmS (pmS pm0))))) (fa1 (pmS (pmS (pmS (pmS (pmS (pmS pm0)))))) fa0)))))) [6, 7, 8, 9, 10, 11] rfl rfl (fun _ => rfl) (fun u H locs hu hP hS => ?_)
        have hP : va_P D vwCl [(A 0, mO A th (nI (sn σ)) (nI (sc σ)) t sh tl er fl (bI go) ks tk tz sp wd lv dn rf ev), (A 1, iA cI 10 (so σ)), (A 2, iA cI 10 (sl σ)), (A 3, iA cI 10 (sr σ)), (A 4, dA cD 10 (sk σ)), (A 5, dA cD 3 y), (A 6, dA cD 3 (mix (sn σ) (rgz σ t y r) vz)), (A 7, dA cD 3 u.1), (A 8, dA cD 3 u.2.1), (A 9, dA cD 3 u.2.2.1), (A 10, dA cD 3 u.2.2.2.1), (A 11, dA cD 3 u.2.2.2.2), (A 14, dA cD 3 g), (A 15, dA cD 3 (mix (sn σ) (fs σ t y) vn))] H := hP
        rw [show rgz σ t y r = (if (go && decide (deq ks r)) then adz σ t y r g else rgz σ t y r) by rw [hgf]; rfl] at hP
        exact K1 _ _ _ ⟨u, trivial, hP, hS, lv_sub hl [0, 1] rfl⟩
      ·
        have hgt : (go && decide (deq ks r)) = true := by rw [bI_ne0.mp c_20, dt c_28]; rfl
        have hg0 := hgb hgt
        refine lv_iconst (v := nI 0) hx hb dX7_adams_32 (by decide) ?_
        refine xpc (q := 33) rfl ?_
        refine lv_istore_n (lv' := [(3, .int (nI 0)), (0, .ref (A 0)), (1, .double r)]) hx hb dX7_adams_33 rfl hl (by decide) rfl (fun ls hl => ?_)
        refine xfor (I := fun i H locs ls => ∃ (f' : Nat → UInt64), (f' = mix i (adp σ t y r g) vu) ∧ va_P D vwCl [(A 0, mO A th (nI (sn σ)) (nI (sc σ)) t sh tl er fl (bI go) ks tk tz sp wd lv dn rf ev), (A 1, iA cI 10 (so σ)), (A 2, iA cI 10 (sl σ)), (A 3, iA cI 10 (sr σ)), (A 4, dA cD 10 (sk σ)), (A 5, dA cD 3 y), (A 6, dA cD 3 vz), (A 7, dA cD 3 va), (A 8, dA cD 3 vb), (A 9, dA cD 3 vc), (A 10, dA cD 3 vd), (A 11, dA cD 3 f'), (A 14, dA cD 3 g), (A 15, dA cD 3 (mix (sn σ) (fs σ t y) vn))] H ∧ va_S (fun q => q ∈ ([A 0, A 6, A 7, A 8, A 9, A 10, A 11, A 14, A 15] : List Nat)) s.heap H locs ∧ lv_has ls 4 [(3, .int (nI i)), (0, .ref (A 0)), (1, .double r)]) (sn σ) 0 ⟨_, (mix_0 _ _).symm, hP, hS, lv_sub hl [0, 1, 2] rfl⟩ (Nat.zero_le _) ?_ ?_
        ·
          intro i h_i ih H locs ls ⟨f', hf, hP, hS, hl⟩
          refine lv_iload_n hx hb dX7_adams_34 rfl (lv_at hl 0 rfl) ?_
          refine lv_aload_n hx hb dX7_adams_35 rfl (lv_at hl 1 rfl) ?_
          refine gX7 hx hb hg hown hI hP 0 rfl 1 rfl mF_X7_7 rfl dX7_adams_36 ?_
          refine lv_icmp_ge (tgt := 84) hx hb dX7_adams_39 (by decide) (fun c_39 => absurd c_39 (nI_ge h_i (by omega))) (fun c_39 => ?_)
          refine lv_aload_n hx hb dX7_adams_42 rfl (lv_at hl 1 rfl) ?_
          refine gX7 hx hb hg hown hI hP 0 rfl 18 rfl mF_X7_54 rfl dX7_adams_43 ?_
          refine lv_iload_n hx hb dX7_adams_46 rfl (lv_at hl 0 rfl) ?_
          refine lv_aload_n hx hb dX7_adams_47 rfl (lv_at hl 1 rfl) ?_
          refine gX7 hx hb hg hown hI hP 0 rfl 10 rfl mF_X7_36 rfl dX7_adams_48 ?_
          refine lv_iload_n hx hb dX7_adams_51 rfl (lv_at hl 0 rfl) ?_
          refine xdald hx hb hI hP 5 0 rfl rfl (Nat.lt_of_lt_of_le h_i hn) (by decide) dX7_adams_52 ?_
          refine lv_dload_n hx hb dX7_adams_53 rfl (lv_at hl 2 rfl) ?_
          refine lv_ldc2d (v := k1_5) hx hb hown (hg _ mD_X7_143) dX7_adams_54 ?_
          refine lv_aload_n hx hb dX7_adams_57 rfl (lv_at hl 1 rfl) ?_
          refine xpc (q := 58) rfl ?_
          refine gX7 hx hb hg hown hI hP 0 rfl 24 rfl mF_X7_66 rfl dX7_adams_58 ?_
          refine lv_iload_n hx hb dX7_adams_61 rfl (lv_at hl 0 rfl) ?_
          refine xdald hx hb hI hP 13 0 rfl rfl (Nat.lt_of_lt_of_le h_i hn) (by decide) dX7_adams_62 ?_
          refine xeqd (y := (fs σ t y) i) (mix_lt h_i) ?_
          have b1 : bd 1 51 (FP.dmul k1_5 ((fs σ t y) i)) := bd_mul b_k1_5 (f0_bd (i := i) hk) (by decide) (by decide)
          refine lv_dmul hx hb dX7_adams_63 b1.nn ?_
          refine lv_ldc2d (v := k0_5) hx hb hown (hg _ mD_X7_105) dX7_adams_64 ?_
          refine lv_aload_n hx hb dX7_adams_67 rfl (lv_at hl 1 rfl) ?_
          refine gX7 hx hb hg hown hI hP 0 rfl 23 rfl mF_X7_63 rfl dX7_adams_68 ?_
          refine lv_iload_n hx hb dX7_adams_71 rfl (lv_at hl 0 rfl) ?_
          refine xdald hx hb hI hP 12 0 rfl rfl (Nat.lt_of_lt_of_le h_i hn) (by decide) dX7_adams_72 ?_
          have b2 : bd 1 50 (FP.dmul k0_5 (g i)) := bd_mul b_k0_5 (hg0 i h_i) (by decide) (by decide)
          refine lv_dmul hx hb dX7_adams_73 b2.nn ?_
          have b3 : bd 1 52 (FP.dsub (FP.dmul k1_5 ((fs σ t y) i)) (FP.dmul k0_5 (g i))) := bd_sub b1 b2 (by decide) (by decide) (by decide)
          refine lv_dsub hx hb dX7_adams_74 b3.nn ?_
          have b4 : bd 1 54 (FP.dmul r (FP.dsub (FP.dmul k1_5 ((fs σ t y) i)) (FP.dmul k0_5 (g i)))) := bd_mul hk.2.2.1 b3 (by decide) (by decide)
          refine lv_dmul hx hb dX7_adams_75 b4.nn ?_
          have b5 : bd 1 55 (FP.dadd (y i) (FP.dmul r (FP.dsub (FP.dmul k1_5 ((fs σ t y) i)) (FP.dmul k0_5 (g i))))) := bd_add (hk.2.2.2 i h_i) b4 (by decide) (by decide) (by decide)
          refine lv_dadd hx hb dX7_adams_76 b5.nn ?_
          refine xdast hx hb hI hP hd rfl hS 11 0 rfl rfl (Nat.lt_of_lt_of_le h_i hn) (by decide) (pmS (pmS (pmS (pmS (pmS (pmS pm0)))))) dX7_adams_77 (fun H locs hP hS => ?_)
          have hP : va_P D vwCl [(A 0, mO A th (nI (sn σ)) (nI (sc σ)) t sh tl er fl (bI go) ks tk tz sp wd lv dn rf ev), (A 1, iA cI 10 (so σ)), (A 2, iA cI 10 (sl σ)), (A 3, iA cI 10 (sr σ)), (A 4, dA cD 10 (sk σ)), (A 5, dA cD 3 y), (A 6, dA cD 3 vz), (A 7, dA cD 3 va), (A 8, dA cD 3 vb), (A 9, dA cD 3 vc), (A 10, dA cD 3 vd), (A 11, dA cD 3 (vf_upd f' i (FP.dadd (y i) (FP.dmul r (FP.dsub (FP.dmul k1_5 ((fs σ t y) i)) (FP.dmul k0_5 (g i))))))), (A 14, dA cD 3 g), (A 15, dA cD 3 (mix (sn σ) (fs σ t y) vn))] H := hP
          refine xpc (q := 78) rfl ?_
          refine lv_iinc (v := nI (i + 1)) (lv' := [(3, .int (nI (i + 1))), (0, .ref (A 0)), (1, .double r)]) hx hb dX7_adams_78 hl (k := 0) rfl (nI_1 i) (by decide) rfl (fun ls hl => ?_)
          refine lv_goto (tgt := 34) hx hb dX7_adams_81 (by decide) ?_
          exact ih _ _ _ ⟨_, mix_s hf rfl, hP, hS, lv_sub hl [0, 1, 2] rfl⟩
        ·
          intro H locs ls ⟨f', hf, hP, hS, hl⟩
          refine lv_iload_n hx hb dX7_adams_34 rfl (lv_at hl 0 rfl) ?_
          refine lv_aload_n hx hb dX7_adams_35 rfl (lv_at hl 1 rfl) ?_
          refine gX7 hx hb hg hown hI hP 0 rfl 1 rfl mF_X7_7 rfl dX7_adams_36 ?_
          refine lv_icmp_ge (tgt := 84) hx hb dX7_adams_39 (by decide) (fun c_39 => ?_) (fun c_39 => absurd (Int32.le_refl _) c_39)
          subst hf
          refine lv_aload_n hx hb dX7_adams_84 rfl (lv_at hl 1 rfl) ?_
          refine lv_aload_n hx hb dX7_adams_85 rfl (lv_at hl 1 rfl) ?_
          refine gX7 hx hb hg hown hI hP 0 rfl 7 rfl mF_X7_98 rfl dX7_adams_86 ?_
          refine lv_dload_n hx hb dX7_adams_89 rfl (lv_at hl 2 rfl) ?_
          have b1 : bd 1 17 (FP.dadd t r) := bd_add hk.2.1 hk.2.2.1 (by decide) (by decide) (by decide)
          refine lv_dadd hx hb dX7_adams_90 b1.nn ?_
          refine lv_aload_n hx hb dX7_adams_91 rfl (lv_at hl 1 rfl) ?_
          refine gX7 hx hb hg hown hI hP 0 rfl 18 rfl mF_X7_54 rfl dX7_adams_92 ?_
          refine lv_aload_n hx hb dX7_adams_95 rfl (lv_at hl 1 rfl) ?_
          refine gX7 hx hb hg hown hI hP 0 rfl 14 rfl mF_X7_42 rfl dX7_adams_96 ?_
          refine xcv (xV (As := [.double (FP.dadd t r), .ref (A 11), .ref (A 7)]) (rest := []) hx hb hml hown hg (r_derive l D cD cI cM cL A σ th t sh tl er fl (bI go) ks tk tz sp wd lv dn rf ev (A 11) (A 7) (FP.dadd t r) (mix (sn σ) (adp σ t y r g) vu) (va) 56 hk.1 ((t2_bd hk hk.2.2.1).up (by decide)) (fun i hi => by rw [mix_lt hi]; exact adp_bd hk (hg0 i hi) hi) (by decide)) mM_X7_101 ok_X7_derive rfl rfl ⟨Nat.le_of_ble_eq_true rfl, Nat.le_of_ble_eq_true rfl⟩ hI hP hd rfl [0, 1, 2, 3, 4, 11, 7] rfl rfl rfl rfl rfl hl.1 rfl (Nat.le_of_ble_eq_true rfl) dX7_adams_99 ⟨Nat.zero_le _, Nat.zero_le _⟩) hP hd hS (fa1 (pmS (pmS pm0)) fa0) [7] rfl rfl (fun _ => rfl) (fun _u H locs hu hP hS => ?_)
          have hP : va_P D vwCl [(A 0, mO A th (nI (sn σ)) (nI (sc σ)) t sh tl er fl (bI go) ks tk tz sp wd lv dn rf ev), (A 1, iA cI 10 (so σ)), (A 2, iA cI 10 (sl σ)), (A 3, iA cI 10 (sr σ)), (A 4, dA cD 10 (sk σ)), (A 5, dA cD 3 y), (A 6, dA cD 3 vz), (A 7, dA cD 3 (mix (sn σ) (fs σ (FP.dadd t r) (mix (sn σ) (adp σ t y r g) vu)) va)), (A 8, dA cD 3 vb), (A 9, dA cD 3 vc), (A 10, dA cD 3 vd), (A 11, dA cD 3 (mix (sn σ) (adp σ t y r g) vu)), (A 14, dA cD 3 g), (A 15, dA cD 3 (mix (sn σ) (fs σ t y) vn))] H := hP
          have hP : va_P D vwCl [(A 0, mO A th (nI (sn σ)) (nI (sc σ)) t sh tl er fl (bI go) ks tk tz sp wd lv dn rf ev), (A 1, iA cI 10 (so σ)), (A 2, iA cI 10 (sl σ)), (A 3, iA cI 10 (sr σ)), (A 4, dA cD 10 (sk σ)), (A 5, dA cD 3 y), (A 6, dA cD 3 vz), (A 7, dA cD 3 (mix (sn σ) (fs σ (FP.dadd t r) (adp σ t y r g)) va)), (A 8, dA cD 3 vb), (A 9, dA cD 3 vc), (A 10, dA cD 3 vd), (A 11, dA cD 3 (mix (sn σ) (adp σ t y r g) vu)), (A 14, dA cD 3 g), (A 15, dA cD 3 (mix (sn σ) (fs σ t y) vn))] H := by rw [← fs_mix (σ := σ) (t := FP.dadd t r) (g := adp σ t y r g) (f := vu) hn]; exact hP
          have hP : va_P D vwCl [(A 0, mO A th (nI (sn σ)) (nI (sc σ)) t sh tl er fl (bI go) ks tk tz sp wd lv dn rf ev), (A 1, iA cI 10 (so σ)), (A 2, iA cI 10 (sl σ)), (A 3, iA cI 10 (sr σ)), (A 4, dA cD 10 (sk σ)), (A 5, dA cD 3 y), (A 6, dA cD 3 vz), (A 7, dA cD 3 (mix (sn σ) (fs σ (FP.dadd t r) (adp σ t y r g)) va)), (A 8, dA cD 3 vb), (A 9, dA cD 3 vc), (A 10, dA cD 3 vd), (A 11, dA cD 3 (mix (sn σ) (adp σ t y r g) vu)), (A 14, dA cD 3 g), (A 15, dA cD 3 (mix (sn σ) (fs σ t y) vn))] H := hP
          refine lv_iconst (v := nI 0) hx hb dX7_adams_102 (by decide) ?_
          refine xpc (q := 103) rfl ?_
          refine lv_istore_n (lv' := [(3, .int (nI 0)), (0, .ref (A 0)), (1, .double r)]) hx hb dX7_adams_103 rfl hl (by decide) rfl (fun ls hl => ?_)
          refine xfor (I := fun i H locs ls => ∃ (f' : Nat → UInt64), (f' = mix i (adz σ t y r g) vz) ∧ va_P D vwCl [(A 0, mO A th (nI (sn σ)) (nI (sc σ)) t sh tl er fl (bI go) ks tk tz sp wd lv dn rf ev), (A 1, iA cI 10 (so σ)), (A 2, iA cI 10 (sl σ)), (A 3, iA cI 10 (sr σ)), (A 4, dA cD 10 (sk σ)), (A 5, dA cD 3 y), (A 6, dA cD 3 f'), (A 7, dA cD 3 (mix (sn σ) (fs σ (FP.dadd t r) (adp σ t y r g)) va)), (A 8, dA cD 3 vb), (A 9, dA cD 3 vc), (A 10, dA cD 3 vd), (A 11, dA cD 3 (mix (sn σ) (adp σ t y r g) vu)), (A 14, dA cD 3 g), (A 15, dA cD 3 (mix (sn σ) (fs σ t y) vn))] H ∧ va_S (fun q => q ∈ ([A 0, A 6, A 7, A 8, A 9, A 10, A 11, A 14, A 15] : List Nat)) s.heap H locs ∧ lv_has ls 4 [(3, .int (nI i)), (0, .ref (A 0)), (1, .double r)]) (sn σ) 0 ⟨_, (mix_0 _ _).symm, hP, hS, lv_sub hl [0, 1, 2] rfl⟩ (Nat.zero_le _) ?_ ?_
          ·
            intro i h_i ih H locs ls ⟨f', hf, hP, hS, hl⟩
            refine lv_iload_n hx hb dX7_adams_104 rfl (lv_at hl 0 rfl) ?_
            refine lv_aload_n hx hb dX7_adams_105 rfl (lv_at hl 1 rfl) ?_
            refine gX7 hx hb hg hown hI hP 0 rfl 1 rfl mF_X7_7 rfl dX7_adams_106 ?_
            refine lv_icmp_ge (tgt := 150) hx hb dX7_adams_109 (by decide) (fun c_109 => absurd c_109 (nI_ge h_i (by omega))) (fun c_109 => ?_)
            refine lv_aload_n hx hb dX7_adams_112 rfl (lv_at hl 1 rfl) ?_
            refine gX7 hx hb hg hown hI hP 0 rfl 11 rfl mF_X7_39 rfl dX7_adams_113 ?_
            refine lv_iload_n hx hb dX7_adams_116 rfl (lv_at hl 0 rfl) ?_
            refine lv_aload_n hx hb dX7_adams_117 rfl (lv_at hl 1 rfl) ?_
            refine gX7 hx hb hg hown hI hP 0 rfl 10 rfl mF_X7_36 rfl dX7_adams_118 ?_
            refine lv_iload_n hx hb dX7_adams_121 rfl (lv_at hl 0 rfl) ?_
            refine xdald hx hb hI hP 5 0 rfl rfl (Nat.lt_of_lt_of_le h_i hn) (by decide) dX7_adams_122 ?_
            refine lv_ldc2d (v := k0_5) hx hb hown (hg _ mD_X7_105) dX7_adams_123 ?_
            refine lv_dload_n hx hb dX7_adams_126 rfl (lv_at hl 2 rfl) ?_
            have b2 : bd 1 2 (FP.dmul k0_5 r) := bd_mul b_k0_5 hk.2.2.1 (by decide) (by decide)
            refine lv_dmul hx hb dX7_adams_127 b2.nn ?_
            refine xpc (q := 128) rfl ?_
            refine lv_aload_n hx hb dX7_adams_128 rfl (lv_at hl 1 rfl) ?_
            refine gX7 hx hb hg hown hI hP 0 rfl 14 rfl mF_X7_42 rfl dX7_adams_129 ?_
            refine lv_iload_n hx hb dX7_adams_132 rfl (lv_at hl 0 rfl) ?_
            refine xdald hx hb hI hP 7 0 rfl rfl (Nat.lt_of_lt_of_le h_i hn) (by decide) dX7_adams_133 ?_
            refine xeqd (y := (fs σ (FP.dadd t r) (adp σ t y r g)) i) (mix_lt h_i) ?_
            refine lv_aload_n hx hb dX7_adams_134 rfl (lv_at hl 1 rfl) ?_
            refine gX7 hx hb hg hown hI hP 0 rfl 24 rfl mF_X7_66 rfl dX7_adams_135 ?_
            refine lv_iload_n hx hb dX7_adams_138 rfl (lv_at hl 0 rfl) ?_
            refine xdald hx hb hI hP 13 0 rfl rfl (Nat.lt_of_lt_of_le h_i hn) (by decide) dX7_adams_139 ?_
            refine xeqd (y := (fs σ t y) i) (mix_lt h_i) ?_
            have b3 : bd 1 123 (FP.dadd ((fs σ (FP.dadd t r) (adp σ t y r g)) i) ((fs σ t y) i)) := bd_add (adf_bd (i := i) hk hg0) (f0_bd (i := i) hk) (by decide) (by decide) (by decide)
            refine lv_dadd hx hb dX7_adams_140 b3.nn ?_
            have b4 : bd 1 125 (FP.dmul (FP.dmul k0_5 r) (FP.dadd ((fs σ (FP.dadd t r) (adp σ t y r g)) i) ((fs σ t y) i))) := bd_mul b2 b3 (by decide) (by decide)
            refine lv_dmul hx hb dX7_adams_141 b4.nn ?_
            have b5 : bd 1 126 (FP.dadd (y i) (FP.dmul (FP.dmul k0_5 r) (FP.dadd ((fs σ (FP.dadd t r) (adp σ t y r g)) i) ((fs σ t y) i)))) := bd_add (hk.2.2.2 i h_i) b4 (by decide) (by decide) (by decide)
            refine lv_dadd hx hb dX7_adams_142 b5.nn ?_
            refine xdast hx hb hI hP hd rfl hS 6 0 rfl rfl (Nat.lt_of_lt_of_le h_i hn) (by decide) (pmS pm0) dX7_adams_143 (fun H locs hP hS => ?_)
            have hP : va_P D vwCl [(A 0, mO A th (nI (sn σ)) (nI (sc σ)) t sh tl er fl (bI go) ks tk tz sp wd lv dn rf ev), (A 1, iA cI 10 (so σ)), (A 2, iA cI 10 (sl σ)), (A 3, iA cI 10 (sr σ)), (A 4, dA cD 10 (sk σ)), (A 5, dA cD 3 y), (A 6, dA cD 3 (vf_upd f' i (FP.dadd (y i) (FP.dmul (FP.dmul k0_5 r) (FP.dadd ((fs σ (FP.dadd t r) (adp σ t y r g)) i) ((fs σ t y) i)))))), (A 7, dA cD 3 (mix (sn σ) (fs σ (FP.dadd t r) (adp σ t y r g)) va)), (A 8, dA cD 3 vb), (A 9, dA cD 3 vc), (A 10, dA cD 3 vd), (A 11, dA cD 3 (mix (sn σ) (adp σ t y r g) vu)), (A 14, dA cD 3 g), (A 15, dA cD 3 (mix (sn σ) (fs σ t y) vn))] H := hP
            refine lv_iinc (v := nI (i + 1)) (lv' := [(3, .int (nI (i + 1))), (0, .ref (A 0)), (1, .double r)]) hx hb dX7_adams_144 hl (k := 0) rfl (nI_1 i) (by decide) rfl (fun ls hl => ?_)
            refine lv_goto (tgt := 104) hx hb dX7_adams_147 (by decide) ?_
            exact ih _ _ _ ⟨_, mix_s hf rfl, hP, hS, lv_sub hl [0, 1, 2] rfl⟩
          ·
            intro H locs ls ⟨f', hf, hP, hS, hl⟩
            refine lv_iload_n hx hb dX7_adams_104 rfl (lv_at hl 0 rfl) ?_
            refine lv_aload_n hx hb dX7_adams_105 rfl (lv_at hl 1 rfl) ?_
            refine gX7 hx hb hg hown hI hP 0 rfl 1 rfl mF_X7_7 rfl dX7_adams_106 ?_
            refine lv_icmp_ge (tgt := 150) hx hb dX7_adams_109 (by decide) (fun c_109 => ?_) (fun c_109 => absurd (Int32.le_refl _) c_109)
            subst hf
            refine lv_goto (tgt := 158) hx hb dX7_adams_150 (by decide) ?_
            rw [show adz σ t y r g = (if (go && decide (deq ks r)) then adz σ t y r g else rgz σ t y r) by rw [hgt]; rfl] at hP
            exact K1 _ _ _ ⟨(mix (sn σ) (fs σ (FP.dadd t r) (adp σ t y r g)) va, vb, vc, vd, mix (sn σ) (adp σ t y r g) vu), trivial, hP, hS, lv_sub hl [1, 2] rfl⟩
