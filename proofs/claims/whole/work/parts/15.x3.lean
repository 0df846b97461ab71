theorem ok_X3_walk : okV yX3_walk RX3 cX3_walk 10 none 3 := ⟨mI_X3_walk, mS_X3_walk, mN_X3, mC_X3_walk, by decide +kernel⟩
theorem ok_X3_refine : okV yX3_refine RX3 cX3_refine 3 none 1 := ⟨mI_X3_refine, mS_X3_refine, mN_X3, mC_X3_refine, by decide +kernel⟩
set_option maxHeartbeats 4000000 in
set_option maxRecDepth 100000 in
theorem c_walk (l : Launch) (D : va_G) (cD cI cM cL : ClassId) (hT hE hX hY aO aK aL aR a2 a3 a4 aS aY a1 aZ : Nat) (σ : Sys) (t r er : UInt64) (aB aA aF aC aN : Nat) (aI : Nat) (y v1 vB vA vF vI : Nat → UInt64) (mm S : Nat) (hk : okst σ t y r) (hs : bd 1 S (mst r mm)) (hS1 : S ≤ 1) (hm : 1 ≤ mm ∧ mm - 1 ≤ 3) (hB : ∀ q, q ≤ mm - 1 → 2 * mB S q + 13 ≤ 1000) : Met l yX3_walk (Cond.code yX3_walk cX3_walk 10 none :: lw_good) { frames := 2, cells := 0, slots := 0, locals := 50 } (xPc D (tyL cD cI cM cL) [.ref hY, .int (nI mm), .ref hT, .ref aI] [(hY, .inr (3, [.ref hE, .ref aB, .ref aA, .ref aF, .ref aC, .ref aN])), (hT, .inr (4, [.ref hE, .ref hX, .ref hY, .ref a2, .ref a3, .ref a4, .ref aS, .ref aY, .ref a1, .ref aZ, .double t, .double r, .double er])), (hE, .inr (0, [.ref aO, .ref aK, .ref aL, .ref aR, .int (nI (sn σ)), .int (nI (sc σ))])), (aO, iA cI 10 (so σ)), (aK, dA cD 10 (sk σ)), (aL, iA cI 10 (sl σ)), (aR, iA cI 10 (sr σ)), (aY, dA cD 3 y), (a1, dA cD 3 (mix (sn σ) (fs σ t y) v1)), (aB, dA cD 3 vB), (aA, dA cD 3 vA), (aF, dA cD 3 vF), (aI, dA cD 3 vI)]) (xQ D [aB, aA, aF, aI] (fun (u : (Nat → UInt64) × (Nat → UInt64) × (Nat → UInt64)) => none) (fun (u : (Nat → UInt64) × (Nat → UInt64) × (Nat → UInt64)) => True) (fun (u : (Nat → UInt64) × (Nat → UInt64) × (Nat → UInt64)) => [(aB, dA cD 3 u.1), (aA, dA cD 3 u.2.1), (aF, dA cD 3 u.2.2), (aI, dA cD 3 (mix (sn σ) (mie σ t y r mm) vI))])) 0 0 (fun q => q ∈ ([aB, aA, aF, aI] : List Nat)) := by
  refine xofW (adr := [aB, aA, aF, aI]) (by decide) (Nat.le_of_ble_eq_true rfl) ?_
  intro p e s m below meth c ls hx hb hr hml hg hown hlk hI hP hd hS hl
  have hown : s.vm.findClass RX3 = some m.cls := hown
  have hd : dj [hY, hT, hE, aO, aK, aL, aR, aY, a1, aB, aA, aF, aI] := hd
  have hl : lv_has ls 10 [(0, .ref hY), (1, .int (nI mm)), (2, .ref hT), (3, .ref aI)] := hl
  have hn : sn σ ≤ 3 := hk.1.2.1
  refine lv_aload_n hx hb dX3_walk_0 rfl (lv_at hl 2 rfl) ?_
  refine gX4 hx hb hg hown hI hP 1 rfl 11 rfl mF_X3_48 rfl dX3_walk_1 ?_
  refine lv_iload_n hx hb dX3_walk_4 rfl (lv_at hl 1 rfl) ?_
  refine lv_i2d hx hb dX3_walk_5 ?_
  refine lv_ddiv hx hb dX3_walk_6 hs.nn ?_
  refine lv_dstore (lv' := [(4, .double (mst r mm)), (0, .ref hY), (1, .int (nI mm)), (2, .ref hT), (3, .ref aI)]) hx hb dX3_walk_7 hl (by decide) rfl (fun ls hl => ?_)
  refine lv_iconst (v := nI 0) hx hb dX3_walk_9 (by decide) ?_
  refine lv_istore (lv' := [(6, .int (nI 0)), (4, .double (mst r mm)), (0, .ref hY), (1, .int (nI mm)), (2, .ref hT), (3, .ref aI)]) hx hb dX3_walk_10 hl (by decide) rfl (fun ls hl => ?_)
  refine xfor (I := fun i H locs ls => ∃ (f' : Nat → UInt64) (g' : Nat → UInt64), (f' = mix i y vB) ∧ (g' = mix i (mv y (mst r mm) (fs σ t y)) vA) ∧ va_P D vwCl [(hY, .inr (3, [.ref hE, .ref aB, .ref aA, .ref aF, .ref aC, .ref aN])), (hT, .inr (4, [.ref hE, .ref hX, .ref hY, .ref a2, .ref a3, .ref a4, .ref aS, .ref aY, .ref a1, .ref aZ, .double t, .double r, .double er])), (hE, .inr (0, [.ref aO, .ref aK, .ref aL, .ref aR, .int (nI (sn σ)), .int (nI (sc σ))])), (aO, iA cI 10 (so σ)), (aK, dA cD 10 (sk σ)), (aL, iA cI 10 (sl σ)), (aR, iA cI 10 (sr σ)), (aY, dA cD 3 y), (a1, dA cD 3 (mix (sn σ) (fs σ t y) v1)), (aB, dA cD 3 f'), (aA, dA cD 3 g'), (aF, dA cD 3 vF), (aI, dA cD 3 vI)] H ∧ va_S (fun q => q ∈ ([aB, aA, aF, aI] : List Nat)) s.heap H locs ∧ lv_has ls 10 [(6, .int (nI i)), (4, .double (mst r mm)), (0, .ref hY), (1, .int (nI mm)), (2, .ref hT), (3, .ref aI)]) (sn σ) 0 ⟨_, _, (mix_0 _ _).symm, (mix_0 _ _).symm, hP, hS, lv_sub hl [0, 1, 2, 3, 4, 5] rfl⟩ (Nat.zero_le _) ?_ ?_
  ·
    intro i h_i ih H locs ls ⟨f', g', hf, hgg, hP, hS, hl⟩
    refine lv_iload hx hb dX3_walk_12 (lv_at hl 0 rfl) ?_
    refine lv_aload_n hx hb dX3_walk_14 rfl (lv_at hl 2 rfl) ?_
    refine gX3 hx hb hg hown hI hP 0 rfl 0 rfl mF_X3_27 rfl dX3_walk_15 ?_
    refine gX0 hx hb hg hown hI hP 2 rfl 4 rfl mF_X3_35 rfl dX3_walk_18 ?_
    refine lv_icmp_ge (tgt := 69) hx hb dX3_walk_21 (by decide) (fun c_21 => absurd c_21 (nI_ge h_i (by omega))) (fun c_21 => ?_)
    refine lv_aload_n hx hb dX3_walk_24 rfl (lv_at hl 2 rfl) ?_
    refine gX3 hx hb hg hown hI hP 0 rfl 1 rfl mF_X3_9 rfl dX3_walk_25 ?_
    refine xpc (q := 28) rfl ?_
    refine lv_iload hx hb dX3_walk_28 (lv_at hl 0 rfl) ?_
    refine lv_aload_n hx hb dX3_walk_30 rfl (lv_at hl 4 rfl) ?_
    refine gX4 hx hb hg hown hI hP 1 rfl 7 rfl mF_X3_52 rfl dX3_walk_31 ?_
    refine lv_iload hx hb dX3_walk_34 (lv_at hl 0 rfl) ?_
    refine xdald hx hb hI hP 7 0 rfl rfl (Nat.lt_of_lt_of_le h_i hn) (by decide) dX3_walk_36 ?_
    refine xdast hx hb hI hP hd rfl hS 9 0 rfl rfl (Nat.lt_of_lt_of_le h_i hn) (by decide) pm0 dX3_walk_37 (fun H locs hP hS => ?_)
    have hP : va_P D vwCl [(hY, .inr (3, [.ref hE, .ref aB, .ref aA, .ref aF, .ref aC, .ref aN])), (hT, .inr (4, [.ref hE, .ref hX, .ref hY, .ref a2, .ref a3, .ref a4, .ref aS, .ref aY, .ref a1, .ref aZ, .double t, .double r, .double er])), (hE, .inr (0, [.ref aO, .ref aK, .ref aL, .ref aR, .int (nI (sn σ)), .int (nI (sc σ))])), (aO, iA cI 10 (so σ)), (aK, dA cD 10 (sk σ)), (aL, iA cI 10 (sl σ)), (aR, iA cI 10 (sr σ)), (aY, dA cD 3 y), (a1, dA cD 3 (mix (sn σ) (fs σ t y) v1)), (aB, dA cD 3 (vf_upd f' i (y i))), (aA, dA cD 3 g'), (aF, dA cD 3 vF), (aI, dA cD 3 vI)] H := hP
    refine lv_aload_n hx hb dX3_walk_38 rfl (lv_at hl 2 rfl) ?_
    refine gX3 hx hb hg hown hI hP 0 rfl 2 rfl mF_X3_15 rfl dX3_walk_39 ?_
    refine lv_iload hx hb dX3_walk_42 (lv_at hl 0 rfl) ?_
    refine lv_aload_n hx hb dX3_walk_44 rfl (lv_at hl 4 rfl) ?_
    refine gX4 hx hb hg hown hI hP 1 rfl 7 rfl mF_X3_52 rfl dX3_walk_45 ?_
    refine lv_iload hx hb dX3_walk_48 (lv_at hl 0 rfl) ?_
    refine xdald hx hb hI hP 7 0 rfl rfl (Nat.lt_of_lt_of_le h_i hn) (by decide) dX3_walk_50 ?_
    refine lv_dload hx hb dX3_walk_51 (lv_at hl 1 rfl) ?_
    refine xpc (q := 53) rfl ?_
    refine lv_aload_n hx hb dX3_walk_53 rfl (lv_at hl 4 rfl) ?_
    refine gX4 hx hb hg hown hI hP 1 rfl 8 rfl mF_X3_55 rfl dX3_walk_54 ?_
    refine lv_iload hx hb dX3_walk_57 (lv_at hl 0 rfl) ?_
    refine xdald hx hb hI hP 8 0 rfl rfl (Nat.lt_of_lt_of_le h_i hn) (by decide) dX3_walk_59 ?_
    refine xeqd (y := (fs σ t y) i) (mix_lt h_i) ?_
    refine lv_dmul hx hb dX3_walk_60 ((mi1_bd (i := i) hk hs hS1).nn) ?_
    refine lv_dadd hx hb dX3_walk_61 ((mi0_bd hk hs hS1 h_i).nn) ?_
    refine xdast hx hb hI hP hd rfl hS 10 0 rfl rfl (Nat.lt_of_lt_of_le h_i hn) (by decide) (pmS pm0) dX3_walk_62 (fun H locs hP hS => ?_)
    have hP : va_P D vwCl [(hY, .inr (3, [.ref hE, .ref aB, .ref aA, .ref aF, .ref aC, .ref aN])), (hT, .inr (4, [.ref hE, .ref hX, .ref hY, .ref a2, .ref a3, .ref a4, .ref aS, .ref aY, .ref a1, .ref aZ, .double t, .double r, .double er])), (hE, .inr (0, [.ref aO, .ref aK, .ref aL, .ref aR, .int (nI (sn σ)), .int (nI (sc σ))])), (aO, iA cI 10 (so σ)), (aK, dA cD 10 (sk σ)), (aL, iA cI 10 (sl σ)), (aR, iA cI 10 (sr σ)), (aY, dA cD 3 y), (a1, dA cD 3 (mix (sn σ) (fs σ t y) v1)), (aB, dA cD 3 (vf_upd f' i (y i))), (aA, dA cD 3 (vf_upd g' i (FP.dadd (y i) (FP.dmul (mst r mm) ((fs σ t y) i))))), (aF, dA cD 3 vF), (aI, dA cD 3 vI)] H := hP
    refine lv_iinc (v := nI (i + 1)) (lv' := [(6, .int (nI (i + 1))), (4, .double (mst r mm)), (0, .ref hY), (1, .int (nI mm)), (2, .ref hT), (3, .ref aI)]) hx hb dX3_walk_63 hl (k := 0) rfl (nI_1 i) (by decide) rfl (fun ls hl => ?_)
    refine lv_goto (tgt := 12) hx hb dX3_walk_66 (by decide) ?_
    exact ih _ _ _ ⟨_, _, mix_s hf rfl, mix_s hgg rfl, hP, hS, lv_sub hl [0, 1, 2, 3, 4, 5] rfl⟩
  ·
    intro H locs ls ⟨f', g', hf, hgg, hP, hS, hl⟩
    refine lv_iload hx hb dX3_walk_12 (lv_at hl 0 rfl) ?_
    refine lv_aload_n hx hb dX3_walk_14 rfl (lv_at hl 2 rfl) ?_
    refine gX3 hx hb hg hown hI hP 0 rfl 0 rfl mF_X3_27 rfl dX3_walk_15 ?_
    refine gX0 hx hb hg hown hI hP 2 rfl 4 rfl mF_X3_35 rfl dX3_walk_18 ?_
    refine lv_icmp_ge (tgt := 69) hx hb dX3_walk_21 (by decide) (fun c_21 => ?_) (fun c_21 => absurd (Int32.le_refl _) c_21)
    subst hf
    subst hgg
    refine lv_iconst (v := nI 1) hx hb dX3_walk_69 (by decide) ?_
    refine lv_istore (lv' := [(6, .int (nI 1)), (4, .double (mst r mm)), (0, .ref hY), (1, .int (nI mm)), (2, .ref hT), (3, .ref aI)]) hx hb dX3_walk_70 hl (by decide) rfl (fun ls hl => ?_)
    have hP : va_P D vwCl [(hY, .inr (3, [.ref hE, .ref aB, .ref aA, .ref aF, .ref aC, .ref aN])), (hT, .inr (4, [.ref hE, .ref hX, .ref hY, .ref a2, .ref a3, .ref a4, .ref aS, .ref aY, .ref a1, .ref aZ, .double t, .double r, .double er])), (hE, .inr (0, [.ref aO, .ref aK, .ref aL, .ref aR, .int (nI (sn σ)), .int (nI (sc σ))])), (aO, iA cI 10 (so σ)), (aK, dA cD 10 (sk σ)), (aL, iA cI 10 (sl σ)), (aR, iA cI 10 (sr σ)), (aY, dA cD 3 y), (a1, dA cD 3 (mix (sn σ) (fs σ t y) v1)), (aB, dA cD 3 (mix (sn σ) (mid σ t y (mst r mm) 0).1 vB)), (aA, dA cD 3 (mix (sn σ) (mid σ t y (mst r mm) 0).2 vA)), (aF, dA cD 3 vF), (aI, dA cD 3 vI)] H := hP
    refine xfor (I := fun j H locs ls => ∃ (v' : Nat → UInt64), (True) ∧ va_P D vwCl [(hY, .inr (3, [.ref hE, .ref aB, .ref aA, .ref aF, .ref aC, .ref aN])), (hT, .inr (4, [.ref hE, .ref hX, .ref hY, .ref a2, .ref a3, .ref a4, .ref aS, .ref aY, .ref a1, .ref aZ, .double t, .double r, .double er])), (hE, .inr (0, [.ref aO, .ref aK, .ref aL, .ref aR, .int (nI (sn σ)), .int (nI (sc σ))])), (aO, iA cI 10 (so σ)), (aK, dA cD 10 (sk σ)), (aL, iA cI 10 (sl σ)), (aR, iA cI 10 (sr σ)), (aY, dA cD 3 y), (a1, dA cD 3 (mix (sn σ) (fs σ t y) v1)), (aB, dA cD 3 (mix (sn σ) (mid σ t y (mst r mm) j).1 vB)), (aA, dA cD 3 (mix (sn σ) (mid σ t y (mst r mm) j).2 vA)), (aF, dA cD 3 v'), (aI, dA cD 3 vI)] H ∧ va_S (fun q => q ∈ ([aB, aA, aF, aI] : List Nat)) s.heap H locs ∧ lv_has ls 10 [(6, .int (nI (j + 1))), (4, .double (mst r mm)), (0, .ref hY), (1, .int (nI mm)), (2, .ref hT), (3, .ref aI)]) (mm - 1) 0 ⟨_, trivial, hP, hS, lv_sub hl [0, 1, 2, 3, 4, 5] rfl⟩ (Nat.zero_le _) ?_ ?_
    ·
      intro j h_j ih H locs ls ⟨v', hv, hP, hS, hl⟩
      have hj3 : j < 3 := by omega
      have hBj := hB j (by omega)
      refine xpc (q := 72) rfl ?_
      refine lv_iload hx hb dX3_walk_72 (lv_at hl 0 rfl) ?_
      refine lv_iload_n hx hb dX3_walk_74 rfl (lv_at hl 3 rfl) ?_
      refine lv_icmp_ge (tgt := 178) hx hb dX3_walk_75 (by decide) (fun c_75 => absurd c_75 (nI_ge (show j + 1 < mm by omega) (by omega))) (fun c_75 => ?_)
      refine lv_aload_n hx hb dX3_walk_78 rfl (lv_at hl 2 rfl) ?_
      refine gX3 hx hb hg hown hI hP 0 rfl 0 rfl mF_X3_27 rfl dX3_walk_79 ?_
      refine lv_aload_n hx hb dX3_walk_82 rfl (lv_at hl 4 rfl) ?_
      refine gX4 hx hb hg hown hI hP 1 rfl 10 rfl mF_X3_58 rfl dX3_walk_83 ?_
      refine lv_iload hx hb dX3_walk_86 (lv_at hl 0 rfl) ?_
      refine lv_i2d hx hb dX3_walk_88 ?_
      refine lv_dload hx hb dX3_walk_89 (lv_at hl 1 rfl) ?_
      refine lv_dmul hx hb dX3_walk_91 ((mit_bd (q := j + 1) hk hs hS1 (by omega)).1.nn) ?_
      refine lv_dadd hx hb dX3_walk_92 ((mit_bd (q := j + 1) hk hs hS1 (by omega)).2.nn) ?_
      refine lv_aload_n hx hb dX3_walk_93 rfl (lv_at hl 2 rfl) ?_
      refine gX3 hx hb hg hown hI hP 0 rfl 2 rfl mF_X3_15 rfl dX3_walk_94 ?_
      refine lv_aload_n hx hb dX3_walk_97 rfl (lv_at hl 2 rfl) ?_
      refine gX3 hx hb hg hown hI hP 0 rfl 3 rfl mF_X3_18 rfl dX3_walk_98 ?_
      refine xcv (xV (As := [.double (FP.dadd t (FP.dmul (FP.i2d (nI (j + 1))) (mst r mm))), .ref aA, .ref aF]) (rest := []) hx hb hml hown hg (c_slopes l D cD cI cM cL hE aO aK aL aR σ aA aF (FP.dadd t (FP.dmul (FP.i2d (nI (j + 1))) (mst r mm))) (mix (sn σ) (mid σ t y (mst r mm) j).2 vA) v' (mB S j) hk.1 ((mit_bd (q := j + 1) hk hs hS1 (by omega)).2.up (by have := mB_ge (S := S) (q := j); omega)) (fun i hi => by rw [mix_lt hi]; exact (mid_bd hk hs hS1 j (by omega) (by omega) i hi).2) (by omega)) mM_X3_61 ok_X0_slopes rfl rfl ⟨Nat.le_of_ble_eq_true rfl, Nat.le_of_ble_eq_true rfl⟩ hI hP hd rfl [2, 3, 4, 5, 6, 10, 11] rfl rfl rfl rfl rfl hl.1 rfl (Nat.le_of_ble_eq_true rfl) dX3_walk_101 ⟨Nat.zero_le _, Nat.zero_le _⟩) hP hd hS (fa1 (pmS (pmS pm0)) fa0) [11] rfl rfl (fun _ => rfl) (fun _u H locs hu hP hS => ?_)
      have hP : va_P D vwCl [(hY, .inr (3, [.ref hE, .ref aB, .ref aA, .ref aF, .ref aC, .ref aN])), (hT, .inr (4, [.ref hE, .ref hX, .ref hY, .ref a2, .ref a3, .ref a4, .ref aS, .ref aY, .ref a1, .ref aZ, .double t, .double r, .double er])), (hE, .inr (0, [.ref aO, .ref aK, .ref aL, .ref aR, .int (nI (sn σ)), .int (nI (sc σ))])), (aO, iA cI 10 (so σ)), (aK, dA cD 10 (sk σ)), (aL, iA cI 10 (sl σ)), (aR, iA cI 10 (sr σ)), (aY, dA cD 3 y), (a1, dA cD 3 (mix (sn σ) (fs σ t y) v1)), (aB, dA cD 3 (mix (sn σ) (mid σ t y (mst r mm) j).1 vB)), (aA, dA cD 3 (mix (sn σ) (mid σ t y (mst r mm) j).2 vA)), (aF, dA cD 3 (mix (sn σ) (fs σ (FP.dadd t (FP.dmul (FP.i2d (nI (j + 1))) (mst r mm))) (mix (sn σ) (mid σ t y (mst r mm) j).2 vA)) v')), (aI, dA cD 3 vI)] H := hP
      have hP : va_P D vwCl [(hY, .inr (3, [.ref hE, .ref aB, .ref aA, .ref aF, .ref aC, .ref aN])), (hT, .inr (4, [.ref hE, .ref hX, .ref hY, .ref a2, .ref a3, .ref a4, .ref aS, .ref aY, .ref a1, .ref aZ, .double t, .double r, .double er])), (hE, .inr (0, [.ref aO, .ref aK, .ref aL, .ref aR, .int (nI (sn σ)), .int (nI (sc σ))])), (aO, iA cI 10 (so σ)), (aK, dA cD 10 (sk σ)), (aL, iA cI 10 (sl σ)), (aR, iA cI 10 (sr σ)), (aY, dA cD 3 y), (a1, dA cD 3 (mix (sn σ) (fs σ t y) v1)), (aB, dA cD 3 (mix (sn σ) (mid σ t y (mst r mm) j).1 vB)), (aA, dA cD 3 (mix (sn σ) (mid σ t y (mst r mm) j).2 vA)), (aF, dA cD 3 (mix (sn σ) (fs σ (FP.dadd t (FP.dmul (FP.i2d (nI (j + 1))) (mst r mm))) (mid σ t y (mst r mm) j).2) v')), (aI, dA cD 3 vI)] H := by rw [← fs_mix (σ := σ) (t := FP.dadd t (FP.dmul (FP.i2d (nI (j + 1))) (mst r mm))) (g := (mid σ t y (mst r mm) j).2) (f := vA) hn]; exact hP
      refine lv_iconst (v := nI 0) hx hb dX3_walk_104 (by decide) ?_
      refine xpc (q := 105) rfl ?_
      refine lv_istore (lv' := [(7, .int (nI 0)), (6, .int (nI (j + 1))), (4, .double (mst r mm)), (0, .ref hY), (1, .int (nI mm)), (2, .ref hT), (3, .ref aI)]) hx hb dX3_walk_105 hl (by decide) rfl (fun ls hl => ?_)
      refine xfor (I := fun i H locs ls => ∃ (f' : Nat → UInt64) (g' : Nat → UInt64), (f' = mix i (mid σ t y (mst r mm) j).2 (mix (sn σ) (mid σ t y (mst r mm) j).1 vB)) ∧ (g' = mix i (mid σ t y (mst r mm) (j + 1)).2 (mix (sn σ) (mid σ t y (mst r mm) j).2 vA)) ∧ va_P D vwCl [(hY, .inr (3, [.ref hE, .ref aB, .ref aA, .ref aF, .ref aC, .ref aN])), (hT, .inr (4, [.ref hE, .ref hX, .ref hY, .ref a2, .ref a3, .ref a4, .ref aS, .ref aY, .ref a1, .ref aZ, .double t, .double r, .double er])), (hE, .inr (0, [.ref aO, .ref aK, .ref aL, .ref aR, .int (nI (sn σ)), .int (nI (sc σ))])), (aO, iA cI 10 (so σ)), (aK, dA cD 10 (sk σ)), (aL, iA cI 10 (sl σ)), (aR, iA cI 10 (sr σ)), (aY, dA cD 3 y), (a1, dA cD 3 (mix (sn σ) (fs σ t y) v1)), (aB, dA cD 3 f'), (aA, dA cD 3 g'), (aF, dA cD 3 (mix (sn σ) (fs σ (FP.dadd t (FP.dmul (FP.i2d (nI (j + 1))) (mst r mm))) (mid σ t y (mst r mm) j).2) v')), (aI, dA cD 3 vI)] H ∧ va_S (fun q => q ∈ ([aB, aA, aF, aI] : List Nat)) s.heap H locs ∧ lv_has ls 10 [(7, .int (nI i)), (6, .int (nI (j + 1))), (4, .double (mst r mm)), (0, .ref hY), (1, .int (nI mm)), (2, .ref hT), (3, .ref aI)]) (sn σ) 0 ⟨_, _, (mix_0 _ _).symm, (mix_0 _ _).symm, hP, hS, lv_sub hl [0, 1, 2, 3, 4, 5, 6] rfl⟩ (Nat.zero_le _) ?_ ?_
      ·
        intro i h_i ih3 H locs ls ⟨f', g', hf, hgg, hP, hS, hl⟩
        refine lv_iload hx hb dX3_walk_107 (lv_at hl 0 rfl) ?_
        refine lv_aload_n hx hb dX3_walk_109 rfl (lv_at hl 3 rfl) ?_
        refine gX3 hx hb hg hown hI hP 0 rfl 0 rfl mF_X3_27 rfl dX3_walk_110 ?_
        refine gX0 hx hb hg hown hI hP 2 rfl 4 rfl mF_X3_35 rfl dX3_walk_113 ?_
        refine lv_icmp_ge (tgt := 172) hx hb dX3_walk_116 (by decide) (fun c_116 => absurd c_116 (nI_ge h_i (by omega))) (fun c_116 => ?_)
        refine lv_aload_n hx hb dX3_walk_119 rfl (lv_at hl 3 rfl) ?_
        refine gX3 hx hb hg hown hI hP 0 rfl 1 rfl mF_X3_9 rfl dX3_walk_120 ?_
        refine lv_iload hx hb dX3_walk_123 (lv_at hl 0 rfl) ?_
        refine xdald hx hb hI hP 9 0 rfl rfl (Nat.lt_of_lt_of_le h_i hn) (by decide) dX3_walk_125 ?_
        refine xeqd (y := ((mid σ t y (mst r mm) j).1) i) (show f' i = (mid σ t y (mst r mm) j).1 i by rw [hf, mix_ge (Nat.le_refl _), mix_lt h_i]) ?_
        refine lv_ldc2d (v := k2) hx hb hown (hg _ mD_X3_65) dX3_walk_126 ?_
        refine lv_dload hx hb dX3_walk_129 (lv_at hl 2 rfl) ?_
        refine lv_dmul hx hb dX3_walk_131 ((mi2_bd hs hS1).nn) ?_
        refine lv_aload_n hx hb dX3_walk_132 rfl (lv_at hl 3 rfl) ?_
        refine gX3 hx hb hg hown hI hP 0 rfl 3 rfl mF_X3_18 rfl dX3_walk_133 ?_
        refine lv_iload hx hb dX3_walk_136 (lv_at hl 0 rfl) ?_
        refine xpc (q := 138) rfl ?_
        refine xdald hx hb hI hP 11 0 rfl rfl (Nat.lt_of_lt_of_le h_i hn) (by decide) dX3_walk_138 ?_
        refine xeqd (y := (fs σ (FP.dadd t (FP.dmul (FP.i2d (nI (j + 1))) (mst r mm))) (mid σ t y (mst r mm) j).2) i) (mix_lt h_i) ?_
        refine lv_dmul hx hb dX3_walk_139 ((mig_bd (i := i) hk hs hS1 hj3 hBj).nn) ?_
        refine lv_dadd hx hb dX3_walk_140 ((mid_bd hk hs hS1 (j + 1) (by omega) (by have := hB (j + 1) (by omega); omega) i h_i).2.nn) ?_
        refine lv_dstore (lv' := [(8, .double (FP.dadd (((mid σ t y (mst r mm) j).1) i) (FP.dmul (FP.dmul k2 (mst r mm)) ((fs σ (FP.dadd t (FP.dmul (FP.i2d (nI (j + 1))) (mst r mm))) (mid σ t y (mst r mm) j).2) i)))), (7, .int (nI i)), (6, .int (nI (j + 1))), (4, .double (mst r mm)), (0, .ref hY), (1, .int (nI mm)), (2, .ref hT), (3, .ref aI)]) hx hb dX3_walk_141 hl (by decide) rfl (fun ls hl => ?_)
        refine lv_aload_n hx hb dX3_walk_143 rfl (lv_at hl 4 rfl) ?_
        refine gX3 hx hb hg hown hI hP 0 rfl 1 rfl mF_X3_9 rfl dX3_walk_144 ?_
        refine lv_iload hx hb dX3_walk_147 (lv_at hl 1 rfl) ?_
        refine lv_aload_n hx hb dX3_walk_149 rfl (lv_at hl 4 rfl) ?_
        refine gX3 hx hb hg hown hI hP 0 rfl 2 rfl mF_X3_15 rfl dX3_walk_150 ?_
        refine lv_iload hx hb dX3_walk_153 (lv_at hl 1 rfl) ?_
        refine xdald hx hb hI hP 10 0 rfl rfl (Nat.lt_of_lt_of_le h_i hn) (by decide) dX3_walk_155 ?_
        refine xeqd (y := ((mid σ t y (mst r mm) j).2) i) (show g' i = (mid σ t y (mst r mm) j).2 i by rw [hgg, mix_ge (Nat.le_refl _), mix_lt h_i]) ?_
        refine xdast hx hb hI hP hd rfl hS 9 0 rfl rfl (Nat.lt_of_lt_of_le h_i hn) (by decide) pm0 dX3_walk_156 (fun H locs hP hS => ?_)
        have hP : va_P D vwCl [(hY, .inr (3, [.ref hE, .ref aB, .ref aA, .ref aF, .ref aC, .ref aN])), (hT, .inr (4, [.ref hE, .ref hX, .ref hY, .ref a2, .ref a3, .ref a4, .ref aS, .ref aY, .ref a1, .ref aZ, .double t, .double r, .double er])), (hE, .inr (0, [.ref aO, .ref aK, .ref aL, .ref aR, .int (nI (sn σ)), .int (nI (sc σ))])), (aO, iA cI 10 (so σ)), (aK, dA cD 10 (sk σ)), (aL, iA cI 10 (sl σ)), (aR, iA cI 10 (sr σ)), (aY, dA cD 3 y), (a1, dA cD 3 (mix (sn σ) (fs σ t y) v1)), (aB, dA cD 3 (vf_upd f' i (((mid σ t y (mst r mm) j).2) i))), (aA, dA cD 3 g'), (aF, dA cD 3 (mix (sn σ) (fs σ (FP.dadd t (FP.dmul (FP.i2d (nI (j + 1))) (mst r mm))) (mid σ t y (mst r mm) j).2) v')), (aI, dA cD 3 vI)] H := hP
        refine lv_aload_n hx hb dX3_walk_157 rfl (lv_at hl 4 rfl) ?_
        refine gX3 hx hb hg hown hI hP 0 rfl 2 rfl mF_X3_15 rfl dX3_walk_158 ?_
        refine lv_iload hx hb dX3_walk_161 (lv_at hl 1 rfl) ?_
        refine lv_dload hx hb dX3_walk_163 (lv_at hl 0 rfl) ?_
        refine xpc (q := 165) rfl ?_
        refine xdast hx hb hI hP hd rfl hS 10 0 rfl rfl (Nat.lt_of_lt_of_le h_i hn) (by decide) (pmS pm0) dX3_walk_165 (fun H locs hP hS => ?_)
        have hP : va_P D vwCl [(hY, .inr (3, [.ref hE, .ref aB, .ref aA, .ref aF, .ref aC, .ref aN])), (hT, .inr (4, [.ref hE, .ref hX, .ref hY, .ref a2, .ref a3, .ref a4, .ref aS, .ref aY, .ref a1, .ref aZ, .double t, .double r, .double er])), (hE, .inr (0, [.ref aO, .ref aK, .ref aL, .ref aR, .int (nI (sn σ)), .int (nI (sc σ))])), (aO, iA cI 10 (so σ)), (aK, dA cD 10 (sk σ)), (aL, iA cI 10 (sl σ)), (aR, iA cI 10 (sr σ)), (aY, dA cD 3 y), (a1, dA cD 3 (mix (sn σ) (fs σ t y) v1)), (aB, dA cD 3 (vf_upd f' i (((mid σ t y (mst r mm) j).2) i))), (aA, dA cD 3 (vf_upd g' i (FP.dadd (((mid σ t y (mst r mm) j).1) i) (FP.dmul (FP.dmul k2 (mst r mm)) ((fs σ (FP.dadd t (FP.dmul (FP.i2d (nI (j + 1))) (mst r mm))) (mid σ t y (mst r mm) j).2) i))))), (aF, dA cD 3 (mix (sn σ) (fs σ (FP.dadd t (FP.dmul (FP.i2d (nI (j + 1))) (mst r mm))) (mid σ t y (mst r mm) j).2) v')), (aI, dA cD 3 vI)] H := hP
        refine lv_iinc (v := nI (i + 1)) (lv' := [(7, .int (nI (i + 1))), (8, .double (FP.dadd (((mid σ t y (mst r mm) j).1) i) (FP.dmul (FP.dmul k2 (mst r mm)) ((fs σ (FP.dadd t (FP.dmul (FP.i2d (nI (j + 1))) (mst r mm))) (mid σ t y (mst r mm) j).2) i)))), (6, .int (nI (j + 1))), (4, .double (mst r mm)), (0, .ref hY), (1, .int (nI mm)), (2, .ref hT), (3, .ref aI)]) hx hb dX3_walk_166 hl (k := 1) rfl (nI_1 i) (by decide) rfl (fun ls hl => ?_)
        refine lv_goto (tgt := 107) hx hb dX3_walk_169 (by decide) ?_
        exact ih3 _ _ _ ⟨_, _, mix_s hf rfl, mix_s hgg rfl, hP, hS, lv_sub hl [0, 2, 3, 4, 5, 6, 7] rfl⟩
      ·
        intro H locs ls ⟨f', g', hf, hgg, hP, hS, hl⟩
        refine lv_iload hx hb dX3_walk_107 (lv_at hl 0 rfl) ?_
        refine lv_aload_n hx hb dX3_walk_109 rfl (lv_at hl 3 rfl) ?_
        refine gX3 hx hb hg hown hI hP 0 rfl 0 rfl mF_X3_27 rfl dX3_walk_110 ?_
        refine gX0 hx hb hg hown hI hP 2 rfl 4 rfl mF_X3_35 rfl dX3_walk_113 ?_
        refine lv_icmp_ge (tgt := 172) hx hb dX3_walk_116 (by decide) (fun c_116 => ?_) (fun c_116 => absurd (Int32.le_refl _) c_116)
        rw [mix_mix] at hf hgg
        subst hf
        subst hgg
        have hP : va_P D vwCl [(hY, .inr (3, [.ref hE, .ref aB, .ref aA, .ref aF, .ref aC, .ref aN])), (hT, .inr (4, [.ref hE, .ref hX, .ref hY, .ref a2, .ref a3, .ref a4, .ref aS, .ref aY, .ref a1, .ref aZ, .double t, .double r, .double er])), (hE, .inr (0, [.ref aO, .ref aK, .ref aL, .ref aR, .int (nI (sn σ)), .int (nI (sc σ))])), (aO, iA cI 10 (so σ)), (aK, dA cD 10 (sk σ)), (aL, iA cI 10 (sl σ)), (aR, iA cI 10 (sr σ)), (aY, dA cD 3 y), (a1, dA cD 3 (mix (sn σ) (fs σ t y) v1)), (aB, dA cD 3 (mix (sn σ) (mid σ t y (mst r mm) (j + 1)).1 vB)), (aA, dA cD 3 (mix (sn σ) (mid σ t y (mst r mm) (j + 1)).2 vA)), (aF, dA cD 3 (mix (sn σ) (fs σ (FP.dadd t (FP.dmul (FP.i2d (nI (j + 1))) (mst r mm))) (mid σ t y (mst r mm) j).2) v')), (aI, dA cD 3 vI)] H := hP
        refine lv_iinc (v := nI (j + 1 + 1)) (lv' := [(6, .int (nI (j + 1 + 1))), (7, .int (nI (sn σ))), (4, .double (mst r mm)), (0, .ref hY), (1, .int (nI mm)), (2, .ref hT), (3, .ref aI)]) hx hb dX3_walk_172 hl (k := 1) rfl (nI_1 (j + 1)) (by decide) rfl (fun ls hl => ?_)
        refine lv_goto (tgt := 72) hx hb dX3_walk_175 (by decide) ?_
        exact ih _ _ _ ⟨_, trivial, hP, hS, lv_sub hl [0, 2, 3, 4, 5, 6] rfl⟩
    ·
      intro H locs ls ⟨v', hv, hP, hS, hl⟩
      refine xpc (q := 72) rfl ?_
      refine lv_iload hx hb dX3_walk_72 (lv_at hl 0 rfl) ?_
      refine lv_iload_n hx hb dX3_walk_74 rfl (lv_at hl 3 rfl) ?_
      refine lv_icmp_ge (tgt := 178) hx hb dX3_walk_75 (by decide) (fun c_75 => ?_) (fun c_75 => absurd (nI_le (by omega) (by omega)) c_75)
      refine lv_aload_n hx hb dX3_walk_178 rfl (lv_at hl 2 rfl) ?_
      refine gX3 hx hb hg hown hI hP 0 rfl 0 rfl mF_X3_27 rfl dX3_walk_179 ?_
      refine lv_aload_n hx hb dX3_walk_182 rfl (lv_at hl 4 rfl) ?_
      refine gX4 hx hb hg hown hI hP 1 rfl 10 rfl mF_X3_58 rfl dX3_walk_183 ?_
      refine lv_aload_n hx hb dX3_walk_186 rfl (lv_at hl 4 rfl) ?_
      refine gX4 hx hb hg hown hI hP 1 rfl 11 rfl mF_X3_48 rfl dX3_walk_187 ?_
      refine lv_dadd hx hb dX3_walk_190 ((t2_bd hk hk.2.2.1).nn) ?_
      refine lv_aload_n hx hb dX3_walk_191 rfl (lv_at hl 2 rfl) ?_
      refine gX3 hx hb hg hown hI hP 0 rfl 2 rfl mF_X3_15 rfl dX3_walk_192 ?_
      refine lv_aload_n hx hb dX3_walk_195 rfl (lv_at hl 2 rfl) ?_
      refine gX3 hx hb hg hown hI hP 0 rfl 3 rfl mF_X3_18 rfl dX3_walk_196 ?_
      have hBl := hB (mm - 1) (Nat.le_refl _)
      refine xcv (xV (As := [.double (FP.dadd t r), .ref aA, .ref aF]) (rest := []) hx hb hml hown hg (c_slopes l D cD cI cM cL hE aO aK aL aR σ aA aF (FP.dadd t r) (mix (sn σ) (mid σ t y (mst r mm) (mm - 1)).2 vA) v' (mB S (mm - 1)) hk.1 ((t2_bd hk hk.2.2.1).up (by have := mB_ge (S := S) (q := mm - 1); omega)) (fun i hi => by rw [mix_lt hi]; exact (mid_bd hk hs hS1 (mm - 1) hm.2 (by omega) i hi).2) (by omega)) mM_X3_61 ok_X0_slopes rfl rfl ⟨Nat.le_of_ble_eq_true rfl, Nat.le_of_ble_eq_true rfl⟩ hI hP hd rfl [2, 3, 4, 5, 6, 10, 11] rfl rfl rfl rfl rfl hl.1 rfl (Nat.le_of_ble_eq_true rfl) dX3_walk_199 ⟨Nat.zero_le _, Nat.zero_le _⟩) hP hd hS (fa1 (pmS (pmS pm0)) fa0) [11] rfl rfl (fun _ => rfl) (fun _u H locs hu hP hS => ?_)
      have hP : va_P D vwCl [(hY, .inr (3, [.ref hE, .ref aB, .ref aA, .ref aF, .ref aC, .ref aN])), (hT, .inr (4, [.ref hE, .ref hX, .ref hY, .ref a2, .ref a3, .ref a4, .ref aS, .ref aY, .ref a1, .ref aZ, .double t, .double r, .double er])), (hE, .inr (0, [.ref aO, .ref aK, .ref aL, .ref aR, .int (nI (sn σ)), .int (nI (sc σ))])), (aO, iA cI 10 (so σ)), (aK, dA cD 10 (sk σ)), (aL, iA cI 10 (sl σ)), (aR, iA cI 10 (sr σ)), (aY, dA cD 3 y), (a1, dA cD 3 (mix (sn σ) (fs σ t y) v1)), (aB, dA cD 3 (mix (sn σ) (mid σ t y (mst r mm) (mm - 1)).1 vB)), (aA, dA cD 3 (mix (sn σ) (mid σ t y (mst r mm) (mm - 1)).2 vA)), (aF, dA cD 3 (mix (sn σ) (fs σ (FP.dadd t r) (mix (sn σ) (mid σ t y (mst r mm) (mm - 1)).2 vA)) v')), (aI, dA cD 3 vI)] H := hP
      have hP : va_P D vwCl [(hY, .inr (3, [.ref hE, .ref aB, .ref aA, .ref aF, .ref aC, .ref aN])), (hT, .inr (4, [.ref hE, .ref hX, .ref hY, .ref a2, .ref a3, .ref a4, .ref aS, .ref aY, .ref a1, .ref aZ, .double t, .double r, .double er])), (hE, .inr (0, [.ref aO, .ref aK, .ref aL, .ref aR, .int (nI (sn σ)), .int (nI (sc σ))])), (aO, iA cI 10 (so σ)), (aK, dA cD 10 (sk σ)), (aL, iA cI 10 (sl σ)), (aR, iA cI 10 (sr σ)), (aY, dA cD 3 y), (a1, dA cD 3 (mix (sn σ) (fs σ t y) v1)), (aB, dA cD 3 (mix (sn σ) (mid σ t y (mst r mm) (mm - 1)).1 vB)), (aA, dA cD 3 (mix (sn σ) (mid σ t y (mst r mm) (mm - 1)).2 vA)), (aF, dA cD 3 (mix (sn σ) (fs σ (FP.dadd t r) (mid σ t y (mst r mm) (mm - 1)).2) v')), (aI, dA cD 3 vI)] H := by rw [← fs_mix (σ := σ) (t := FP.dadd t r) (g := (mid σ t y (mst r mm) (mm - 1)).2) (f := vA) hn]; exact hP
      refine lv_iconst (v := nI 0) hx hb dX3_walk_202 (by decide) ?_
      refine lv_istore (lv' := [(6, .int (nI 0)), (4, .double (mst r mm)), (0, .ref hY), (1, .int (nI mm)), (2, .ref hT), (3, .ref aI)]) hx hb dX3_walk_203 hl (by decide) rfl (fun ls hl => ?_)
      refine xfor (I := fun i H locs ls => ∃ (f' : Nat → UInt64), (f' = mix i (mie σ t y r mm) vI) ∧ va_P D vwCl [(hY, .inr (3, [.ref hE, .ref aB, .ref aA, .ref aF, .ref aC, .ref aN])), (hT, .inr (4, [.ref hE, .ref hX, .ref hY, .ref a2, .ref a3, .ref a4, .ref aS, .ref aY, .ref a1, .ref aZ, .double t, .double r, .double er])), (hE, .inr (0, [.ref aO, .ref aK, .ref aL, .ref aR, .int (nI (sn σ)), .int (nI (sc σ))])), (aO, iA cI 10 (so σ)), (aK, dA cD 10 (sk σ)), (aL, iA cI 10 (sl σ)), (aR, iA cI 10 (sr σ)), (aY, dA cD 3 y), (a1, dA cD 3 (mix (sn σ) (fs σ t y) v1)), (aB, dA cD 3 (mix (sn σ) (mid σ t y (mst r mm) (mm - 1)).1 vB)), (aA, dA cD 3 (mix (sn σ) (mid σ t y (mst r mm) (mm - 1)).2 vA)), (aF, dA cD 3 (mix (sn σ) (fs σ (FP.dadd t r) (mid σ t y (mst r mm) (mm - 1)).2) v')), (aI, dA cD 3 f')] H ∧ va_S (fun q => q ∈ ([aB, aA, aF, aI] : List Nat)) s.heap H locs ∧ lv_has ls 10 [(6, .int (nI i)), (4, .double (mst r mm)), (0, .ref hY), (1, .int (nI mm)), (2, .ref hT), (3, .ref aI)]) (sn σ) 0 ⟨_, (mix_0 _ _).symm, hP, hS, lv_sub hl [0, 1, 2, 3, 4, 5] rfl⟩ (Nat.zero_le _) ?_ ?_
      ·
        intro i h_i ih H locs ls ⟨f', hf, hP, hS, hl⟩
        refine xpc (q := 205) rfl ?_
        refine lv_iload hx hb dX3_walk_205 (lv_at hl 0 rfl) ?_
        refine lv_aload_n hx hb dX3_walk_207 rfl (lv_at hl 2 rfl) ?_
        refine gX3 hx hb hg hown hI hP 0 rfl 0 rfl mF_X3_27 rfl dX3_walk_208 ?_
        refine gX0 hx hb hg hown hI hP 2 rfl 4 rfl mF_X3_35 rfl dX3_walk_211 ?_
        refine lv_icmp_ge (tgt := 257) hx hb dX3_walk_214 (by decide) (fun c_214 => absurd c_214 (nI_ge h_i (by omega))) (fun c_214 => ?_)
        refine lv_aload_n hx hb dX3_walk_217 rfl (lv_at hl 5 rfl) ?_
        refine lv_iload hx hb dX3_walk_218 (lv_at hl 0 rfl) ?_
        refine lv_ldc2d (v := k0_5) hx hb hown (hg _ mD_X3_67) dX3_walk_220 ?_
        refine lv_aload_n hx hb dX3_walk_223 rfl (lv_at hl 2 rfl) ?_
        refine gX3 hx hb hg hown hI hP 0 rfl 2 rfl mF_X3_15 rfl dX3_walk_224 ?_
        refine lv_iload hx hb dX3_walk_227 (lv_at hl 0 rfl) ?_
        refine xdald hx hb hI hP 10 0 rfl rfl (Nat.lt_of_lt_of_le h_i hn) (by decide) dX3_walk_229 ?_
        refine xeqd (y := ((mid σ t y (mst r mm) (mm - 1)).2) i) (mix_lt h_i) ?_
        refine lv_aload_n hx hb dX3_walk_230 rfl (lv_at hl 2 rfl) ?_
        refine gX3 hx hb hg hown hI hP 0 rfl 1 rfl mF_X3_9 rfl dX3_walk_231 ?_
        refine lv_iload hx hb dX3_walk_234 (lv_at hl 0 rfl) ?_
        refine xpc (q := 236) rfl ?_
        refine xdald hx hb hI hP 9 0 rfl rfl (Nat.lt_of_lt_of_le h_i hn) (by decide) dX3_walk_236 ?_
        refine xeqd (y := ((mid σ t y (mst r mm) (mm - 1)).1) i) (mix_lt h_i) ?_
        refine lv_dadd hx hb dX3_walk_237 ((mie_bd hk hs hS1 hm.2 hBl h_i).1.nn) ?_
        refine lv_dload hx hb dX3_walk_238 (lv_at hl 1 rfl) ?_
        refine lv_aload_n hx hb dX3_walk_240 rfl (lv_at hl 2 rfl) ?_
        refine gX3 hx hb hg hown hI hP 0 rfl 3 rfl mF_X3_18 rfl dX3_walk_241 ?_
        refine lv_iload hx hb dX3_walk_244 (lv_at hl 0 rfl) ?_
        refine xdald hx hb hI hP 11 0 rfl rfl (Nat.lt_of_lt_of_le h_i hn) (by decide) dX3_walk_246 ?_
        refine xeqd (y := (fs σ (FP.dadd t r) (mid σ t y (mst r mm) (mm - 1)).2) i) (mix_lt h_i) ?_
        refine lv_dmul hx hb dX3_walk_247 ((mie_bd hk hs hS1 hm.2 hBl h_i).2.1.nn) ?_
        refine lv_dadd hx hb dX3_walk_248 ((mie_bd hk hs hS1 hm.2 hBl h_i).2.2.1.nn) ?_
        refine lv_dmul hx hb dX3_walk_249 ((mie_bd hk hs hS1 hm.2 hBl h_i).2.2.2.nn) ?_
        refine xdast hx hb hI hP hd rfl hS 12 0 rfl rfl (Nat.lt_of_lt_of_le h_i hn) (by decide) (pmS (pmS (pmS pm0))) dX3_walk_250 (fun H locs hP hS => ?_)
        have hP : va_P D vwCl [(hY, .inr (3, [.ref hE, .ref aB, .ref aA, .ref aF, .ref aC, .ref aN])), (hT, .inr (4, [.ref hE, .ref hX, .ref hY, .ref a2, .ref a3, .ref a4, .ref aS, .ref aY, .ref a1, .ref aZ, .double t, .double r, .double er])), (hE, .inr (0, [.ref aO, .ref aK, .ref aL, .ref aR, .int (nI (sn σ)), .int (nI (sc σ))])), (aO, iA cI 10 (so σ)), (aK, dA cD 10 (sk σ)), (aL, iA cI 10 (sl σ)), (aR, iA cI 10 (sr σ)), (aY, dA cD 3 y), (a1, dA cD 3 (mix (sn σ) (fs σ t y) v1)), (aB, dA cD 3 (mix (sn σ) (mid σ t y (mst r mm) (mm - 1)).1 vB)), (aA, dA cD 3 (mix (sn σ) (mid σ t y (mst r mm) (mm - 1)).2 vA)), (aF, dA cD 3 (mix (sn σ) (fs σ (FP.dadd t r) (mid σ t y (mst r mm) (mm - 1)).2) v')), (aI, dA cD 3 (vf_upd f' i (FP.dmul k0_5 (FP.dadd (FP.dadd (((mid σ t y (mst r mm) (mm - 1)).2) i) (((mid σ t y (mst r mm) (mm - 1)).1) i)) (FP.dmul (mst r mm) ((fs σ (FP.dadd t r) (mid σ t y (mst r mm) (mm - 1)).2) i))))))] H := hP
        refine lv_iinc (v := nI (i + 1)) (lv' := [(6, .int (nI (i + 1))), (4, .double (mst r mm)), (0, .ref hY), (1, .int (nI mm)), (2, .ref hT), (3, .ref aI)]) hx hb dX3_walk_251 hl (k := 0) rfl (nI_1 i) (by decide) rfl (fun ls hl => ?_)
        refine lv_goto (tgt := 205) hx hb dX3_walk_254 (by decide) ?_
        exact ih _ _ _ ⟨_, mix_s hf rfl, hP, hS, lv_sub hl [0, 1, 2, 3, 4, 5] rfl⟩
      ·
        intro H locs ls ⟨f', hf, hP, hS, hl⟩
        refine xpc (q := 205) rfl ?_
        refine lv_iload hx hb dX3_walk_205 (lv_at hl 0 rfl) ?_
        refine lv_aload_n hx hb dX3_walk_207 rfl (lv_at hl 2 rfl) ?_
        refine gX3 hx hb hg hown hI hP 0 rfl 0 rfl mF_X3_27 rfl dX3_walk_208 ?_
        refine gX0 hx hb hg hown hI hP 2 rfl 4 rfl mF_X3_35 rfl dX3_walk_211 ?_
        refine lv_icmp_ge (tgt := 257) hx hb dX3_walk_214 (by decide) (fun c_214 => ?_) (fun c_214 => absurd (Int32.le_refl _) c_214)
        subst hf
        exact W.vret hx hb hr (fun tS hTS hWS => ⟨(mix (sn σ) (mid σ t y (mst r mm) (mm - 1)).1 vB, mix (sn σ) (mid σ t y (mst r mm) (mm - 1)).2 vA, mix (sn σ) (fs σ (FP.dadd t r) (mid σ t y (mst r mm) (mm - 1)).2) v'), rfl, trivial, by rw [hTS]; exact hP.sub [9, 10, 11, 12] rfl, hS.F hTS⟩) hS.2.2 dX3_walk_257

set_option maxHeartbeats 4000000 in
set_option maxRecDepth 100000 in
theorem c_mreckon (l : Launch) (D : va_G) (cD cI cM cL : ClassId) (hT hE hX hY aO aK aL aR a2 a3 a4 aS aY a1 aZ : Nat) (σ : Sys) (t r er : UInt64) (aB aA aF aC aN : Nat) (y v1 vB vA vF vC vN vZ : Nat → UInt64) (hk : okst σ t y r) : Met l yX3_refine (Cond.code yX3_refine cX3_refine 3 none :: lw_good) { frames := 3, cells := 0, slots := 0, locals := 79 } (xPc D (tyL cD cI cM cL) [.ref hY, .ref hT] [(hY, .inr (3, [.ref hE, .ref aB, .ref aA, .ref aF, .ref aC, .ref aN])), (hT, .inr (4, [.ref hE, .ref hX, .ref hY, .ref a2, .ref a3, .ref a4, .ref aS, .ref aY, .ref a1, .ref aZ, .double t, .double r, .double er])), (hE, .inr (0, [.ref aO, .ref aK, .ref aL, .ref aR, .int (nI (sn σ)), .int (nI (sc σ))])), (aO, iA cI 10 (so σ)), (aK, dA cD 10 (sk σ)), (aL, iA cI 10 (sl σ)), (aR, iA cI 10 (sr σ)), (aY, dA cD 3 y), (a1, dA cD 3 (mix (sn σ) (fs σ t y) v1)), (aB, dA cD 3 vB), (aA, dA cD 3 vA), (aF, dA cD 3 vF), (aC, dA cD 3 vC), (aN, dA cD 3 vN), (aZ, dA cD 3 vZ)]) (xQ D [aB, aA, aF, aC, aN, aZ] (fun (u : (Nat → UInt64) × (Nat → UInt64) × (Nat → UInt64) × (Nat → UInt64) × (Nat → UInt64)) => none) (fun (u : (Nat → UInt64) × (Nat → UInt64) × (Nat → UInt64) × (Nat → UInt64) × (Nat → UInt64)) => True) (fun (u : (Nat → UInt64) × (Nat → UInt64) × (Nat → UInt64) × (Nat → UInt64) × (Nat → UInt64)) => [(aB, dA cD 3 u.1), (aA, dA cD 3 u.2.1), (aF, dA cD 3 u.2.2.1), (aC, dA cD 3 u.2.2.2.1), (aN, dA cD 3 u.2.2.2.2), (aZ, dA cD 3 (mix (sn σ) (miz σ t y r) vZ))])) 0 0 (fun q => q ∈ ([aB, aA, aF, aC, aN, aZ] : List Nat)) := by
  refine xofW (adr := [aB, aA, aF, aC, aN, aZ]) (by decide) (Nat.le_of_ble_eq_true rfl) ?_
  intro p e s m below meth c ls hx hb hr hml hg hown hlk hI hP hd hS hl
  have hown : s.vm.findClass RX3 = some m.cls := hown
  have hd : dj [hY, hT, hE, aO, aK, aL, aR, aY, a1, aB, aA, aF, aC, aN, aZ] := hd
  have hl : lv_has ls 3 [(0, .ref hY), (1, .ref hT)] := hl
  have hn : sn σ ≤ 3 := hk.1.2.1
  refine lv_aload_n hx hb dX3_refine_0 rfl (lv_at hl 0 rfl) ?_
  refine lv_iconst (v := nI 2) hx hb dX3_refine_1 (by decide) ?_
  refine lv_aload_n hx hb dX3_refine_2 rfl (lv_at hl 1 rfl) ?_
  refine lv_aload_n hx hb dX3_refine_3 rfl (lv_at hl 0 rfl) ?_
  refine gX3 hx hb hg hown hI hP 0 rfl 4 rfl mF_X3_21 rfl dX3_refine_4 ?_
  refine xcv (xV (As := [.int (nI 2), .ref hT, .ref aC]) (rest := []) hx hb hml hown hg (c_walk l D cD cI cM cL hT hE hX hY aO aK aL aR a2 a3 a4 aS aY a1 aZ σ t r er aB aA aF aC aN aC y v1 (vB) (vA) (vF) vC 2 1 hk (ms2_bd hk) (by decide) (by decide) (fun q hq => by rcases (show q = 0 ∨ q = 1 by omega) with rfl | rfl <;> decide)) mM_X3_31 ok_X3_walk rfl rfl ⟨Nat.le_of_ble_eq_true rfl, Nat.le_of_ble_eq_true rfl⟩ hI hP hd rfl [0, 1, 2, 3, 4, 5, 6, 7, 8, 9, 10, 11, 12] rfl rfl rfl rfl rfl hl.1 rfl (Nat.le_of_ble_eq_true rfl) dX3_refine_7 ⟨Nat.zero_le _, Nat.zero_le _⟩) hP hd hS (fa1 pm0 (fa1 (pmS pm0) (fa1 (pmS (pmS pm0)) (fa1 (pmS (pmS (pmS pm0))) fa0)))) [9, 10, 11, 12] rfl rfl (fun _ => rfl) (fun u1 H locs hu hP hS => ?_)
  have hP : va_P D vwCl [(hY, .inr (3, [.ref hE, .ref aB, .ref aA, .ref aF, .ref aC, .ref aN])), (hT, .inr (4, [.ref hE, .ref hX, .ref hY, .ref a2, .ref a3, .ref a4, .ref aS, .ref aY, .ref a1, .ref aZ, .double t, .double r, .double er])), (hE, .inr (0, [.ref aO, .ref aK, .ref aL, .ref aR, .int (nI (sn σ)), .int (nI (sc σ))])), (aO, iA cI 10 (so σ)), (aK, dA cD 10 (sk σ)), (aL, iA cI 10 (sl σ)), (aR, iA cI 10 (sr σ)), (aY, dA cD 3 y), (a1, dA cD 3 (mix (sn σ) (fs σ t y) v1)), (aB, dA cD 3 u1.1), (aA, dA cD 3 u1.2.1), (aF, dA cD 3 u1.2.2), (aC, dA cD 3 (mix (sn σ) (mie σ t y r 2) vC)), (aN, dA cD 3 vN), (aZ, dA cD 3 vZ)] H := hP
  refine lv_aload_n hx hb dX3_refine_10 rfl (lv_at hl 0 rfl) ?_
  refine lv_iconst (v := nI 4) hx hb dX3_refine_11 (by decide) ?_
  refine lv_aload_n hx hb dX3_refine_12 rfl (lv_at hl 1 rfl) ?_
  refine lv_aload_n hx hb dX3_refine_13 rfl (lv_at hl 0 rfl) ?_
  refine gX3 hx hb hg hown hI hP 0 rfl 5 rfl mF_X3_24 rfl dX3_refine_14 ?_
  refine xcv (xV (As := [.int (nI 4), .ref hT, .ref aN]) (rest := []) hx hb hml hown hg (c_walk l D cD cI cM cL hT hE hX hY aO aK aL aR a2 a3 a4 aS aY a1 aZ σ t r er aB aA aF aC aN aN y v1 (u1.1) (u1.2.1) (u1.2.2) vN 4 0 hk (ms4_bd hk) (by decide) (by decide) (fun q hq => by rcases (show q = 0 ∨ q = 1 ∨ q = 2 ∨ q = 3 by omega) with rfl | rfl | rfl | rfl <;> decide)) mM_X3_31 ok_X3_walk rfl rfl ⟨Nat.le_of_ble_eq_true rfl, Nat.le_of_ble_eq_true rfl⟩ hI hP hd rfl [0, 1, 2, 3, 4, 5, 6, 7, 8, 9, 10, 11, 13] rfl rfl rfl rfl rfl hl.1 rfl (Nat.le_of_ble_eq_true rfl) dX3_refine_17 ⟨Nat.zero_le _, Nat.zero_le _⟩) hP hd hS (fa1 pm0 (fa1 (pmS pm0) (fa1 (pmS (pmS pm0)) (fa1 (pmS (pmS (pmS (pmS pm0)))) fa0)))) [9, 10, 11, 13] rfl rfl (fun _ => rfl) (fun u2 H locs hu hP hS => ?_)
  have hP : va_P D vwCl [(hY, .inr (3, [.ref hE, .ref aB, .ref aA, .ref aF, .ref aC, .ref aN])), (hT, .inr (4, [.ref hE, .ref hX, .ref hY, .ref a2, .ref a3, .ref a4, .ref aS, .ref aY, .ref a1, .ref aZ, .double t, .double r, .double er])), (hE, .inr (0, [.ref aO, .ref aK, .ref aL, .ref aR, .int (nI (sn σ)), .int (nI (sc σ))])), (aO, iA cI 10 (so σ)), (aK, dA cD 10 (sk σ)), (aL, iA cI 10 (sl σ)), (aR, iA cI 10 (sr σ)), (aY, dA cD 3 y), (a1, dA cD 3 (mix (sn σ) (fs σ t y) v1)), (aB, dA cD 3 u2.1), (aA, dA cD 3 u2.2.1), (aF, dA cD 3 u2.2.2), (aC, dA cD 3 (mix (sn σ) (mie σ t y r 2) vC)), (aN, dA cD 3 (mix (sn σ) (mie σ t y r 4) vN)), (aZ, dA cD 3 vZ)] H := hP
  refine lv_iconst (v := nI 0) hx hb dX3_refine_20 (by decide) ?_
  refine lv_istore_n (lv' := [(2, .int (nI 0)), (0, .ref hY), (1, .ref hT)]) hx hb dX3_refine_21 rfl hl (by decide) rfl (fun ls hl => ?_)
  refine xfor (I := fun i H locs ls => ∃ (f' : Nat → UInt64), (f' = mix i (miz σ t y r) vZ) ∧ va_P D vwCl [(hY, .inr (3, [.ref hE, .ref aB, .ref aA, .ref aF, .ref aC, .ref aN])), (hT, .inr (4, [.ref hE, .ref hX, .ref hY, .ref a2, .ref a3, .ref a4, .ref aS, .ref aY, .ref a1, .ref aZ, .double t, .double r, .double er])), (hE, .inr (0, [.ref aO, .ref aK, .ref aL, .ref aR, .int (nI (sn σ)), .int (nI (sc σ))])), (aO, iA cI 10 (so σ)), (aK, dA cD 10 (sk σ)), (aL, iA cI 10 (sl σ)), (aR, iA cI 10 (sr σ)), (aY, dA cD 3 y), (a1, dA cD 3 (mix (sn σ) (fs σ t y) v1)), (aB, dA cD 3 u2.1), (aA, dA cD 3 u2.2.1), (aF, dA cD 3 u2.2.2), (aC, dA cD 3 (mix (sn σ) (mie σ t y r 2) vC)), (aN, dA cD 3 (mix (sn σ) (mie σ t y r 4) vN)), (aZ, dA cD 3 f')] H ∧ va_S (fun q => q ∈ ([aB, aA, aF, aC, aN, aZ] : List Nat)) s.heap H locs ∧ lv_has ls 3 [(2, .int (nI i)), (0, .ref hY), (1, .ref hT)]) (sn σ) 0 ⟨_, (mix_0 _ _).symm, hP, hS, lv_sub hl [0, 1, 2] rfl⟩ (Nat.zero_le _) ?_ ?_
  ·
    intro i h_i ih H locs ls ⟨f', hf, hP, hS, hl⟩
    refine lv_iload_n hx hb dX3_refine_22 rfl (lv_at hl 0 rfl) ?_
    refine xpc (q := 23) rfl ?_
    refine lv_aload_n hx hb dX3_refine_23 rfl (lv_at hl 1 rfl) ?_
    refine gX3 hx hb hg hown hI hP 0 rfl 0 rfl mF_X3_27 rfl dX3_refine_24 ?_
    refine gX0 hx hb hg hown hI hP 2 rfl 4 rfl mF_X3_35 rfl dX3_refine_27 ?_
    refine lv_icmp_ge (tgt := 69) hx hb dX3_refine_30 (by decide) (fun c_30 => absurd c_30 (nI_ge h_i (by omega))) (fun c_30 => ?_)
    refine lv_aload_n hx hb dX3_refine_33 rfl (lv_at hl 2 rfl) ?_
    refine gX4 hx hb hg hown hI hP 1 rfl 9 rfl mF_X3_41 rfl dX3_refine_34 ?_
    refine lv_iload_n hx hb dX3_refine_37 rfl (lv_at hl 0 rfl) ?_
    refine lv_aload_n hx hb dX3_refine_38 rfl (lv_at hl 1 rfl) ?_
    refine gX3 hx hb hg hown hI hP 0 rfl 5 rfl mF_X3_24 rfl dX3_refine_39 ?_
    refine lv_iload_n hx hb dX3_refine_42 rfl (lv_at hl 0 rfl) ?_
    refine xdald hx hb hI hP 13 0 rfl rfl (Nat.lt_of_lt_of_le h_i hn) (by decide) dX3_refine_43 ?_
    refine xeqd (y := (mie σ t y r 4) i) (mix_lt h_i) ?_
    refine lv_aload_n hx hb dX3_refine_44 rfl (lv_at hl 1 rfl) ?_
    refine gX3 hx hb hg hown hI hP 0 rfl 5 rfl mF_X3_24 rfl dX3_refine_45 ?_
    refine lv_iload_n hx hb dX3_refine_48 rfl (lv_at hl 0 rfl) ?_
    refine xdald hx hb hI hP 13 0 rfl rfl (Nat.lt_of_lt_of_le h_i hn) (by decide) dX3_refine_49 ?_
    refine xeqd (y := (mie σ t y r 4) i) (mix_lt h_i) ?_
    refine xpc (q := 50) rfl ?_
    refine lv_aload_n hx hb dX3_refine_50 rfl (lv_at hl 1 rfl) ?_
    refine gX3 hx hb hg hown hI hP 0 rfl 4 rfl mF_X3_21 rfl dX3_refine_51 ?_
    refine lv_iload_n hx hb dX3_refine_54 rfl (lv_at hl 0 rfl) ?_
    refine xdald hx hb hI hP 12 0 rfl rfl (Nat.lt_of_lt_of_le h_i hn) (by decide) dX3_refine_55 ?_
    refine xeqd (y := (mie σ t y r 2) i) (mix_lt h_i) ?_
    have b1 : bd 1 996 (FP.dsub ((mie σ t y r 4) i) ((mie σ t y r 2) i)) := bd_sub (me4_bd hk h_i) (me2_bd hk h_i) (by decide) (by decide) (by decide)
    refine lv_dsub hx hb dX3_refine_56 b1.nn ?_
    refine lv_ldc2d (v := k3) hx hb hown (hg _ mD_X3_46) dX3_refine_57 ?_
    have b2 : bd 1 995 (FP.ddiv (FP.dsub ((mie σ t y r 4) i) ((mie σ t y r 2) i)) k3) := bd_div b1 lb_k3 (by decide) (by decide)
    refine lv_ddiv hx hb dX3_refine_60 b2.nn ?_
    have b3 : bd 1 996 (FP.dadd ((mie σ t y r 4) i) (FP.ddiv (FP.dsub ((mie σ t y r 4) i) ((mie σ t y r 2) i)) k3)) := bd_add (me4_bd hk h_i) b2 (by decide) (by decide) (by decide)
    refine lv_dadd hx hb dX3_refine_61 b3.nn ?_
    refine xdast hx hb hI hP hd rfl hS 14 0 rfl rfl (Nat.lt_of_lt_of_le h_i hn) (by decide) (pmS (pmS (pmS (pmS (pmS pm0))))) dX3_refine_62 (fun H locs hP hS => ?_)
    have hP : va_P D vwCl [(hY, .inr (3, [.ref hE, .ref aB, .ref aA, .ref aF, .ref aC, .ref aN])), (hT, .inr (4, [.ref hE, .ref hX, .ref hY, .ref a2, .ref a3, .ref a4, .ref aS, .ref aY, .ref a1, .ref aZ, .double t, .double r, .double er])), (hE, .inr (0, [.ref aO, .ref aK, .ref aL, .ref aR, .int (nI (sn σ)), .int (nI (sc σ))])), (aO, iA cI 10 (so σ)), (aK, dA cD 10 (sk σ)), (aL, iA cI 10 (sl σ)), (aR, iA cI 10 (sr σ)), (aY, dA cD 3 y), (a1, dA cD 3 (mix (sn σ) (fs σ t y) v1)), (aB, dA cD 3 u2.1), (aA, dA cD 3 u2.2.1), (aF, dA cD 3 u2.2.2), (aC, dA cD 3 (mix (sn σ) (mie σ t y r 2) vC)), (aN, dA cD 3 (mix (sn σ) (mie σ t y r 4) vN)), (aZ, dA cD 3 (vf_upd f' i (FP.dadd ((mie σ t y r 4) i) (FP.ddiv (FP.dsub ((mie σ t y r 4) i) ((mie σ t y r 2) i)) k3))))] H := hP
    refine lv_iinc (v := nI (i + 1)) (lv' := [(2, .int (nI (i + 1))), (0, .ref hY), (1, .ref hT)]) hx hb dX3_refine_63 hl (k := 0) rfl (nI_1 i) (by decide) rfl (fun ls hl => ?_)
    refine lv_goto (tgt := 22) hx hb dX3_refine_66 (by decide) ?_
    exact ih _ _ _ ⟨_, mix_s hf rfl, hP, hS, lv_sub hl [0, 1, 2] rfl⟩
  ·
    intro H locs ls ⟨f', hf, hP, hS, hl⟩
    refine lv_iload_n hx hb dX3_refine_22 rfl (lv_at hl 0 rfl) ?_
    refine xpc (q := 23) rfl ?_
    refine lv_aload_n hx hb dX3_refine_23 rfl (lv_at hl 1 rfl) ?_
    refine gX3 hx hb hg hown hI hP 0 rfl 0 rfl mF_X3_27 rfl dX3_refine_24 ?_
    refine gX0 hx hb hg hown hI hP 2 rfl 4 rfl mF_X3_35 rfl dX3_refine_27 ?_
    refine lv_icmp_ge (tgt := 69) hx hb dX3_refine_30 (by decide) (fun c_30 => ?_) (fun c_30 => absurd (Int32.le_refl _) c_30)
    subst hf
    exact W.vret hx hb hr (fun tS hTS hWS => ⟨(u2.1, u2.2.1, u2.2.2, mix (sn σ) (mie σ t y r 2) vC, mix (sn σ) (mie σ t y r 4) vN), rfl, trivial, by rw [hTS]; exact hP.sub [9, 10, 11, 12, 13, 14] rfl, hS.F hTS⟩) hS.2.2 dX3_refine_69
