theorem ok_X0_hasValue : okV yX0_hasValue RX0 cX0_hasValue 2 (some .boolean) 1 := ⟨mI_X0_hasValue, mS_X0_hasValue, mN_X0, mC_X0_hasValue, by decide +kernel⟩
theorem ok_X0_hasFactor : okV yX0_hasFactor RX0 cX0_hasFactor 2 (some .boolean) 1 := ⟨mI_X0_hasFactor, mS_X0_hasFactor, mN_X0, mC_X0_hasFactor, by decide +kernel⟩
theorem ok_X0_isFull : okV yX0_isFull RX0 cX0_isFull 1 (some .boolean) 0 := ⟨mI_X0_isFull, mS_X0_isFull, mN_X0, mC_X0_isFull, by decide +kernel⟩
theorem ok_X0_clear : okV yX0_clear RX0 cX0_clear 2 none 1 := ⟨mI_X0_clear, mS_X0_clear, mN_X0, mC_X0_clear, by decide +kernel⟩
theorem ok_X0_add : okV yX0_add RX0 cX0_add 6 none 4 := ⟨mI_X0_add, mS_X0_add, mN_X0, mC_X0_add, by decide +kernel⟩
theorem ok_X0_factor : okV yX0_factor RX0 cX0_factor 5 (some .double) 3 := ⟨mI_X0_factor, mS_X0_factor, mN_X0, mC_X0_factor, by decide +kernel⟩
theorem ok_X0_slopes : okV yX0_slopes RX0 cX0_slopes 7 none 3 := ⟨mI_X0_slopes, mS_X0_slopes, mN_X0, mC_X0_slopes, by decide +kernel⟩
theorem ok_X0_slopeBy : okV yX0_slopeBy RX0 cX0_slopeBy 9 (some .double) 4 := ⟨mI_X0_slopeBy, mS_X0_slopeBy, mN_X0, mC_X0_slopeBy, by decide +kernel⟩
set_option maxHeartbeats 4000000 in
set_option maxRecDepth 100000 in
theorem c_hasValue (l : Launch) (D : va_G) (cD cI cM cL : ClassId) (hE aO aK aL aR : Nat) (σ : Sys) (i : Int32)  : Met l yX0_hasValue (Cond.code yX0_hasValue cX0_hasValue 2 (some .boolean) :: lw_good) { frames := 0, cells := 0, slots := 0, locals := 0 } (xPc D (tyL cD cI cM cL) [.ref hE, .int i] [(hE, .inr (0, [.ref aO, .ref aK, .ref aL, .ref aR, .int (nI (sn σ)), .int (nI (sc σ))]))]) (xQ D [] (fun (_ : Unit) => some (.int (bI (decide (nI 0 ≤ i ∧ i < nI (sn σ)))))) (fun (_ : Unit) => True) (fun (_ : Unit) => [])) 0 0 (fun q => q ∈ ([] : List Nat)) := by
  refine xofW (adr := []) (by decide) (Nat.le_of_ble_eq_true rfl) ?_
  intro p e s m below meth c ls hx hb hr hml hg hown hlk hI hP hd hS hl
  have hown : s.vm.findClass RX0 = some m.cls := hown
  have hd : dj [hE] := hd
  have hl : lv_has ls 2 [(0, .ref hE), (1, .int i)] := hl
  refine lv_iload_n hx hb dX0_hasValue_0 rfl (lv_at hl 1 rfl) ?_
  refine lv_if_lt (tgt := 16) hx hb dX0_hasValue_1 (by decide) (fun c_1 => ?_) (fun c_1 => ?_)
  ·
    refine lv_iconst (v := nI 0) hx hb dX0_hasValue_16 (by decide) ?_
    refine xeqi (y := bI (decide (nI 0 ≤ i ∧ i < nI (sn σ)))) (bI0 (df (fun h => (Int32.not_lt.mpr h.1) c_1))) ?_
    exact W.zret hx hb hr (bI_n _) (fun tS hTS hWS => ⟨(), rfl, trivial, by rw [hTS]; exact hP.sub [] rfl, hS.F hTS⟩) hS.2.2 dX0_hasValue_17
  ·
    refine lv_iload_n hx hb dX0_hasValue_4 rfl (lv_at hl 1 rfl) ?_
    refine lv_aload_n hx hb dX0_hasValue_5 rfl (lv_at hl 0 rfl) ?_
    refine gX0 hx hb hg hown hI hP 0 rfl 4 rfl mF_X0_23 rfl dX0_hasValue_6 ?_
    refine lv_icmp_ge (tgt := 16) hx hb dX0_hasValue_9 (by decide) (fun c_9 => ?_) (fun c_9 => ?_)
    ·
      refine lv_iconst (v := nI 0) hx hb dX0_hasValue_16 (by decide) ?_
      refine xeqi (y := bI (decide (nI 0 ≤ i ∧ i < nI (sn σ)))) (bI0 (df (fun h => (Int32.not_lt.mpr c_9) h.2))) ?_
      exact W.zret hx hb hr (bI_n _) (fun tS hTS hWS => ⟨(), rfl, trivial, by rw [hTS]; exact hP.sub [] rfl, hS.F hTS⟩) hS.2.2 dX0_hasValue_17
    ·
      refine lv_iconst (v := nI 1) hx hb dX0_hasValue_12 (by decide) ?_
      refine lv_goto (tgt := 17) hx hb dX0_hasValue_13 (by decide) ?_
      refine xeqi (y := bI (decide (nI 0 ≤ i ∧ i < nI (sn σ)))) (bI1 (dt ⟨Int32.not_lt.mp c_1, Int32.not_le.mp c_9⟩)) ?_
      exact W.zret hx hb hr (bI_n _) (fun tS hTS hWS => ⟨(), rfl, trivial, by rw [hTS]; exact hP.sub [] rfl, hS.F hTS⟩) hS.2.2 dX0_hasValue_17

set_option maxHeartbeats 4000000 in
set_option maxRecDepth 100000 in
theorem c_factor (l : Launch) (D : va_G) (cD cI cM cL : ClassId) (hE aO aK aL aR : Nat) (σ : Sys) (aY : Nat) (k : Int32) (t : UInt64) (y : Nat → UInt64) (hn : sn σ ≤ 3) : Met l yX0_factor (Cond.code yX0_factor cX0_factor 5 (some .double) :: lw_good) { frames := 0, cells := 0, slots := 0, locals := 0 } (xPc D (tyL cD cI cM cL) [.ref hE, .int k, .double t, .ref aY] [(hE, .inr (0, [.ref aO, .ref aK, .ref aL, .ref aR, .int (nI (sn σ)), .int (nI (sc σ))])), (aY, dA cD 3 y)]) (xQ D [] (fun (_ : Unit) => some (.double (vv (sn σ) t y k))) (fun (_ : Unit) => True) (fun (_ : Unit) => [])) 0 0 (fun q => q ∈ ([] : List Nat)) := by
  refine xofW (adr := []) (by decide) (Nat.le_of_ble_eq_true rfl) ?_
  intro p e s m below meth c ls hx hb hr hml hg hown hlk hI hP hd hS hl
  have hown : s.vm.findClass RX0 = some m.cls := hown
  have hd : dj [hE, aY] := hd
  have hl : lv_has ls 5 [(0, .ref hE), (1, .int k), (2, .double t), (4, .ref aY)] := hl
  refine lv_iload_n hx hb dX0_factor_0 rfl (lv_at hl 1 rfl) ?_
  refine lv_if_lt (tgt := 17) hx hb dX0_factor_1 (by decide) (fun c_1 => ?_) (fun c_1 => ?_)
  ·
    have hno : ¬ (nI 0 ≤ k ∧ k < nI (sn σ)) := fun h => (Int32.not_lt.mpr h.1) c_1
    refine lv_iload_n hx hb dX0_factor_17 rfl (lv_at hl 1 rfl) ?_
    refine lv_iconst (v := nI 3) hx hb dX0_factor_18 (by decide) ?_
    refine lv_icmp_ne (tgt := 26) hx hb dX0_factor_19 (by decide) (fun c_19 => ?_) (fun c_19 => ?_)
    ·
      refine lv_dconst1 hx hb dX0_factor_26 ?_
      refine xeqd (y := vv (sn σ) t y k) (show FP.dconst1 = vv (sn σ) t y k by simp only [vv, hno, if_false]; rw [if_neg c_19]) ?_
      exact W.dret hx hb hr (fun tS hTS hWS => ⟨(), rfl, trivial, by rw [hTS]; exact hP.sub [] rfl, hS.F hTS⟩) hS.2.2 dX0_factor_27
    ·
      refine lv_dload_n hx hb dX0_factor_22 rfl (lv_at hl 2 rfl) ?_
      refine lv_goto (tgt := 27) hx hb dX0_factor_23 (by decide) ?_
      refine xeqd (y := vv (sn σ) t y k) (show t = vv (sn σ) t y k by simp only [vv, hno, if_false]; rw [if_pos c_19]) ?_
      exact W.dret hx hb hr (fun tS hTS hWS => ⟨(), rfl, trivial, by rw [hTS]; exact hP.sub [] rfl, hS.F hTS⟩) hS.2.2 dX0_factor_27
  ·
    refine lv_iload_n hx hb dX0_factor_4 rfl (lv_at hl 1 rfl) ?_
    refine lv_aload_n hx hb dX0_factor_5 rfl (lv_at hl 0 rfl) ?_
    refine gX0 hx hb hg hown hI hP 0 rfl 4 rfl mF_X0_23 rfl dX0_factor_6 ?_
    refine lv_icmp_ge (tgt := 17) hx hb dX0_factor_9 (by decide) (fun c_9 => ?_) (fun c_9 => ?_)
    ·
      have hno : ¬ (nI 0 ≤ k ∧ k < nI (sn σ)) := fun h => (Int32.not_lt.mpr c_9) h.2
      refine lv_iload_n hx hb dX0_factor_17 rfl (lv_at hl 1 rfl) ?_
      refine lv_iconst (v := nI 3) hx hb dX0_factor_18 (by decide) ?_
      refine lv_icmp_ne (tgt := 26) hx hb dX0_factor_19 (by decide) (fun c_19 => ?_) (fun c_19 => ?_)
      ·
        refine lv_dconst1 hx hb dX0_factor_26 ?_
        refine xeqd (y := vv (sn σ) t y k) (show FP.dconst1 = vv (sn σ) t y k by simp only [vv, hno, if_false]; rw [if_neg c_19]) ?_
        exact W.dret hx hb hr (fun tS hTS hWS => ⟨(), rfl, trivial, by rw [hTS]; exact hP.sub [] rfl, hS.F hTS⟩) hS.2.2 dX0_factor_27
      ·
        refine lv_dload_n hx hb dX0_factor_22 rfl (lv_at hl 2 rfl) ?_
        refine lv_goto (tgt := 27) hx hb dX0_factor_23 (by decide) ?_
        refine xeqd (y := vv (sn σ) t y k) (show t = vv (sn σ) t y k by simp only [vv, hno, if_false]; rw [if_pos c_19]) ?_
        exact W.dret hx hb hr (fun tS hTS hWS => ⟨(), rfl, trivial, by rw [hTS]; exact hP.sub [] rfl, hS.F hTS⟩) hS.2.2 dX0_factor_27
    ·
      obtain ⟨j, hj, rfl⟩ := nI_in2 (by omega) ⟨Int32.not_lt.mp c_1, Int32.not_le.mp c_9⟩
      refine lv_aload hx hb dX0_factor_12 (lv_at hl 3 rfl) ?_
      refine lv_iload_n hx hb dX0_factor_14 rfl (lv_at hl 1 rfl) ?_
      refine xdald hx hb hI hP 1 0 rfl rfl (by omega) (by decide) dX0_factor_15 ?_
      refine xeqd (y := vv (sn σ) t y (nI j)) ((vv_j hj hn).symm) ?_
      exact W.dret hx hb hr (fun tS hTS hWS => ⟨(), rfl, trivial, by rw [hTS]; exact hP.sub [] rfl, hS.F hTS⟩) hS.2.2 dX0_factor_16

set_option maxHeartbeats 4000000 in
set_option maxRecDepth 100000 in
theorem c_slopes (l : Launch) (D : va_G) (cD cI cM cL : ClassId) (hE aO aK aL aR : Nat) (σ : Sys) (aY aZ : Nat) (t : UInt64) (y z : Nat → UInt64) (K : Nat) (hσ : oks σ) (ht : bd 1 K t) (hy : ∀ j, j < sn σ → bd 1 K (y j)) (hK : 2 * K + 10 ≤ 1000) : Met l yX0_slopes (Cond.code yX0_slopes cX0_slopes 7 none :: lw_good) { frames := 1, cells := 0, slots := 0, locals := 24 } (xPc D (tyL cD cI cM cL) [.ref hE, .double t, .ref aY, .ref aZ] [(hE, .inr (0, [.ref aO, .ref aK, .ref aL, .ref aR, .int (nI (sn σ)), .int (nI (sc σ))])), (aO, iA cI 10 (so σ)), (aK, dA cD 10 (sk σ)), (aL, iA cI 10 (sl σ)), (aR, iA cI 10 (sr σ)), (aY, dA cD 3 y), (aZ, dA cD 3 z)]) (xQ D [aZ] (fun (_ : Unit) => none) (fun (_ : Unit) => True) (fun (_ : Unit) => [(aZ, dA cD 3 (mix (sn σ) (fs σ t y) z))])) 0 0 (fun q => q ∈ ([aZ] : List Nat)) := by
  refine xofW (adr := [aZ]) (by decide) (Nat.le_of_ble_eq_true rfl) ?_
  intro p e s m below meth c ls hx hb hr hml hg hown hlk hI hP hd hS hl
  have hown : s.vm.findClass RX0 = some m.cls := hown
  have hd : dj [hE, aO, aK, aL, aR, aY, aZ] := hd
  have hl : lv_has ls 7 [(0, .ref hE), (1, .double t), (3, .ref aY), (4, .ref aZ)] := hl
  have hn : sn σ ≤ 3 := hσ.2.1
  have hc : sc σ ≤ 10 := hσ.2.2.1
  refine lv_iconst (v := nI 0) hx hb dX0_slopes_0 (by decide) ?_
  refine lv_istore (lv' := [(5, .int (nI 0)), (0, .ref hE), (1, .double t), (3, .ref aY), (4, .ref aZ)]) hx hb dX0_slopes_1 hl (by decide) rfl (fun ls hl => ?_)
  refine xfor (I := fun i H locs ls => ∃ f' : Nat → UInt64, f' = mix i (fun i => fsum σ t y i 0) z ∧ va_P D vwCl [(hE, .inr (0, [.ref aO, .ref aK, .ref aL, .ref aR, .int (nI (sn σ)), .int (nI (sc σ))])), (aO, iA cI 10 (so σ)), (aK, dA cD 10 (sk σ)), (aL, iA cI 10 (sl σ)), (aR, iA cI 10 (sr σ)), (aY, dA cD 3 y), (aZ, dA cD 3 f')] H ∧ va_S (fun q => q ∈ [aZ]) s.heap H locs ∧ lv_has ls 7 [(5, .int (nI i)), (0, .ref hE), (1, .double t), (3, .ref aY), (4, .ref aZ)]) (sn σ) 0 ⟨z, (mix_0 _ _).symm, hP, hS, hl⟩ (Nat.zero_le _) ?_ ?_
  ·
    intro i hi ih H locs ls ⟨f', hf, hP, hS, hl⟩
    refine lv_iload hx hb dX0_slopes_3 (lv_at hl 0 rfl) ?_
    refine lv_aload_n hx hb dX0_slopes_5 rfl (lv_at hl 1 rfl) ?_
    refine gX0 hx hb hg hown hI hP 0 rfl 4 rfl mF_X0_23 rfl dX0_slopes_6 ?_
    refine lv_icmp_ge (tgt := 24) hx hb dX0_slopes_9 (by decide) (fun c_9 => absurd c_9 (nI_ge hi (by omega))) (fun c_9 => ?_)
    refine lv_aload hx hb dX0_slopes_12 (lv_at hl 4 rfl) ?_
    refine lv_iload hx hb dX0_slopes_14 (lv_at hl 0 rfl) ?_
    refine lv_dconst0 hx hb dX0_slopes_16 ?_
    refine xdast hx hb hI hP hd rfl hS 6 0 rfl rfl (Nat.lt_of_lt_of_le hi hn) (by decide) pm0 dX0_slopes_17 (fun H locs hP hS => ?_)
    have hP : va_P D vwCl [(hE, .inr (0, [.ref aO, .ref aK, .ref aL, .ref aR, .int (nI (sn σ)), .int (nI (sc σ))])), (aO, iA cI 10 (so σ)), (aK, dA cD 10 (sk σ)), (aL, iA cI 10 (sl σ)), (aR, iA cI 10 (sr σ)), (aY, dA cD 3 y), (aZ, dA cD 3 (vf_upd f' i FP.dconst0))] H := hP
    refine lv_iinc (v := nI (i + 1)) (lv' := [(5, .int (nI (i + 1))), (0, .ref hE), (1, .double t), (3, .ref aY), (4, .ref aZ)]) hx hb dX0_slopes_18 hl (k := 0) rfl (nI_1 i) (by decide) rfl (fun ls hl => ?_)
    refine lv_goto (tgt := 3) hx hb dX0_slopes_21 (by decide) ?_
    exact ih _ _ _ ⟨_, mix_s hf rfl, hP, hS, lv_sub hl [0, 1, 2, 3, 4] rfl⟩
  ·
    intro H locs ls ⟨f', hf, hP, hS, hl⟩
    refine lv_iload hx hb dX0_slopes_3 (lv_at hl 0 rfl) ?_
    refine lv_aload_n hx hb dX0_slopes_5 rfl (lv_at hl 1 rfl) ?_
    refine gX0 hx hb hg hown hI hP 0 rfl 4 rfl mF_X0_23 rfl dX0_slopes_6 ?_
    refine lv_icmp_ge (tgt := 24) hx hb dX0_slopes_9 (by decide) (fun c_9 => ?_) (fun c_9 => absurd (Int32.le_refl _) c_9)
    refine lv_iconst (v := nI 0) hx hb dX0_slopes_24 (by decide) ?_
    refine lv_istore (lv' := [(5, .int (nI 0)), (0, .ref hE), (1, .double t), (3, .ref aY), (4, .ref aZ)]) hx hb dX0_slopes_25 hl (by decide) rfl (fun ls hl => ?_)
    refine xfor (I := fun k H locs ls => ∃ f' : Nat → UInt64, f' = mix (sn σ) (fun i => fsum σ t y i k) z ∧ va_P D vwCl [(hE, .inr (0, [.ref aO, .ref aK, .ref aL, .ref aR, .int (nI (sn σ)), .int (nI (sc σ))])), (aO, iA cI 10 (so σ)), (aK, dA cD 10 (sk σ)), (aL, iA cI 10 (sl σ)), (aR, iA cI 10 (sr σ)), (aY, dA cD 3 y), (aZ, dA cD 3 f')] H ∧ va_S (fun q => q ∈ [aZ]) s.heap H locs ∧ lv_has ls 7 [(5, .int (nI k)), (0, .ref hE), (1, .double t), (3, .ref aY), (4, .ref aZ)]) (sc σ) 0 ⟨f', hf, hP, hS, hl⟩ (Nat.zero_le _) ?_ ?_
    ·
      intro k hk ih H locs ls ⟨f', hf, hP, hS, hl⟩
      obtain ⟨⟨j, hj, ho⟩, -, -, -⟩ := hσ.2.2.2 k hk
      refine lv_iload hx hb dX0_slopes_27 (lv_at hl 0 rfl) ?_
      refine lv_aload_n hx hb dX0_slopes_29 rfl (lv_at hl 1 rfl) ?_
      refine gX0 hx hb hg hown hI hP 0 rfl 5 rfl mF_X0_27 rfl dX0_slopes_30 ?_
      refine lv_icmp_ge (tgt := 97) hx hb dX0_slopes_33 (by decide) (fun c_33 => absurd c_33 (nI_ge hk (by omega))) (fun c_33 => ?_)
      refine lv_aload_n hx hb dX0_slopes_36 rfl (lv_at hl 1 rfl) ?_
      refine gX0 hx hb hg hown hI hP 0 rfl 0 rfl mF_X0_9 rfl dX0_slopes_37 ?_
      refine lv_iload hx hb dX0_slopes_40 (lv_at hl 0 rfl) ?_
      refine xpc (q := 42) rfl ?_
      refine xiald hx hb hI hP 1 1 rfl rfl (Nat.lt_of_lt_of_le hk hc) (by decide) dX0_slopes_42 ?_
      refine xeqi (y := nI j) ho ?_
      refine lv_istore (lv' := [(6, .int (nI j)), (5, .int (nI k)), (0, .ref hE), (1, .double t), (3, .ref aY), (4, .ref aZ)]) hx hb dX0_slopes_43 hl (by decide) rfl (fun ls hl => ?_)
      refine lv_aload hx hb dX0_slopes_45 (lv_at hl 5 rfl) ?_
      refine lv_iload hx hb dX0_slopes_47 (lv_at hl 0 rfl) ?_
      refine lv_aload hx hb dX0_slopes_49 (lv_at hl 5 rfl) ?_
      refine lv_iload hx hb dX0_slopes_51 (lv_at hl 0 rfl) ?_
      refine xdald hx hb hI hP 6 0 rfl rfl (Nat.lt_of_lt_of_le hj hn) (by decide) dX0_slopes_53 ?_
      refine xeqd (y := fsum σ t y j k) (show _ = fsum σ t y j k by rw [hf]; exact mix_lt hj) ?_
      refine lv_aload_n hx hb dX0_slopes_54 rfl (lv_at hl 2 rfl) ?_
      refine gX0 hx hb hg hown hI hP 0 rfl 1 rfl mF_X0_13 rfl dX0_slopes_55 ?_
      refine lv_iload hx hb dX0_slopes_58 (lv_at hl 1 rfl) ?_
      refine xdald hx hb hI hP 2 0 rfl rfl (Nat.lt_of_lt_of_le hk hc) (by decide) dX0_slopes_60 ?_
      refine lv_aload_n hx hb dX0_slopes_61 rfl (lv_at hl 2 rfl) ?_
      refine lv_aload_n hx hb dX0_slopes_62 rfl (lv_at hl 2 rfl) ?_
      refine gX0 hx hb hg hown hI hP 0 rfl 2 rfl mF_X0_17 rfl dX0_slopes_63 ?_
      refine xpc (q := 66) rfl ?_
      refine lv_iload hx hb dX0_slopes_66 (lv_at hl 1 rfl) ?_
      refine xiald hx hb hI hP 3 1 rfl rfl (Nat.lt_of_lt_of_le hk hc) (by decide) dX0_slopes_68 ?_
      refine lv_dload_n hx hb dX0_slopes_69 rfl (lv_at hl 3 rfl) ?_
      refine lv_aload_n hx hb dX0_slopes_70 rfl (lv_at hl 4 rfl) ?_
      refine xcd (xV (As := [.int ((sl σ) k), .double t, .ref aY]) (rest := [.double ((sk σ) k), .double (fsum σ t y j k), .int (nI j), .ref aZ]) hx hb hml hown hg (c_factor l D cD cI cM cL hE aO aK aL aR σ aY (sl σ k) t y hn) mM_X0_34 ok_X0_factor rfl rfl ⟨Nat.le_of_ble_eq_true rfl, Nat.le_of_ble_eq_true rfl⟩ hI hP hd rfl [0, 5] rfl rfl rfl rfl rfl hl.1 rfl (Nat.le_of_ble_eq_true rfl) dX0_slopes_71 ⟨Nat.zero_le _, Nat.zero_le _⟩) hP hd hS fa0 [] rfl rfl (fun _ => rfl) (fun _u H locs hu hP hS => ?_)
      have hP : va_P D vwCl [(hE, .inr (0, [.ref aO, .ref aK, .ref aL, .ref aR, .int (nI (sn σ)), .int (nI (sc σ))])), (aO, iA cI 10 (so σ)), (aK, dA cD 10 (sk σ)), (aL, iA cI 10 (sl σ)), (aR, iA cI 10 (sr σ)), (aY, dA cD 3 y), (aZ, dA cD 3 f')] H := hP
      refine lv_dmul hx hb dX0_slopes_74 (tv1_bd hσ hk ht hy hK).nn ?_
      refine lv_aload_n hx hb dX0_slopes_75 rfl (lv_at hl 2 rfl) ?_
      refine lv_aload_n hx hb dX0_slopes_76 rfl (lv_at hl 2 rfl) ?_
      refine gX0 hx hb hg hown hI hP 0 rfl 3 rfl mF_X0_20 rfl dX0_slopes_77 ?_
      refine lv_iload hx hb dX0_slopes_80 (lv_at hl 1 rfl) ?_
      refine xiald hx hb hI hP 4 1 rfl rfl (Nat.lt_of_lt_of_le hk hc) (by decide) dX0_slopes_82 ?_
      refine lv_dload_n hx hb dX0_slopes_83 rfl (lv_at hl 3 rfl) ?_
      refine lv_aload_n hx hb dX0_slopes_84 rfl (lv_at hl 4 rfl) ?_
      refine xcd (xV (As := [.int ((sr σ) k), .double t, .ref aY]) (rest := [.double (FP.dmul ((sk σ) k) (vv (sn σ) t y (sl σ k))), .double (fsum σ t y j k), .int (nI j), .ref aZ]) hx hb hml hown hg (c_factor l D cD cI cM cL hE aO aK aL aR σ aY (sr σ k) t y hn) mM_X0_34 ok_X0_factor rfl rfl ⟨Nat.le_of_ble_eq_true rfl, Nat.le_of_ble_eq_true rfl⟩ hI hP hd rfl [0, 5] rfl rfl rfl rfl rfl hl.1 rfl (Nat.le_of_ble_eq_true rfl) dX0_slopes_85 ⟨Nat.zero_le _, Nat.zero_le _⟩) hP hd hS fa0 [] rfl rfl (fun _ => rfl) (fun _u H locs hu hP hS => ?_)
      have hP : va_P D vwCl [(hE, .inr (0, [.ref aO, .ref aK, .ref aL, .ref aR, .int (nI (sn σ)), .int (nI (sc σ))])), (aO, iA cI 10 (so σ)), (aK, dA cD 10 (sk σ)), (aL, iA cI 10 (sl σ)), (aR, iA cI 10 (sr σ)), (aY, dA cD 3 y), (aZ, dA cD 3 f')] H := hP
      refine lv_dmul hx hb dX0_slopes_88 (tv_bd hσ hk ht hy hK).nn ?_
      have hs := fsum_bd (i := j) hσ ht hy hK (k + 1) hk
      rw [show fsum σ t y j (k + 1) = FP.dadd (fsum σ t y j k) (tv σ t y k) from if_pos ho] at hs
      refine lv_dadd hx hb dX0_slopes_89 hs.nn ?_
      refine xdast hx hb hI hP hd rfl hS 6 0 rfl rfl (Nat.lt_of_lt_of_le hj hn) (by decide) pm0 dX0_slopes_90 (fun H locs hP hS => ?_)
      have hP : va_P D vwCl [(hE, .inr (0, [.ref aO, .ref aK, .ref aL, .ref aR, .int (nI (sn σ)), .int (nI (sc σ))])), (aO, iA cI 10 (so σ)), (aK, dA cD 10 (sk σ)), (aL, iA cI 10 (sl σ)), (aR, iA cI 10 (sr σ)), (aY, dA cD 3 y), (aZ, dA cD 3 (vf_upd f' j (FP.dadd (fsum σ t y j k) (FP.dmul (FP.dmul ((sk σ) k) (vv (sn σ) t y (sl σ k))) (vv (sn σ) t y (sr σ k))))))] H := hP
      refine lv_iinc (v := nI (k + 1)) (lv' := [(5, .int (nI (k + 1))), (6, .int (nI j)), (0, .ref hE), (1, .double t), (3, .ref aY), (4, .ref aZ)]) hx hb dX0_slopes_91 hl (k := 1) rfl (nI_1 k) (by decide) rfl (fun ls hl => ?_)
      refine lv_goto (tgt := 27) hx hb dX0_slopes_94 (by decide) ?_
      exact ih _ _ _ ⟨_, fsum_step hn hj ho hf, hP, hS, lv_sub hl [0, 2, 3, 4, 5] rfl⟩
    ·
      intro H locs ls ⟨f', hf, hP, hS, hl⟩
      refine lv_iload hx hb dX0_slopes_27 (lv_at hl 0 rfl) ?_
      refine lv_aload_n hx hb dX0_slopes_29 rfl (lv_at hl 1 rfl) ?_
      refine gX0 hx hb hg hown hI hP 0 rfl 5 rfl mF_X0_27 rfl dX0_slopes_30 ?_
      refine lv_icmp_ge (tgt := 97) hx hb dX0_slopes_33 (by decide) (fun c_33 => ?_) (fun c_33 => absurd (Int32.le_refl _) c_33)
      subst hf
      exact W.vret hx hb hr (fun tS hTS hWS => ⟨(), rfl, trivial, by rw [hTS]; exact hP.sub [6] rfl, hS.F hTS⟩) hS.2.2 dX0_slopes_97
