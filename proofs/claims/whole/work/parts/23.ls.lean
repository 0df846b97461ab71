theorem ok_J9_floorMod_7cf53 : okS yJ9_floorMod_7cf53 RJ9 cJ9_floorMod_7cf53 3 (some .int) 2 := ⟨mT_J9_floorMod_7cf53, mN_J9, mC_J9_floorMod_7cf53, by decide +kernel⟩
theorem ok_X2_keep : okV yX2_keep RX2 cX2_keep 3 none 1 := ⟨mI_X2_keep, mS_X2_keep, mN_X2, mC_X2_keep, by decide +kernel⟩
theorem ok_X2_inside : okV yX2_inside RX2 cX2_inside 4 (some .double) 2 := ⟨mI_X2_inside, mS_X2_inside, mN_X2, mC_X2_inside, by decide +kernel⟩
theorem ok_X5_clear : okV yX5_clear RX5 cX5_clear 1 none 0 := ⟨mI_X5_clear, mS_X5_clear, mN_X5, mC_X5_clear, by decide +kernel⟩
theorem ok_X5_turnTo : okV yX5_turnTo RX5 cX5_turnTo 4 none 2 := ⟨mI_X5_turnTo, mS_X5_turnTo, mN_X5, mC_X5_turnTo, by decide +kernel⟩
theorem ok_X5_remembers : okV yX5_remembers RX5 cX5_remembers 2 (some .boolean) 1 := ⟨mI_X5_remembers, mS_X5_remembers, mN_X5, mC_X5_remembers, by decide +kernel⟩
theorem ok_X5_latest : okV yX5_latest RX5 cX5_latest 2 (some .double) 1 := ⟨mI_X5_latest, mS_X5_latest, mN_X5, mC_X5_latest, by decide +kernel⟩
theorem ok_X5_look : okV yX5_look RX5 cX5_look 3 none 1 := ⟨mI_X5_look, mS_X5_look, mN_X5, mC_X5_look, by decide +kernel⟩
theorem ok_X5_crossing : okV yX5_crossing RX5 cX5_crossing 10 (some .double) 2 := ⟨mI_X5_crossing, mS_X5_crossing, mN_X5, mC_X5_crossing, by decide +kernel⟩
theorem ok_X5_isAbove : okV yX5_isAbove RX5 cX5_isAbove 3 (some .boolean) 1 := ⟨mI_X5_isAbove, mS_X5_isAbove, mN_X5, mC_X5_isAbove, by decide +kernel⟩
set_option maxHeartbeats 4000000 in
set_option maxRecDepth 100000 in
theorem c_floorMod (l : Launch) (D : va_G) (cD cI cM cL : ClassId) (a : Nat) (ha : a < 2 ^ 31) : Met l yJ9_floorMod_7cf53 (Cond.code yJ9_floorMod_7cf53 cJ9_floorMod_7cf53 3 (some .int) :: lw_good) { frames := 0, cells := 0, slots := 0, locals := 0 } (xPc D (tyL cD cI cM cL) [.int (nI a), .int (nI 8)] []) (xQ D [] (fun (_ : Unit) => some (.int (nI (a % 8)))) (fun (_ : Unit) => True) (fun (_ : Unit) => [])) 0 0 (fun q => q ∈ ([] : List Nat)) := by
  refine xofWF (adr := []) (by decide +kernel) (Nat.le_of_ble_eq_true rfl) ?_
  intro p e s m below meth c ls hx hb hr hml hg hown hlk hI hP hd hS hl
  have hown : s.vm.findClass RJ9 = some m.cls := hown
  have hd : dj [] := hd
  have hl : lv_has ls 3 [(0, .int (nI a)), (1, .int (nI 8))] := hl
  refine lv_iload_n hx hb dJ9_floorMod_7cf53_0 rfl (lv_at hl 0 rfl) ?_
  refine lv_iload_n hx hb dJ9_floorMod_7cf53_1 rfl (lv_at hl 1 rfl) ?_
  refine lv_irem hx hb dJ9_floorMod_7cf53_2 (by decide) ?_
  refine xeqi (y := nI (a % 8)) (pk_rem ha (by decide) (by decide)) ?_
  refine lv_istore_n (lv' := [(2, .int (nI (a % 8))), (0, .int (nI a)), (1, .int (nI 8))]) hx hb dJ9_floorMod_7cf53_3 rfl hl (by decide) rfl (fun ls hl => ?_)
  refine lv_iload_n hx hb dJ9_floorMod_7cf53_4 rfl (lv_at hl 1 rfl) ?_
  refine lv_iload_n hx hb dJ9_floorMod_7cf53_5 rfl (lv_at hl 2 rfl) ?_
  refine lv_ixor hx hb dJ9_floorMod_7cf53_6 ?_
  have hx8 : (0 : Int32) ≤ nI a ^^^ nI 8 := x8 ha
  refine lv_if_ge (tgt := 18) hx hb dJ9_floorMod_7cf53_7 (by decide) (fun c_7 => ?_) (fun c_7 => absurd hx8 c_7)
  refine lv_iload_n hx hb dJ9_floorMod_7cf53_18 rfl (lv_at hl 0 rfl) ?_
  exact W.iret hx hb hr (fun tS hTS hWS => ⟨(), rfl, trivial, by rw [hTS]; exact hP.sub [] rfl, hS.F hTS⟩) hS.2.2 dJ9_floorMod_7cf53_19

set_option maxHeartbeats 4000000 in
set_option maxRecDepth 100000 in
theorem c_keep (l : Launch) (D : va_G) (cD cI cM cL : ClassId) (A : Nat → Nat) (σ : Sys) (t r er t0 sp : UInt64) (y v4 Z1 z q0 y0 g0 en : Nat → UInt64) (kn : Bool) (hk : okst σ t y r) (hz : agV (sn σ) Z1 z) (hzb : ∀ i, i < sn σ → bd 1 20 (z i)) : Met l yX2_keep (Cond.code yX2_keep cX2_keep 3 none :: lw_good) { frames := 2, cells := 0, slots := 0, locals := 50 } (xPc D (tyL cD cI cM cL) [.ref (A 28), .ref (A 8)] [(A 28, .inr (2, [.ref (A 3), .ref (A 29), .ref (A 30), .ref (A 31), .ref (A 32), .int (bI kn), .double t0, .double sp])), (A 8, .inr (4, [.ref (A 3), .ref (A 15), .ref (A 22), .ref (A 9), .ref (A 10), .ref (A 11), .ref (A 12), .ref (A 1), .ref (A 13), .ref (A 14), .double t, .double r, .double er])), (A 3, .inr (0, [.ref (A 4), .ref (A 5), .ref (A 6), .ref (A 7), .int (nI (sn σ)), .int (nI (sc σ))])), (A 4, iA cI 10 (so σ)), (A 5, dA cD 10 (sk σ)), (A 6, iA cI 10 (sl σ)), (A 7, iA cI 10 (sr σ)), (A 1, dA cD 3 y), (A 13, dA cD 3 (mix (sn σ) (fs σ t y) v4)), (A 14, dA cD 3 Z1), (A 29, dA cD 3 q0), (A 30, dA cD 3 y0), (A 31, dA cD 3 g0), (A 32, dA cD 3 en)]) (xQ D [A 28, A 29, A 30, A 31, A 32] (fun (_ : Unit) => none) (fun (_ : Unit) => True) (fun (_ : Unit) => [(A 28, .inr (2, [.ref (A 3), .ref (A 29), .ref (A 30), .ref (A 31), .ref (A 32), .int (nI 1), .double t, .double r])), (A 29, dA cD 3 (mix (sn σ) (fs σ (FP.dadd t r) z) q0)), (A 30, dA cD 3 (mix (sn σ) y y0)), (A 31, dA cD 3 (mix (sn σ) (fs σ t y) g0)), (A 32, dA cD 3 (mix (sn σ) z en))])) 0 0 (fun q => q ∈ ([A 28, A 29, A 30, A 31, A 32] : List Nat)) := by
  refine xofW (adr := [A 28, A 29, A 30, A 31, A 32]) (by decide) (Nat.le_of_ble_eq_true rfl) ?_
  intro p e s m below meth c ls hx hb hr hml hg hown hlk hI hP hd hS hl
  have hown : s.vm.findClass RX2 = some m.cls := hown
  have hd : dj [A 28, A 8, A 3, A 4, A 5, A 6, A 7, A 1, A 13, A 14, A 29, A 30, A 31, A 32] := hd
  have hl : lv_has ls 3 [(0, .ref (A 28)), (1, .ref (A 8))] := hl
  have hn : sn σ ≤ 3 := hk.1.2.1
  refine lv_iconst (v := nI 0) hx hb dX2_keep_0 (by decide) ?_
  refine lv_istore_n (lv' := [(2, .int (nI 0)), (0, .ref (A 28)), (1, .ref (A 8))]) hx hb dX2_keep_1 rfl hl (by decide) rfl (fun ls hl => ?_)
  refine xfor (I := fun i H locs ls => ∃ (f1 : Nat → UInt64) (f2 : Nat → UInt64) (f3 : Nat → UInt64), (f1 = mix i y y0) ∧ (f2 = mix i (fs σ t y) g0) ∧ (f3 = mix i z en) ∧ va_P D vwCl [(A 28, .inr (2, [.ref (A 3), .ref (A 29), .ref (A 30), .ref (A 31), .ref (A 32), .int (bI kn), .double t0, .double sp])), (A 8, .inr (4, [.ref (A 3), .ref (A 15), .ref (A 22), .ref (A 9), .ref (A 10), .ref (A 11), .ref (A 12), .ref (A 1), .ref (A 13), .ref (A 14), .double t, .double r, .double er])), (A 3, .inr (0, [.ref (A 4), .ref (A 5), .ref (A 6), .ref (A 7), .int (nI (sn σ)), .int (nI (sc σ))])), (A 4, iA cI 10 (so σ)), (A 5, dA cD 10 (sk σ)), (A 6, iA cI 10 (sl σ)), (A 7, iA cI 10 (sr σ)), (A 1, dA cD 3 y), (A 13, dA cD 3 (mix (sn σ) (fs σ t y) v4)), (A 14, dA cD 3 Z1), (A 29, dA cD 3 q0), (A 30, dA cD 3 f1), (A 31, dA cD 3 f2), (A 32, dA cD 3 f3)] H ∧ va_S (fun q => q ∈ ([A 28, A 29, A 30, A 31, A 32] : List Nat)) s.heap H locs ∧ lv_has ls 3 [(2, .int (nI i)), (0, .ref (A 28)), (1, .ref (A 8))]) (sn σ) 0 ⟨_, _, _, (mix_0 _ _).symm, (mix_0 _ _).symm, (mix_0 _ _).symm, hP, hS, lv_sub hl [0, 1, 2] rfl⟩ (Nat.zero_le _) ?_ ?_
  ·
    intro i h_i ih H locs ls ⟨f1, f2, f3, h1, h2, h3, hP, hS, hl⟩
    refine lv_iload_n hx hb dX2_keep_2 rfl (lv_at hl 0 rfl) ?_
    refine lv_aload_n hx hb dX2_keep_3 rfl (lv_at hl 1 rfl) ?_
    refine gX2 hx hb hg hown hI hP 0 rfl 0 rfl mF_X2_24 rfl dX2_keep_4 ?_
    refine gX0 hx hb hg hown hI hP 2 rfl 4 rfl mF_X2_28 rfl dX2_keep_7 ?_
    refine lv_icmp_ge (tgt := 55) hx hb dX2_keep_10 (by decide) (fun c_10 => absurd c_10 (nI_ge h_i (by omega))) (fun c_10 => ?_)
    refine lv_aload_n hx hb dX2_keep_13 rfl (lv_at hl 1 rfl) ?_
    refine gX2 hx hb hg hown hI hP 0 rfl 2 rfl mF_X2_15 rfl dX2_keep_14 ?_
    refine lv_iload_n hx hb dX2_keep_17 rfl (lv_at hl 0 rfl) ?_
    refine lv_aload_n hx hb dX2_keep_18 rfl (lv_at hl 2 rfl) ?_
    refine gX4 hx hb hg hown hI hP 1 rfl 7 rfl mF_X2_34 rfl dX2_keep_19 ?_
    refine lv_iload_n hx hb dX2_keep_22 rfl (lv_at hl 0 rfl) ?_
    refine xdald hx hb hI hP 7 0 rfl rfl (Nat.lt_of_lt_of_le h_i hn) (by decide) dX2_keep_23 ?_
    refine xpc (q := 24) rfl ?_
    refine xdast hx hb hI hP hd rfl hS 11 0 rfl rfl (Nat.lt_of_lt_of_le h_i hn) (by decide) (pmS (pmS pm0)) dX2_keep_24 (fun H locs hP hS => ?_)
    have hP : va_P D vwCl [(A 28, .inr (2, [.ref (A 3), .ref (A 29), .ref (A 30), .ref (A 31), .ref (A 32), .int (bI kn), .double t0, .double sp])), (A 8, .inr (4, [.ref (A 3), .ref (A 15), .ref (A 22), .ref (A 9), .ref (A 10), .ref (A 11), .ref (A 12), .ref (A 1), .ref (A 13), .ref (A 14), .double t, .double r, .double er])), (A 3, .inr (0, [.ref (A 4), .ref (A 5), .ref (A 6), .ref (A 7), .int (nI (sn σ)), .int (nI (sc σ))])), (A 4, iA cI 10 (so σ)), (A 5, dA cD 10 (sk σ)), (A 6, iA cI 10 (sl σ)), (A 7, iA cI 10 (sr σ)), (A 1, dA cD 3 y), (A 13, dA cD 3 (mix (sn σ) (fs σ t y) v4)), (A 14, dA cD 3 Z1), (A 29, dA cD 3 q0), (A 30, dA cD 3 (vf_upd f1 i (y i))), (A 31, dA cD 3 f2), (A 32, dA cD 3 f3)] H := hP
    refine lv_aload_n hx hb dX2_keep_25 rfl (lv_at hl 1 rfl) ?_
    refine gX2 hx hb hg hown hI hP 0 rfl 3 rfl mF_X2_18 rfl dX2_keep_26 ?_
    refine lv_iload_n hx hb dX2_keep_29 rfl (lv_at hl 0 rfl) ?_
    refine lv_aload_n hx hb dX2_keep_30 rfl (lv_at hl 2 rfl) ?_
    refine gX4 hx hb hg hown hI hP 1 rfl 8 rfl mF_X2_39 rfl dX2_keep_31 ?_
    refine lv_iload_n hx hb dX2_keep_34 rfl (lv_at hl 0 rfl) ?_
    refine xdald hx hb hI hP 8 0 rfl rfl (Nat.lt_of_lt_of_le h_i hn) (by decide) dX2_keep_35 ?_
    refine xeqd (y := (fs σ t y) i) (mix_lt h_i) ?_
    refine xdast hx hb hI hP hd rfl hS 12 0 rfl rfl (Nat.lt_of_lt_of_le h_i hn) (by decide) (pmS (pmS (pmS pm0))) dX2_keep_36 (fun H locs hP hS => ?_)
    have hP : va_P D vwCl [(A 28, .inr (2, [.ref (A 3), .ref (A 29), .ref (A 30), .ref (A 31), .ref (A 32), .int (bI kn), .double t0, .double sp])), (A 8, .inr (4, [.ref (A 3), .ref (A 15), .ref (A 22), .ref (A 9), .ref (A 10), .ref (A 11), .ref (A 12), .ref (A 1), .ref (A 13), .ref (A 14), .double t, .double r, .double er])), (A 3, .inr (0, [.ref (A 4), .ref (A 5), .ref (A 6), .ref (A 7), .int (nI (sn σ)), .int (nI (sc σ))])), (A 4, iA cI 10 (so σ)), (A 5, dA cD 10 (sk σ)), (A 6, iA cI 10 (sl σ)), (A 7, iA cI 10 (sr σ)), (A 1, dA cD 3 y), (A 13, dA cD 3 (mix (sn σ) (fs σ t y) v4)), (A 14, dA cD 3 Z1), (A 29, dA cD 3 q0), (A 30, dA cD 3 (vf_upd f1 i (y i))), (A 31, dA cD 3 (vf_upd f2 i ((fs σ t y) i))), (A 32, dA cD 3 f3)] H := hP
    refine lv_aload_n hx hb dX2_keep_37 rfl (lv_at hl 1 rfl) ?_
    refine gX2 hx hb hg hown hI hP 0 rfl 4 rfl mF_X2_21 rfl dX2_keep_38 ?_
    refine lv_iload_n hx hb dX2_keep_41 rfl (lv_at hl 0 rfl) ?_
    refine lv_aload_n hx hb dX2_keep_42 rfl (lv_at hl 2 rfl) ?_
    refine gX4 hx hb hg hown hI hP 1 rfl 9 rfl mF_X2_42 rfl dX2_keep_43 ?_
    refine xpc (q := 46) rfl ?_
    refine lv_iload_n hx hb dX2_keep_46 rfl (lv_at hl 0 rfl) ?_
    refine xdald hx hb hI hP 9 0 rfl rfl (Nat.lt_of_lt_of_le h_i hn) (by decide) dX2_keep_47 ?_
    refine xeqd (y := z i) (hz i h_i) ?_
    refine xdast hx hb hI hP hd rfl hS 13 0 rfl rfl (Nat.lt_of_lt_of_le h_i hn) (by decide) (pmS (pmS (pmS (pmS pm0)))) dX2_keep_48 (fun H locs hP hS => ?_)
    have hP : va_P D vwCl [(A 28, .inr (2, [.ref (A 3), .ref (A 29), .ref (A 30), .ref (A 31), .ref (A 32), .int (bI kn), .double t0, .double sp])), (A 8, .inr (4, [.ref (A 3), .ref (A 15), .ref (A 22), .ref (A 9), .ref (A 10), .ref (A 11), .ref (A 12), .ref (A 1), .ref (A 13), .ref (A 14), .double t, .double r, .double er])), (A 3, .inr (0, [.ref (A 4), .ref (A 5), .ref (A 6), .ref (A 7), .int (nI (sn σ)), .int (nI (sc σ))])), (A 4, iA cI 10 (so σ)), (A 5, dA cD 10 (sk σ)), (A 6, iA cI 10 (sl σ)), (A 7, iA cI 10 (sr σ)), (A 1, dA cD 3 y), (A 13, dA cD 3 (mix (sn σ) (fs σ t y) v4)), (A 14, dA cD 3 Z1), (A 29, dA cD 3 q0), (A 30, dA cD 3 (vf_upd f1 i (y i))), (A 31, dA cD 3 (vf_upd f2 i ((fs σ t y) i))), (A 32, dA cD 3 (vf_upd f3 i (z i)))] H := hP
    refine lv_iinc (v := nI (i + 1)) (lv' := [(2, .int (nI (i + 1))), (0, .ref (A 28)), (1, .ref (A 8))]) hx hb dX2_keep_49 hl (k := 0) rfl (nI_1 i) (by decide) rfl (fun ls hl => ?_)
    refine lv_goto (tgt := 2) hx hb dX2_keep_52 (by decide) ?_
    exact ih _ _ _ ⟨_, _, _, mix_s h1 rfl, mix_s h2 rfl, mix_s h3 rfl, hP, hS, lv_sub hl [0, 1, 2] rfl⟩
  ·
    intro H locs ls ⟨f1, f2, f3, h1, h2, h3, hP, hS, hl⟩
    refine lv_iload_n hx hb dX2_keep_2 rfl (lv_at hl 0 rfl) ?_
    refine lv_aload_n hx hb dX2_keep_3 rfl (lv_at hl 1 rfl) ?_
    refine gX2 hx hb hg hown hI hP 0 rfl 0 rfl mF_X2_24 rfl dX2_keep_4 ?_
    refine gX0 hx hb hg hown hI hP 2 rfl 4 rfl mF_X2_28 rfl dX2_keep_7 ?_
    refine lv_icmp_ge (tgt := 55) hx hb dX2_keep_10 (by decide) (fun c_10 => ?_) (fun c_10 => absurd (Int32.le_refl _) c_10)
    subst h1
    subst h2
    subst h3
    refine lv_aload_n hx hb dX2_keep_55 rfl (lv_at hl 1 rfl) ?_
    refine lv_aload_n hx hb dX2_keep_56 rfl (lv_at hl 2 rfl) ?_
    refine gX4 hx hb hg hown hI hP 1 rfl 10 rfl mF_X2_45 rfl dX2_keep_57 ?_
    refine pX2 hx hb hg hown hI hP hd rfl hS 0 rfl 6 rfl mF_X2_49 rfl rfl rfl (Nat.le_of_ble_eq_true rfl) pm0 dX2_keep_60 (fun H locs hP hS => ?_)
    have hP : va_P D vwCl [(A 28, .inr (2, [.ref (A 3), .ref (A 29), .ref (A 30), .ref (A 31), .ref (A 32), .int (bI kn), .double t, .double sp])), (A 8, .inr (4, [.ref (A 3), .ref (A 15), .ref (A 22), .ref (A 9), .ref (A 10), .ref (A 11), .ref (A 12), .ref (A 1), .ref (A 13), .ref (A 14), .double t, .double r, .double er])), (A 3, .inr (0, [.ref (A 4), .ref (A 5), .ref (A 6), .ref (A 7), .int (nI (sn σ)), .int (nI (sc σ))])), (A 4, iA cI 10 (so σ)), (A 5, dA cD 10 (sk σ)), (A 6, iA cI 10 (sl σ)), (A 7, iA cI 10 (sr σ)), (A 1, dA cD 3 y), (A 13, dA cD 3 (mix (sn σ) (fs σ t y) v4)), (A 14, dA cD 3 Z1), (A 29, dA cD 3 q0), (A 30, dA cD 3 (mix (sn σ) y y0)), (A 31, dA cD 3 (mix (sn σ) (fs σ t y) g0)), (A 32, dA cD 3 (mix (sn σ) z en))] H := hP
    refine lv_aload_n hx hb dX2_keep_63 rfl (lv_at hl 1 rfl) ?_
    refine lv_aload_n hx hb dX2_keep_64 rfl (lv_at hl 2 rfl) ?_
    refine gX4 hx hb hg hown hI hP 1 rfl 11 rfl mF_X2_50 rfl dX2_keep_65 ?_
    refine xpc (q := 68) rfl ?_
    refine pX2 hx hb hg hown hI hP hd rfl hS 0 rfl 7 rfl mF_X2_53 rfl rfl rfl (Nat.le_of_ble_eq_true rfl) pm0 dX2_keep_68 (fun H locs hP hS => ?_)
    have hP : va_P D vwCl [(A 28, .inr (2, [.ref (A 3), .ref (A 29), .ref (A 30), .ref (A 31), .ref (A 32), .int (bI kn), .double t, .double r])), (A 8, .inr (4, [.ref (A 3), .ref (A 15), .ref (A 22), .ref (A 9), .ref (A 10), .ref (A 11), .ref (A 12), .ref (A 1), .ref (A 13), .ref (A 14), .double t, .double r, .double er])), (A 3, .inr (0, [.ref (A 4), .ref (A 5), .ref (A 6), .ref (A 7), .int (nI (sn σ)), .int (nI (sc σ))])), (A 4, iA cI 10 (so σ)), (A 5, dA cD 10 (sk σ)), (A 6, iA cI 10 (sl σ)), (A 7, iA cI 10 (sr σ)), (A 1, dA cD 3 y), (A 13, dA cD 3 (mix (sn σ) (fs σ t y) v4)), (A 14, dA cD 3 Z1), (A 29, dA cD 3 q0), (A 30, dA cD 3 (mix (sn σ) y y0)), (A 31, dA cD 3 (mix (sn σ) (fs σ t y) g0)), (A 32, dA cD 3 (mix (sn σ) z en))] H := hP
    refine lv_aload_n hx hb dX2_keep_71 rfl (lv_at hl 1 rfl) ?_
    refine gX2 hx hb hg hown hI hP 0 rfl 0 rfl mF_X2_24 rfl dX2_keep_72 ?_
    refine lv_aload_n hx hb dX2_keep_75 rfl (lv_at hl 1 rfl) ?_
    refine gX2 hx hb hg hown hI hP 0 rfl 6 rfl mF_X2_49 rfl dX2_keep_76 ?_
    refine lv_aload_n hx hb dX2_keep_79 rfl (lv_at hl 1 rfl) ?_
    refine gX2 hx hb hg hown hI hP 0 rfl 7 rfl mF_X2_53 rfl dX2_keep_80 ?_
    refine lv_dadd hx hb dX2_keep_83 ((t2_bd hk hk.2.2.1).nn) ?_
    refine lv_aload_n hx hb dX2_keep_84 rfl (lv_at hl 1 rfl) ?_
    refine gX2 hx hb hg hown hI hP 0 rfl 4 rfl mF_X2_21 rfl dX2_keep_85 ?_
    refine lv_aload_n hx hb dX2_keep_88 rfl (lv_at hl 1 rfl) ?_
    refine gX2 hx hb hg hown hI hP 0 rfl 1 rfl mF_X2_9 rfl dX2_keep_89 ?_
    refine xcv (xV (As := [.double (FP.dadd t r), .ref (A 32), .ref (A 29)]) (rest := []) hx hb hml hown hg (c_slopes l D cD cI cM cL (A 3) (A 4) (A 5) (A 6) (A 7) σ (A 32) (A 29) (FP.dadd t r) (mix (sn σ) z en) q0 20 hk.1 ((t2_bd hk hk.2.2.1).up (by decide)) (fun i hi => by rw [mix_lt hi]; exact hzb i hi) (by decide)) mM_X2_54 ok_X0_slopes rfl rfl ⟨Nat.le_of_ble_eq_true rfl, Nat.le_of_ble_eq_true rfl⟩ hI hP hd rfl [2, 3, 4, 5, 6, 13, 10] rfl rfl rfl rfl rfl hl.1 rfl (Nat.le_of_ble_eq_true rfl) dX2_keep_92 ⟨Nat.zero_le _, Nat.zero_le _⟩) hP hd hS (fa1 (pmS pm0) fa0) [10] rfl rfl (fun _ => rfl) (fun _u H locs hu hP hS => ?_)
    have hP : va_P D vwCl [(A 28, .inr (2, [.ref (A 3), .ref (A 29), .ref (A 30), .ref (A 31), .ref (A 32), .int (bI kn), .double t, .double r])), (A 8, .inr (4, [.ref (A 3), .ref (A 15), .ref (A 22), .ref (A 9), .ref (A 10), .ref (A 11), .ref (A 12), .ref (A 1), .ref (A 13), .ref (A 14), .double t, .double r, .double er])), (A 3, .inr (0, [.ref (A 4), .ref (A 5), .ref (A 6), .ref (A 7), .int (nI (sn σ)), .int (nI (sc σ))])), (A 4, iA cI 10 (so σ)), (A 5, dA cD 10 (sk σ)), (A 6, iA cI 10 (sl σ)), (A 7, iA cI 10 (sr σ)), (A 1, dA cD 3 y), (A 13, dA cD 3 (mix (sn σ) (fs σ t y) v4)), (A 14, dA cD 3 Z1), (A 29, dA cD 3 (mix (sn σ) (fs σ (FP.dadd t r) (mix (sn σ) z en)) q0)), (A 30, dA cD 3 (mix (sn σ) y y0)), (A 31, dA cD 3 (mix (sn σ) (fs σ t y) g0)), (A 32, dA cD 3 (mix (sn σ) z en))] H := hP
    have hP : va_P D vwCl [(A 28, .inr (2, [.ref (A 3), .ref (A 29), .ref (A 30), .ref (A 31), .ref (A 32), .int (bI kn), .double t, .double r])), (A 8, .inr (4, [.ref (A 3), .ref (A 15), .ref (A 22), .ref (A 9), .ref (A 10), .ref (A 11), .ref (A 12), .ref (A 1), .ref (A 13), .ref (A 14), .double t, .double r, .double er])), (A 3, .inr (0, [.ref (A 4), .ref (A 5), .ref (A 6), .ref (A 7), .int (nI (sn σ)), .int (nI (sc σ))])), (A 4, iA cI 10 (so σ)), (A 5, dA cD 10 (sk σ)), (A 6, iA cI 10 (sl σ)), (A 7, iA cI 10 (sr σ)), (A 1, dA cD 3 y), (A 13, dA cD 3 (mix (sn σ) (fs σ t y) v4)), (A 14, dA cD 3 Z1), (A 29, dA cD 3 (mix (sn σ) (fs σ (FP.dadd t r) z) q0)), (A 30, dA cD 3 (mix (sn σ) y y0)), (A 31, dA cD 3 (mix (sn σ) (fs σ t y) g0)), (A 32, dA cD 3 (mix (sn σ) z en))] H := by rw [← fs_mix (σ := σ) (t := FP.dadd t r) (g := z) (f := en) hn]; exact hP
    refine lv_aload_n hx hb dX2_keep_95 rfl (lv_at hl 1 rfl) ?_
    refine lv_iconst (v := nI 1) hx hb dX2_keep_96 (by decide) ?_
    refine pX2 hx hb hg hown hI hP hd rfl hS 0 rfl 5 rfl mF_X2_58 rfl (by decide) (by decide) (Nat.le_of_ble_eq_true rfl) pm0 dX2_keep_97 (fun H locs hP hS => ?_)
    have hP : va_P D vwCl [(A 28, .inr (2, [.ref (A 3), .ref (A 29), .ref (A 30), .ref (A 31), .ref (A 32), .int (nI 1), .double t, .double r])), (A 8, .inr (4, [.ref (A 3), .ref (A 15), .ref (A 22), .ref (A 9), .ref (A 10), .ref (A 11), .ref (A 12), .ref (A 1), .ref (A 13), .ref (A 14), .double t, .double r, .double er])), (A 3, .inr (0, [.ref (A 4), .ref (A 5), .ref (A 6), .ref (A 7), .int (nI (sn σ)), .int (nI (sc σ))])), (A 4, iA cI 10 (so σ)), (A 5, dA cD 10 (sk σ)), (A 6, iA cI 10 (sl σ)), (A 7, iA cI 10 (sr σ)), (A 1, dA cD 3 y), (A 13, dA cD 3 (mix (sn σ) (fs σ t y) v4)), (A 14, dA cD 3 Z1), (A 29, dA cD 3 (mix (sn σ) (fs σ (FP.dadd t r) z) q0)), (A 30, dA cD 3 (mix (sn σ) y y0)), (A 31, dA cD 3 (mix (sn σ) (fs σ t y) g0)), (A 32, dA cD 3 (mix (sn σ) z en))] H := hP
    exact W.vret hx hb hr (fun tS hTS hWS => ⟨(), rfl, trivial, by rw [hTS]; exact hP.sub [0, 10, 11, 12, 13] rfl, hS.F hTS⟩) hS.2.2 dX2_keep_100

set_option maxHeartbeats 4000000 in
set_option maxRecDepth 100000 in
theorem c_inside (l : Launch) (D : va_G) (cD cI cM cL : ClassId) (A : Nat → Nat) (t0 sp : UInt64) (q0 y0 g0 en : Nat → UInt64) (kn : Bool) (i : Nat) (mm : UInt64) (hi : i < 3) (hy : bd 1 20 (y0 i)) (hgg : bd 1 50 (g0 i)) (hen : bd 1 20 (en i)) (hq : bd 1 50 (q0 i)) (hsp : bd 1 2 sp) (hm : bd 1 0 mm) : Met l yX2_inside (Cond.code yX2_inside cX2_inside 4 (some .double) :: lw_good) { frames := 0, cells := 0, slots := 0, locals := 0 } (xPc D (tyL cD cI cM cL) [.ref (A 28), .int (nI i), .double mm] [(A 28, .inr (2, [.ref (A 3), .ref (A 29), .ref (A 30), .ref (A 31), .ref (A 32), .int (bI kn), .double t0, .double sp])), (A 29, dA cD 3 q0), (A 30, dA cD 3 y0), (A 31, dA cD 3 g0), (A 32, dA cD 3 en)]) (xQ D [] (fun (_ : Unit) => some (.double (crv (y0 i) (g0 i) (en i) (q0 i) sp mm))) (fun (_ : Unit) => True) (fun (_ : Unit) => [])) 0 0 (fun q => q ∈ ([] : List Nat)) := by
  refine xofW (adr := []) (by decide) (Nat.le_of_ble_eq_true rfl) ?_
  intro p e s m below meth c ls hx hb hr hml hg hown hlk hI hP hd hS hl
  have hown : s.vm.findClass RX2 = some m.cls := hown
  have hd : dj [A 28, A 29, A 30, A 31, A 32] := hd
  have hl : lv_has ls 4 [(0, .ref (A 28)), (1, .int (nI i)), (2, .double mm)] := hl
  refine lv_dconst1 hx hb dX2_inside_0 ?_
  refine lv_ldc2d (v := k2) hx hb hown (hg _ mD_X2_62) dX2_inside_1 ?_
  refine lv_dload_n hx hb dX2_inside_4 rfl (lv_at hl 2 rfl) ?_
  have b1 : bd 1 1 (FP.dmul k2 mm) := bd_mul b_k2 hm (by decide) (by decide)
  refine lv_dmul hx hb dX2_inside_5 b1.nn ?_
  have b2 : bd 1 2 (FP.dadd FP.dconst1 (FP.dmul k2 mm)) := bd_add b_1 b1 (by decide) (by decide) (by decide)
  refine lv_dadd hx hb dX2_inside_6 b2.nn ?_
  refine lv_dconst1 hx hb dX2_inside_7 ?_
  refine lv_dload_n hx hb dX2_inside_8 rfl (lv_at hl 2 rfl) ?_
  have b3 : bd 1 1 (FP.dsub FP.dconst1 mm) := bd_sub b_1 hm (by decide) (by decide) (by decide)
  refine lv_dsub hx hb dX2_inside_9 b3.nn ?_
  have b4 : bd 1 3 (FP.dmul (FP.dadd FP.dconst1 (FP.dmul k2 mm)) (FP.dsub FP.dconst1 mm)) := bd_mul b2 b3 (by decide) (by decide)
  refine lv_dmul hx hb dX2_inside_10 b4.nn ?_
  refine lv_dconst1 hx hb dX2_inside_11 ?_
  refine lv_dload_n hx hb dX2_inside_12 rfl (lv_at hl 2 rfl) ?_
  have b5 : bd 1 1 (FP.dsub FP.dconst1 mm) := bd_sub b_1 hm (by decide) (by decide) (by decide)
  refine lv_dsub hx hb dX2_inside_13 b5.nn ?_
  have b6 : bd 1 4 (FP.dmul (FP.dmul (FP.dadd FP.dconst1 (FP.dmul k2 mm)) (FP.dsub FP.dconst1 mm)) (FP.dsub FP.dconst1 mm)) := bd_mul b4 b5 (by decide) (by decide)
  refine lv_dmul hx hb dX2_inside_14 b6.nn ?_
  refine xpc (q := 15) rfl ?_
  refine lv_aload_n hx hb dX2_inside_15 rfl (lv_at hl 0 rfl) ?_
  refine gX2 hx hb hg hown hI hP 0 rfl 2 rfl mF_X2_15 rfl dX2_inside_16 ?_
  refine lv_iload_n hx hb dX2_inside_19 rfl (lv_at hl 1 rfl) ?_
  refine xdald hx hb hI hP 2 0 rfl rfl hi (by decide) dX2_inside_20 ?_
  have b7 : bd 1 24 (FP.dmul (FP.dmul (FP.dmul (FP.dadd FP.dconst1 (FP.dmul k2 mm)) (FP.dsub FP.dconst1 mm)) (FP.dsub FP.dconst1 mm)) (y0 i)) := bd_mul b6 hy (by decide) (by decide)
  refine lv_dmul hx hb dX2_inside_21 b7.nn ?_
  refine lv_dload_n hx hb dX2_inside_22 rfl (lv_at hl 2 rfl) ?_
  refine lv_dconst1 hx hb dX2_inside_23 ?_
  refine lv_dload_n hx hb dX2_inside_24 rfl (lv_at hl 2 rfl) ?_
  have b8 : bd 1 1 (FP.dsub FP.dconst1 mm) := bd_sub b_1 hm (by decide) (by decide) (by decide)
  refine lv_dsub hx hb dX2_inside_25 b8.nn ?_
  have b9 : bd 1 1 (FP.dmul mm (FP.dsub FP.dconst1 mm)) := bd_mul hm b8 (by decide) (by decide)
  refine lv_dmul hx hb dX2_inside_26 b9.nn ?_
  refine lv_dconst1 hx hb dX2_inside_27 ?_
  refine lv_dload_n hx hb dX2_inside_28 rfl (lv_at hl 2 rfl) ?_
  have b10 : bd 1 1 (FP.dsub FP.dconst1 mm) := bd_sub b_1 hm (by decide) (by decide) (by decide)
  refine lv_dsub hx hb dX2_inside_29 b10.nn ?_
  have b11 : bd 1 2 (FP.dmul (FP.dmul mm (FP.dsub FP.dconst1 mm)) (FP.dsub FP.dconst1 mm)) := bd_mul b9 b10 (by decide) (by decide)
  refine lv_dmul hx hb dX2_inside_30 b11.nn ?_
  refine xpc (q := 31) rfl ?_
  refine lv_aload_n hx hb dX2_inside_31 rfl (lv_at hl 0 rfl) ?_
  refine gX2 hx hb hg hown hI hP 0 rfl 7 rfl mF_X2_53 rfl dX2_inside_32 ?_
  have b12 : bd 1 4 (FP.dmul (FP.dmul (FP.dmul mm (FP.dsub FP.dconst1 mm)) (FP.dsub FP.dconst1 mm)) sp) := bd_mul b11 hsp (by decide) (by decide)
  refine lv_dmul hx hb dX2_inside_35 b12.nn ?_
  refine lv_aload_n hx hb dX2_inside_36 rfl (lv_at hl 0 rfl) ?_
  refine gX2 hx hb hg hown hI hP 0 rfl 3 rfl mF_X2_18 rfl dX2_inside_37 ?_
  refine lv_iload_n hx hb dX2_inside_40 rfl (lv_at hl 1 rfl) ?_
  refine xdald hx hb hI hP 3 0 rfl rfl hi (by decide) dX2_inside_41 ?_
  have b13 : bd 1 54 (FP.dmul (FP.dmul (FP.dmul (FP.dmul mm (FP.dsub FP.dconst1 mm)) (FP.dsub FP.dconst1 mm)) sp) (g0 i)) := bd_mul b12 hgg (by decide) (by decide)
  refine lv_dmul hx hb dX2_inside_42 b13.nn ?_
  have b14 : bd 1 55 (FP.dadd (FP.dmul (FP.dmul (FP.dmul (FP.dadd FP.dconst1 (FP.dmul k2 mm)) (FP.dsub FP.dconst1 mm)) (FP.dsub FP.dconst1 mm)) (y0 i)) (FP.dmul (FP.dmul (FP.dmul (FP.dmul mm (FP.dsub FP.dconst1 mm)) (FP.dsub FP.dconst1 mm)) sp) (g0 i))) := bd_add b7 b13 (by decide) (by decide) (by decide)
  refine lv_dadd hx hb dX2_inside_43 b14.nn ?_
  refine lv_dload_n hx hb dX2_inside_44 rfl (lv_at hl 2 rfl) ?_
  refine lv_dload_n hx hb dX2_inside_45 rfl (lv_at hl 2 rfl) ?_
  have b15 : bd 1 0 (FP.dmul mm mm) := bd_mul hm hm (by decide) (by decide)
  refine lv_dmul hx hb dX2_inside_46 b15.nn ?_
  refine lv_ldc2d (v := k3) hx hb hown (hg _ mD_X2_64) dX2_inside_47 ?_
  refine lv_ldc2d (v := k2) hx hb hown (hg _ mD_X2_62) dX2_inside_50 ?_
  refine xpc (q := 53) rfl ?_
  refine lv_dload_n hx hb dX2_inside_53 rfl (lv_at hl 2 rfl) ?_
  have b16 : bd 1 1 (FP.dmul k2 mm) := bd_mul b_k2 hm (by decide) (by decide)
  refine lv_dmul hx hb dX2_inside_54 b16.nn ?_
  have b17 : bd 1 3 (FP.dsub k3 (FP.dmul k2 mm)) := bd_sub b_k3 b16 (by decide) (by decide) (by decide)
  refine lv_dsub hx hb dX2_inside_55 b17.nn ?_
  have b18 : bd 1 3 (FP.dmul (FP.dmul mm mm) (FP.dsub k3 (FP.dmul k2 mm))) := bd_mul b15 b17 (by decide) (by decide)
  refine lv_dmul hx hb dX2_inside_56 b18.nn ?_
  refine lv_aload_n hx hb dX2_inside_57 rfl (lv_at hl 0 rfl) ?_
  refine gX2 hx hb hg hown hI hP 0 rfl 4 rfl mF_X2_21 rfl dX2_inside_58 ?_
  refine lv_iload_n hx hb dX2_inside_61 rfl (lv_at hl 1 rfl) ?_
  refine xdald hx hb hI hP 4 0 rfl rfl hi (by decide) dX2_inside_62 ?_
  have b19 : bd 1 23 (FP.dmul (FP.dmul (FP.dmul mm mm) (FP.dsub k3 (FP.dmul k2 mm))) (en i)) := bd_mul b18 hen (by decide) (by decide)
  refine lv_dmul hx hb dX2_inside_63 b19.nn ?_
  have b20 : bd 1 56 (FP.dadd (FP.dadd (FP.dmul (FP.dmul (FP.dmul (FP.dadd FP.dconst1 (FP.dmul k2 mm)) (FP.dsub FP.dconst1 mm)) (FP.dsub FP.dconst1 mm)) (y0 i)) (FP.dmul (FP.dmul (FP.dmul (FP.dmul mm (FP.dsub FP.dconst1 mm)) (FP.dsub FP.dconst1 mm)) sp) (g0 i))) (FP.dmul (FP.dmul (FP.dmul mm mm) (FP.dsub k3 (FP.dmul k2 mm))) (en i))) := bd_add b14 b19 (by decide) (by decide) (by decide)
  refine lv_dadd hx hb dX2_inside_64 b20.nn ?_
  refine lv_dload_n hx hb dX2_inside_65 rfl (lv_at hl 2 rfl) ?_
  refine lv_dload_n hx hb dX2_inside_66 rfl (lv_at hl 2 rfl) ?_
  have b21 : bd 1 0 (FP.dmul mm mm) := bd_mul hm hm (by decide) (by decide)
  refine lv_dmul hx hb dX2_inside_67 b21.nn ?_
  refine lv_dload_n hx hb dX2_inside_68 rfl (lv_at hl 2 rfl) ?_
  refine xpc (q := 69) rfl ?_
  refine lv_dconst1 hx hb dX2_inside_69 ?_
  have b22 : bd 1 1 (FP.dsub mm FP.dconst1) := bd_sub hm b_1 (by decide) (by decide) (by decide)
  refine lv_dsub hx hb dX2_inside_70 b22.nn ?_
  have b23 : bd 1 1 (FP.dmul (FP.dmul mm mm) (FP.dsub mm FP.dconst1)) := bd_mul b21 b22 (by decide) (by decide)
  refine lv_dmul hx hb dX2_inside_71 b23.nn ?_
  refine lv_aload_n hx hb dX2_inside_72 rfl (lv_at hl 0 rfl) ?_
  refine gX2 hx hb hg hown hI hP 0 rfl 7 rfl mF_X2_53 rfl dX2_inside_73 ?_
  have b24 : bd 1 3 (FP.dmul (FP.dmul (FP.dmul mm mm) (FP.dsub mm FP.dconst1)) sp) := bd_mul b23 hsp (by decide) (by decide)
  refine lv_dmul hx hb dX2_inside_76 b24.nn ?_
  refine lv_aload_n hx hb dX2_inside_77 rfl (lv_at hl 0 rfl) ?_
  refine gX2 hx hb hg hown hI hP 0 rfl 1 rfl mF_X2_9 rfl dX2_inside_78 ?_
  refine lv_iload_n hx hb dX2_inside_81 rfl (lv_at hl 1 rfl) ?_
  refine xdald hx hb hI hP 1 0 rfl rfl hi (by decide) dX2_inside_82 ?_
  have b25 : bd 1 53 (FP.dmul (FP.dmul (FP.dmul (FP.dmul mm mm) (FP.dsub mm FP.dconst1)) sp) (q0 i)) := bd_mul b24 hq (by decide) (by decide)
  refine lv_dmul hx hb dX2_inside_83 b25.nn ?_
  have b26 : bd 1 57 (FP.dadd (FP.dadd (FP.dadd (FP.dmul (FP.dmul (FP.dmul (FP.dadd FP.dconst1 (FP.dmul k2 mm)) (FP.dsub FP.dconst1 mm)) (FP.dsub FP.dconst1 mm)) (y0 i)) (FP.dmul (FP.dmul (FP.dmul (FP.dmul mm (FP.dsub FP.dconst1 mm)) (FP.dsub FP.dconst1 mm)) sp) (g0 i))) (FP.dmul (FP.dmul (FP.dmul mm mm) (FP.dsub k3 (FP.dmul k2 mm))) (en i))) (FP.dmul (FP.dmul (FP.dmul (FP.dmul mm mm) (FP.dsub mm FP.dconst1)) sp) (q0 i))) := bd_add b20 b25 (by decide) (by decide) (by decide)
  refine lv_dadd hx hb dX2_inside_84 b26.nn ?_
  exact W.dret hx hb hr (fun tS hTS hWS => ⟨(), rfl, trivial, by rw [hTS]; exact hP.sub [] rfl, hS.F hTS⟩) hS.2.2 dX2_inside_85

set_option maxHeartbeats 4000000 in
set_option maxRecDepth 100000 in
theorem c_isAbove (l : Launch) (D : va_G) (cD cI cM cL : ClassId) (A : Nat → Nat) (on : Bool) (wh : Nat) (lv : UInt64) (ev : Nat) (x : UInt64) (hf : fin (FP.dsub x lv)) : Met l yX5_isAbove (Cond.code yX5_isAbove cX5_isAbove 3 (some .boolean) :: lw_good) { frames := 0, cells := 0, slots := 0, locals := 0 } (xPc D (tyL cD cI cM cL) [.ref (A 33), .double x] [(A 33, .inr (5, [.ref (A 34), .int (bI on), .int (nI wh), .double lv, .int (nI ev)]))]) (xQ D [] (fun (_ : Unit) => some (.int (bI (abv lv x)))) (fun (_ : Unit) => True) (fun (_ : Unit) => [])) 0 0 (fun q => q ∈ ([] : List Nat)) := by
  refine xofW (adr := []) (by decide) (Nat.le_of_ble_eq_true rfl) ?_
  intro p e s m below meth c ls hx hb hr hml hg hown hlk hI hP hd hS hl
  have hown : s.vm.findClass RX5 = some m.cls := hown
  have hd : dj [A 33] := hd
  have hl : lv_has ls 3 [(0, .ref (A 33)), (1, .double x)] := hl
  refine lv_dload_n hx hb dX5_isAbove_0 rfl (lv_at hl 1 rfl) ?_
  refine lv_aload_n hx hb dX5_isAbove_1 rfl (lv_at hl 0 rfl) ?_
  refine gX5 hx hb hg hown hI hP 0 rfl 3 rfl mF_X5_24 rfl dX5_isAbove_2 ?_
  refine lv_dsub hx hb dX5_isAbove_5 (fin.nn hf) ?_
  refine lv_dconst0 hx hb dX5_isAbove_6 ?_
  refine xl_lt (tgt := 15) hx hb dX5_isAbove_7 dX5_isAbove_8 (by decide) (fun c_7 => ?_) (fun c_7 => ?_)
  ·
    refine lv_iconst (v := nI 0) hx hb dX5_isAbove_15 (by decide) ?_
    refine xeqi (y := bI (abv lv x)) (bI0 (by cases h : abv lv x with | false => rfl | true => exact absurd ((abv_iff hf).mpr h) c_7)) ?_
    exact W.zret hx hb hr (bI_n _) (fun tS hTS hWS => ⟨(), rfl, trivial, by rw [hTS]; exact hP.sub [] rfl, hS.F hTS⟩) hS.2.2 dX5_isAbove_16
  ·
    refine lv_iconst (v := nI 1) hx hb dX5_isAbove_11 (by decide) ?_
    refine lv_goto (tgt := 16) hx hb dX5_isAbove_12 (by decide) ?_
    refine xeqi (y := bI (abv lv x)) (bI1 ((abv_iff hf).mp c_7)) ?_
    exact W.zret hx hb hr (bI_n _) (fun tS hTS hWS => ⟨(), rfl, trivial, by rw [hTS]; exact hP.sub [] rfl, hS.F hTS⟩) hS.2.2 dX5_isAbove_16

set_option maxHeartbeats 4000000 in
set_option maxRecDepth 100000 in
theorem c_crossing (l : Launch) (D : va_G) (cD cI cM cL : ClassId) (A : Nat → Nat) (t0 sp : UInt64) (q0 y0 g0 en : Nat → UInt64) (kn : Bool) (on : Bool) (wh : Nat) (lv : UInt64) (ev : Nat) (bg : Bool) (hwh : wh < 3) (hc : okc (y0 wh) (g0 wh) (en wh) (q0 wh) sp t0 lv) : Met l yX5_crossing (Cond.code yX5_crossing cX5_crossing 10 (some .double) :: lw_good) { frames := 1, cells := 0, slots := 0, locals := 23 } (xPc D (tyL cD cI cM cL) [.ref (A 33), .ref (A 28), .int (bI bg)] [(A 33, .inr (5, [.ref (A 34), .int (bI on), .int (nI wh), .double lv, .int (nI ev)])), (A 28, .inr (2, [.ref (A 3), .ref (A 29), .ref (A 30), .ref (A 31), .ref (A 32), .int (bI kn), .double t0, .double sp])), (A 29, dA cD 3 q0), (A 30, dA cD 3 y0), (A 31, dA cD 3 g0), (A 32, dA cD 3 en)]) (xQ D [] (fun (_ : Unit) => some (.double (evt t0 sp (crv (y0 wh) (g0 wh) (en wh) (q0 wh) sp) lv bg))) (fun (_ : Unit) => True) (fun (_ : Unit) => [])) 0 0 (fun q => q ∈ ([] : List Nat)) := by
  refine xofW (adr := []) (by decide) (Nat.le_of_ble_eq_true rfl) ?_
  intro p e s m below meth c ls hx hb hr hml hg hown hlk hI hP hd hS hl
  have hown : s.vm.findClass RX5 = some m.cls := hown
  have hd : dj [A 33, A 28, A 29, A 30, A 31, A 32] := hd
  have hl : lv_has ls 10 [(0, .ref (A 33)), (1, .ref (A 28)), (2, .int (bI bg))] := hl
  obtain ⟨ha1, hb1, hc1, hd1, hsp, ht0, hlv⟩ := hc
  refine lv_dconst0 hx hb dX5_crossing_0 ?_
  refine lv_dstore_n (lv' := [(3, .double FP.dconst0), (0, .ref (A 33)), (1, .ref (A 28)), (2, .int (bI bg))]) hx hb dX5_crossing_1 rfl hl (by decide) rfl (fun ls hl => ?_)
  refine lv_dconst1 hx hb dX5_crossing_2 ?_
  refine lv_dstore (lv' := [(5, .double FP.dconst1), (3, .double FP.dconst0), (0, .ref (A 33)), (1, .ref (A 28)), (2, .int (bI bg))]) hx hb dX5_crossing_3 hl (by decide) rfl (fun ls hl => ?_)
  refine lv_ldc2d (v := k0_5) hx hb hown (hg _ mD_X5_50) dX5_crossing_5 ?_
  refine lv_dstore (lv' := [(7, .double k0_5), (5, .double FP.dconst1), (3, .double FP.dconst0), (0, .ref (A 33)), (1, .ref (A 28)), (2, .int (bI bg))]) hx hb dX5_crossing_8 hl (by decide) rfl (fun ls hl => ?_)
  refine lv_iconst (v := nI 0) hx hb dX5_crossing_10 (by decide) ?_
  refine lv_istore (lv' := [(9, .int (nI 0)), (7, .double k0_5), (5, .double FP.dconst1), (3, .double FP.dconst0), (0, .ref (A 33)), (1, .ref (A 28)), (2, .int (bI bg))]) hx hb dX5_crossing_11 hl (by decide) rfl (fun ls hl => ?_)
  refine xfor (I := fun k H locs ls => (True) ∧ va_P D vwCl [(A 33, .inr (5, [.ref (A 34), .int (bI on), .int (nI wh), .double lv, .int (nI ev)])), (A 28, .inr (2, [.ref (A 3), .ref (A 29), .ref (A 30), .ref (A 31), .ref (A 32), .int (bI kn), .double t0, .double sp])), (A 29, dA cD 3 q0), (A 30, dA cD 3 y0), (A 31, dA cD 3 g0), (A 32, dA cD 3 en)] H ∧ va_S (fun q => q ∈ ([] : List Nat)) s.heap H locs ∧ lv_has ls 10 [(9, .int (nI k)), (7, .double ((bis (crv (y0 wh) (g0 wh) (en wh) (q0 wh) sp) lv bg k).2.2)), (5, .double ((bis (crv (y0 wh) (g0 wh) (en wh) (q0 wh) sp) lv bg k).2.1)), (3, .double ((bis (crv (y0 wh) (g0 wh) (en wh) (q0 wh) sp) lv bg k).1)), (0, .ref (A 33)), (1, .ref (A 28)), (2, .int (bI bg))]) 20 0 ⟨trivial, hP, hS, lv_sub hl [0, 1, 2, 3, 4, 5, 6] rfl⟩ (Nat.zero_le _) ?_ ?_
  ·
    intro k h_k ih H locs ls ⟨_hv, hP, hS, hl⟩
    refine lv_iload hx hb dX5_crossing_13 (lv_at hl 0 rfl) ?_
    refine lv_bipush (v := nI 20) hx hb dX5_crossing_15 (by decide) ?_
    refine lv_icmp_ge (tgt := 64) hx hb dX5_crossing_17 (by decide) (fun c_17 => absurd c_17 (nI_ge h_k (by decide))) (fun c_17 => ?_)
    refine lv_ldc2d (v := k0_5) hx hb hown (hg _ mD_X5_50) dX5_crossing_20 ?_
    refine lv_dload_n hx hb dX5_crossing_23 rfl (lv_at hl 3 rfl) ?_
    refine lv_dload hx hb dX5_crossing_24 (lv_at hl 2 rfl) ?_
    refine xpc (q := 26) rfl ?_
    have b1 : bd 1 1 (FP.dadd ((bis (crv (y0 wh) (g0 wh) (en wh) (q0 wh) sp) lv bg k).1) ((bis (crv (y0 wh) (g0 wh) (en wh) (q0 wh) sp) lv bg k).2.1)) := bd_add (bis_bd (f := (crv (y0 wh) (g0 wh) (en wh) (q0 wh) sp)) (lv := lv) (bg := bg) k).1 (bis_bd (f := (crv (y0 wh) (g0 wh) (en wh) (q0 wh) sp)) (lv := lv) (bg := bg) k).2.1 (by decide) (by decide) (by decide)
    refine lv_dadd hx hb dX5_crossing_26 b1.nn ?_
    have hmm : bd 1 0 (FP.dmul k0_5 (FP.dadd ((bis (crv (y0 wh) (g0 wh) (en wh) (q0 wh) sp) lv bg k).1) ((bis (crv (y0 wh) (g0 wh) (en wh) (q0 wh) sp) lv bg k).2.1))) := bd_half b1
    refine lv_dmul hx hb dX5_crossing_27 hmm.nn ?_
    refine lv_dstore (lv' := [(7, .double (FP.dmul k0_5 (FP.dadd ((bis (crv (y0 wh) (g0 wh) (en wh) (q0 wh) sp) lv bg k).1) ((bis (crv (y0 wh) (g0 wh) (en wh) (q0 wh) sp) lv bg k).2.1)))), (9, .int (nI k)), (5, .double ((bis (crv (y0 wh) (g0 wh) (en wh) (q0 wh) sp) lv bg k).2.1)), (3, .double ((bis (crv (y0 wh) (g0 wh) (en wh) (q0 wh) sp) lv bg k).1)), (0, .ref (A 33)), (1, .ref (A 28)), (2, .int (bI bg))]) hx hb dX5_crossing_28 hl (by decide) rfl (fun ls hl => ?_)
    refine lv_aload_n hx hb dX5_crossing_30 rfl (lv_at hl 4 rfl) ?_
    refine lv_aload_n hx hb dX5_crossing_31 rfl (lv_at hl 5 rfl) ?_
    refine lv_aload_n hx hb dX5_crossing_32 rfl (lv_at hl 4 rfl) ?_
    refine gX5 hx hb hg hown hI hP 0 rfl 2 rfl mF_X5_21 rfl dX5_crossing_33 ?_
    refine lv_dload hx hb dX5_crossing_36 (lv_at hl 0 rfl) ?_
    refine xcd (xV (As := [.int (nI wh), .double (FP.dmul k0_5 (FP.dadd ((bis (crv (y0 wh) (g0 wh) (en wh) (q0 wh) sp) lv bg k).1) ((bis (crv (y0 wh) (g0 wh) (en wh) (q0 wh) sp) lv bg k).2.1)))]) (rest := [.ref (A 33)]) hx hb hml hown hg (c_inside l D cD cI cM cL A t0 sp q0 y0 g0 en kn wh (FP.dmul k0_5 (FP.dadd ((bis (crv (y0 wh) (g0 wh) (en wh) (q0 wh) sp) lv bg k).1) ((bis (crv (y0 wh) (g0 wh) (en wh) (q0 wh) sp) lv bg k).2.1))) hwh ha1 hb1 hc1 hd1 hsp hmm) mM_X5_52 ok_X2_inside rfl rfl ⟨Nat.le_of_ble_eq_true rfl, Nat.le_of_ble_eq_true rfl⟩ hI hP hd rfl [1, 2, 3, 4, 5] rfl rfl rfl rfl rfl hl.1 rfl (Nat.le_of_ble_eq_true rfl) dX5_crossing_38 ⟨Nat.zero_le _, Nat.zero_le _⟩) hP hd hS fa0 [] rfl rfl (fun _ => rfl) (fun _u H locs hu hP hS => ?_)
    have hP : va_P D vwCl [(A 33, .inr (5, [.ref (A 34), .int (bI on), .int (nI wh), .double lv, .int (nI ev)])), (A 28, .inr (2, [.ref (A 3), .ref (A 29), .ref (A 30), .ref (A 31), .ref (A 32), .int (bI kn), .double t0, .double sp])), (A 29, dA cD 3 q0), (A 30, dA cD 3 y0), (A 31, dA cD 3 g0), (A 32, dA cD 3 en)] H := hP
    have hfl : fin (FP.dsub ((crv (y0 wh) (g0 wh) (en wh) (q0 wh) sp) (FP.dmul k0_5 (FP.dadd ((bis (crv (y0 wh) (g0 wh) (en wh) (q0 wh) sp) lv bg k).1) ((bis (crv (y0 wh) (g0 wh) (en wh) (q0 wh) sp) lv bg k).2.1)))) lv) := (bd_sub (k := 61) (crv_bd ha1 hb1 hc1 hd1 hsp hmm) hlv (by decide) (by decide) (by decide)).1
    refine xci (xV (As := [.double ((crv (y0 wh) (g0 wh) (en wh) (q0 wh) sp) (FP.dmul k0_5 (FP.dadd ((bis (crv (y0 wh) (g0 wh) (en wh) (q0 wh) sp) lv bg k).1) ((bis (crv (y0 wh) (g0 wh) (en wh) (q0 wh) sp) lv bg k).2.1))))]) (rest := []) hx hb hml hown hg (c_isAbove l D cD cI cM cL A on wh lv ev ((crv (y0 wh) (g0 wh) (en wh) (q0 wh) sp) (FP.dmul k0_5 (FP.dadd ((bis (crv (y0 wh) (g0 wh) (en wh) (q0 wh) sp) lv bg k).1) ((bis (crv (y0 wh) (g0 wh) (en wh) (q0 wh) sp) lv bg k).2.1)))) hfl) mM_X5_39 ok_X5_isAbove rfl rfl ⟨Nat.le_of_ble_eq_true rfl, Nat.le_of_ble_eq_true rfl⟩ hI hP hd rfl [0] rfl rfl rfl rfl rfl hl.1 rfl (Nat.le_of_ble_eq_true rfl) dX5_crossing_41 ⟨Nat.zero_le _, Nat.zero_le _⟩) hP hd hS fa0 [] rfl rfl (fun _ => rfl) (fun _u H locs hu hP hS => ?_)
    have hP : va_P D vwCl [(A 33, .inr (5, [.ref (A 34), .int (bI on), .int (nI wh), .double lv, .int (nI ev)])), (A 28, .inr (2, [.ref (A 3), .ref (A 29), .ref (A 30), .ref (A 31), .ref (A 32), .int (bI kn), .double t0, .double sp])), (A 29, dA cD 3 q0), (A 30, dA cD 3 y0), (A 31, dA cD 3 g0), (A 32, dA cD 3 en)] H := hP
    refine lv_iload_n hx hb dX5_crossing_44 rfl (lv_at hl 6 rfl) ?_
    refine lv_icmp_ne (tgt := 54) hx hb dX5_crossing_45 (by decide) (fun c_45 => ?_) (fun c_45 => ?_)
    ·
      refine lv_dload hx hb dX5_crossing_54 (lv_at hl 0 rfl) ?_
      refine lv_dstore (lv' := [(5, .double (FP.dmul k0_5 (FP.dadd ((bis (crv (y0 wh) (g0 wh) (en wh) (q0 wh) sp) lv bg k).1) ((bis (crv (y0 wh) (g0 wh) (en wh) (q0 wh) sp) lv bg k).2.1)))), (7, .double (FP.dmul k0_5 (FP.dadd ((bis (crv (y0 wh) (g0 wh) (en wh) (q0 wh) sp) lv bg k).1) ((bis (crv (y0 wh) (g0 wh) (en wh) (q0 wh) sp) lv bg k).2.1)))), (9, .int (nI k)), (3, .double ((bis (crv (y0 wh) (g0 wh) (en wh) (q0 wh) sp) lv bg k).1)), (0, .ref (A 33)), (1, .ref (A 28)), (2, .int (bI bg))]) hx hb dX5_crossing_56 hl (by decide) rfl (fun ls hl => ?_)
      refine lv_iinc (v := nI (k + 1)) (lv' := [(9, .int (nI (k + 1))), (5, .double (FP.dmul k0_5 (FP.dadd ((bis (crv (y0 wh) (g0 wh) (en wh) (q0 wh) sp) lv bg k).1) ((bis (crv (y0 wh) (g0 wh) (en wh) (q0 wh) sp) lv bg k).2.1)))), (7, .double (FP.dmul k0_5 (FP.dadd ((bis (crv (y0 wh) (g0 wh) (en wh) (q0 wh) sp) lv bg k).1) ((bis (crv (y0 wh) (g0 wh) (en wh) (q0 wh) sp) lv bg k).2.1)))), (3, .double ((bis (crv (y0 wh) (g0 wh) (en wh) (q0 wh) sp) lv bg k).1)), (0, .ref (A 33)), (1, .ref (A 28)), (2, .int (bI bg))]) hx hb dX5_crossing_58 hl (k := 2) rfl (nI_1 k) (by decide) rfl (fun ls hl => ?_)
      refine lv_goto (tgt := 13) hx hb dX5_crossing_61 (by decide) ?_
      have hb2 : bis (crv (y0 wh) (g0 wh) (en wh) (q0 wh) sp) lv bg (k + 1) = _ := if_neg (fun h => c_45 (by rw [h]))
      have hl : lv_has ls 10 [(9, .int (nI (k + 1))), (5, .double (FP.dmul k0_5 (FP.dadd ((bis (crv (y0 wh) (g0 wh) (en wh) (q0 wh) sp) lv bg k).1) ((bis (crv (y0 wh) (g0 wh) (en wh) (q0 wh) sp) lv bg k).2.1)))), (7, .double (FP.dmul k0_5 (FP.dadd ((bis (crv (y0 wh) (g0 wh) (en wh) (q0 wh) sp) lv bg k).1) ((bis (crv (y0 wh) (g0 wh) (en wh) (q0 wh) sp) lv bg k).2.1)))), (3, .double ((bis (crv (y0 wh) (g0 wh) (en wh) (q0 wh) sp) lv bg k).1)), (0, .ref (A 33)), (1, .ref (A 28)), (2, .int (bI bg))] := hl
      have hl : lv_has ls 10 [(9, .int (nI (k + 1))), (7, .double ((bis (crv (y0 wh) (g0 wh) (en wh) (q0 wh) sp) lv bg (k + 1)).2.2)), (5, .double ((bis (crv (y0 wh) (g0 wh) (en wh) (q0 wh) sp) lv bg (k + 1)).2.1)), (3, .double ((bis (crv (y0 wh) (g0 wh) (en wh) (q0 wh) sp) lv bg (k + 1)).1)), (0, .ref (A 33)), (1, .ref (A 28)), (2, .int (bI bg))] := by rw [hb2]; exact lv_sub hl [0, 2, 1, 3, 4, 5, 6] rfl
      exact ih _ _ _ ⟨trivial, hP, hS, lv_sub hl [0, 1, 2, 3, 4, 5, 6] rfl⟩
    ·
      refine lv_dload hx hb dX5_crossing_48 (lv_at hl 0 rfl) ?_
      refine lv_dstore_n (lv' := [(3, .double (FP.dmul k0_5 (FP.dadd ((bis (crv (y0 wh) (g0 wh) (en wh) (q0 wh) sp) lv bg k).1) ((bis (crv (y0 wh) (g0 wh) (en wh) (q0 wh) sp) lv bg k).2.1)))), (7, .double (FP.dmul k0_5 (FP.dadd ((bis (crv (y0 wh) (g0 wh) (en wh) (q0 wh) sp) lv bg k).1) ((bis (crv (y0 wh) (g0 wh) (en wh) (q0 wh) sp) lv bg k).2.1)))), (9, .int (nI k)), (5, .double ((bis (crv (y0 wh) (g0 wh) (en wh) (q0 wh) sp) lv bg k).2.1)), (0, .ref (A 33)), (1, .ref (A 28)), (2, .int (bI bg))]) hx hb dX5_crossing_50 rfl hl (by decide) rfl (fun ls hl => ?_)
      refine lv_goto (tgt := 58) hx hb dX5_crossing_51 (by decide) ?_
      refine lv_iinc (v := nI (k + 1)) (lv' := [(9, .int (nI (k + 1))), (3, .double (FP.dmul k0_5 (FP.dadd ((bis (crv (y0 wh) (g0 wh) (en wh) (q0 wh) sp) lv bg k).1) ((bis (crv (y0 wh) (g0 wh) (en wh) (q0 wh) sp) lv bg k).2.1)))), (7, .double (FP.dmul k0_5 (FP.dadd ((bis (crv (y0 wh) (g0 wh) (en wh) (q0 wh) sp) lv bg k).1) ((bis (crv (y0 wh) (g0 wh) (en wh) (q0 wh) sp) lv bg k).2.1)))), (5, .double ((bis (crv (y0 wh) (g0 wh) (en wh) (q0 wh) sp) lv bg k).2.1)), (0, .ref (A 33)), (1, .ref (A 28)), (2, .int (bI bg))]) hx hb dX5_crossing_58 hl (k := 2) rfl (nI_1 k) (by decide) rfl (fun ls hl => ?_)
      refine lv_goto (tgt := 13) hx hb dX5_crossing_61 (by decide) ?_
      have hb2 : bis (crv (y0 wh) (g0 wh) (en wh) (q0 wh) sp) lv bg (k + 1) = _ := if_pos (bI_inj.mp c_45)
      have hl : lv_has ls 10 [(9, .int (nI (k + 1))), (3, .double (FP.dmul k0_5 (FP.dadd ((bis (crv (y0 wh) (g0 wh) (en wh) (q0 wh) sp) lv bg k).1) ((bis (crv (y0 wh) (g0 wh) (en wh) (q0 wh) sp) lv bg k).2.1)))), (7, .double (FP.dmul k0_5 (FP.dadd ((bis (crv (y0 wh) (g0 wh) (en wh) (q0 wh) sp) lv bg k).1) ((bis (crv (y0 wh) (g0 wh) (en wh) (q0 wh) sp) lv bg k).2.1)))), (5, .double ((bis (crv (y0 wh) (g0 wh) (en wh) (q0 wh) sp) lv bg k).2.1)), (0, .ref (A 33)), (1, .ref (A 28)), (2, .int (bI bg))] := hl
      have hl : lv_has ls 10 [(9, .int (nI (k + 1))), (7, .double ((bis (crv (y0 wh) (g0 wh) (en wh) (q0 wh) sp) lv bg (k + 1)).2.2)), (5, .double ((bis (crv (y0 wh) (g0 wh) (en wh) (q0 wh) sp) lv bg (k + 1)).2.1)), (3, .double ((bis (crv (y0 wh) (g0 wh) (en wh) (q0 wh) sp) lv bg (k + 1)).1)), (0, .ref (A 33)), (1, .ref (A 28)), (2, .int (bI bg))] := by rw [hb2]; exact lv_sub hl [0, 2, 3, 1, 4, 5, 6] rfl
      exact ih _ _ _ ⟨trivial, hP, hS, lv_sub hl [0, 1, 2, 3, 4, 5, 6] rfl⟩
  ·
    intro H locs ls ⟨_hv, hP, hS, hl⟩
    refine lv_iload hx hb dX5_crossing_13 (lv_at hl 0 rfl) ?_
    refine lv_bipush (v := nI 20) hx hb dX5_crossing_15 (by decide) ?_
    refine lv_icmp_ge (tgt := 64) hx hb dX5_crossing_17 (by decide) (fun c_17 => ?_) (fun c_17 => absurd (nI_le (Nat.le_refl _) (by decide)) c_17)
    refine lv_aload_n hx hb dX5_crossing_64 rfl (lv_at hl 5 rfl) ?_
    refine gX2 hx hb hg hown hI hP 1 rfl 6 rfl mF_X5_56 rfl dX5_crossing_65 ?_
    refine lv_dload hx hb dX5_crossing_68 (lv_at hl 1 rfl) ?_
    refine xpc (q := 70) rfl ?_
    refine lv_aload_n hx hb dX5_crossing_70 rfl (lv_at hl 5 rfl) ?_
    refine gX2 hx hb hg hown hI hP 1 rfl 7 rfl mF_X5_59 rfl dX5_crossing_71 ?_
    have b1 : bd 1 2 (FP.dmul ((bis (crv (y0 wh) (g0 wh) (en wh) (q0 wh) sp) lv bg 20).2.2) sp) := bd_mul (bis_bd 20).2.2 hsp (by decide) (by decide)
    refine lv_dmul hx hb dX5_crossing_74 b1.nn ?_
    have b2 : bd 1 17 (FP.dadd t0 (FP.dmul ((bis (crv (y0 wh) (g0 wh) (en wh) (q0 wh) sp) lv bg 20).2.2) sp)) := bd_add ht0 b1 (by decide) (by decide) (by decide)
    refine lv_dadd hx hb dX5_crossing_75 b2.nn ?_
    exact W.dret hx hb hr (fun tS hTS hWS => ⟨(), rfl, trivial, by rw [hTS]; exact hP.sub [] rfl, hS.F hTS⟩) hS.2.2 dX5_crossing_76

set_option maxHeartbeats 4000000 in
set_option maxRecDepth 100000 in
theorem c_look (l : Launch) (D : va_G) (cD cI cM cL : ClassId) (A : Nat → Nat) (t0 sp : UInt64) (q0 y0 g0 en : Nat → UInt64) (kn : Bool) (on : Bool) (wh : Nat) (lv : UInt64) (ev : Nat) (tm : Nat → UInt64) (hev : ev < 2 ^ 30) (hw : on = true → wh < 3 ∧ okc (y0 wh) (g0 wh) (en wh) (q0 wh) sp t0 lv) : Met l yX5_look (Cond.code yX5_look cX5_look 3 none :: lw_good) { frames := 2, cells := 0, slots := 0, locals := 52 } (xPc D (tyL cD cI cM cL) [.ref (A 33), .ref (A 28)] [(A 33, .inr (5, [.ref (A 34), .int (bI on), .int (nI wh), .double lv, .int (nI ev)])), (A 34, dA cD 8 tm), (A 28, .inr (2, [.ref (A 3), .ref (A 29), .ref (A 30), .ref (A 31), .ref (A 32), .int (bI kn), .double t0, .double sp])), (A 29, dA cD 3 q0), (A 30, dA cD 3 y0), (A 31, dA cD 3 g0), (A 32, dA cD 3 en)]) (xQ D [A 33, A 34] (fun (_ : Unit) => none) (fun (_ : Unit) => True) (fun (_ : Unit) => [(A 33, .inr (5, [.ref (A 34), .int (bI on), .int (nI wh), .double lv, .int (nI (lookN on lv (y0 wh) (en wh) ev))])), (A 34, dA cD 8 (lookT on lv (y0 wh) (g0 wh) (en wh) (q0 wh) sp t0 ev tm))])) 0 0 (fun q => q ∈ ([A 33, A 34] : List Nat)) := by
  refine xofW (adr := [A 33, A 34]) (by decide) (Nat.le_of_ble_eq_true rfl) ?_
  intro p e s m below meth c ls hx hb hr hml hg hown hlk hI hP hd hS hl
  have hown : s.vm.findClass RX5 = some m.cls := hown
  have hd : dj [A 33, A 34, A 28, A 29, A 30, A 31, A 32] := hd
  have hl : lv_has ls 3 [(0, .ref (A 33)), (1, .ref (A 28))] := hl
  refine lv_aload_n hx hb dX5_look_0 rfl (lv_at hl 0 rfl) ?_
  refine gX5 hx hb hg hown hI hP 0 rfl 1 rfl mF_X5_13 rfl dX5_look_1 ?_
  refine lv_if_ne (tgt := 8) hx hb dX5_look_4 (by decide) (fun c_4 => ?_) (fun c_4 => ?_)
  ·
    obtain rfl : on = true := bI_ne0.mp c_4
    obtain ⟨hwh, hc⟩ := hw rfl
    obtain ⟨ha1, hb1, hc1, hd1, hsp, ht0, hlv⟩ := id hc
    refine lv_aload_n hx hb dX5_look_8 rfl (lv_at hl 0 rfl) ?_
    refine lv_aload_n hx hb dX5_look_9 rfl (lv_at hl 1 rfl) ?_
    refine gX2 hx hb hg hown hI hP 2 rfl 2 rfl mF_X5_34 rfl dX5_look_10 ?_
    refine lv_aload_n hx hb dX5_look_13 rfl (lv_at hl 0 rfl) ?_
    refine gX5 hx hb hg hown hI hP 0 rfl 2 rfl mF_X5_21 rfl dX5_look_14 ?_
    refine xdald hx hb hI hP 4 0 rfl rfl hwh (by decide) dX5_look_17 ?_
    have hf1 : fin (FP.dsub (y0 wh) lv) := (bd_sub (k := 21) ha1 hlv (by decide) (by decide) (by decide)).1
    have hf2 : fin (FP.dsub (en wh) lv) := (bd_sub (k := 21) hc1 hlv (by decide) (by decide) (by decide)).1
    refine xci (xV (As := [.double (y0 wh)]) (rest := []) hx hb hml hown hg (c_isAbove l D cD cI cM cL A true wh lv ev (y0 wh) hf1) mM_X5_39 ok_X5_isAbove rfl rfl ⟨Nat.le_of_ble_eq_true rfl, Nat.le_of_ble_eq_true rfl⟩ hI hP hd rfl [0] rfl rfl rfl rfl rfl hl.1 rfl (Nat.le_of_ble_eq_true rfl) dX5_look_18 ⟨Nat.zero_le _, Nat.zero_le _⟩) hP hd hS fa0 [] rfl rfl (fun _ => rfl) (fun _u H locs hu hP hS => ?_)
    have hP : va_P D vwCl [(A 33, .inr (5, [.ref (A 34), .int (bI true), .int (nI wh), .double lv, .int (nI ev)])), (A 34, dA cD 8 tm), (A 28, .inr (2, [.ref (A 3), .ref (A 29), .ref (A 30), .ref (A 31), .ref (A 32), .int (bI kn), .double t0, .double sp])), (A 29, dA cD 3 q0), (A 30, dA cD 3 y0), (A 31, dA cD 3 g0), (A 32, dA cD 3 en)] H := hP
    refine lv_istore_n (lv' := [(2, .int (bI (abv lv (y0 wh)))), (0, .ref (A 33)), (1, .ref (A 28))]) hx hb dX5_look_21 rfl hl (by decide) rfl (fun ls hl => ?_)
    refine lv_aload_n hx hb dX5_look_22 rfl (lv_at hl 1 rfl) ?_
    refine lv_aload_n hx hb dX5_look_23 rfl (lv_at hl 2 rfl) ?_
    refine gX2 hx hb hg hown hI hP 2 rfl 4 rfl mF_X5_43 rfl dX5_look_24 ?_
    refine lv_aload_n hx hb dX5_look_27 rfl (lv_at hl 1 rfl) ?_
    refine gX5 hx hb hg hown hI hP 0 rfl 2 rfl mF_X5_21 rfl dX5_look_28 ?_
    refine xdald hx hb hI hP 6 0 rfl rfl hwh (by decide) dX5_look_31 ?_
    refine xci (xV (As := [.double (en wh)]) (rest := []) hx hb hml hown hg (c_isAbove l D cD cI cM cL A true wh lv ev (en wh) hf2) mM_X5_39 ok_X5_isAbove rfl rfl ⟨Nat.le_of_ble_eq_true rfl, Nat.le_of_ble_eq_true rfl⟩ hI hP hd rfl [0] rfl rfl rfl rfl rfl hl.1 rfl (Nat.le_of_ble_eq_true rfl) dX5_look_32 ⟨Nat.zero_le _, Nat.zero_le _⟩) hP hd hS fa0 [] rfl rfl (fun _ => rfl) (fun _u H locs hu hP hS => ?_)
    have hP : va_P D vwCl [(A 33, .inr (5, [.ref (A 34), .int (bI true), .int (nI wh), .double lv, .int (nI ev)])), (A 34, dA cD 8 tm), (A 28, .inr (2, [.ref (A 3), .ref (A 29), .ref (A 30), .ref (A 31), .ref (A 32), .int (bI kn), .double t0, .double sp])), (A 29, dA cD 3 q0), (A 30, dA cD 3 y0), (A 31, dA cD 3 g0), (A 32, dA cD 3 en)] H := hP
    refine xpc (q := 35) rfl ?_
    refine lv_iload_n hx hb dX5_look_35 rfl (lv_at hl 0 rfl) ?_
    refine lv_icmp_eq (tgt := 69) hx hb dX5_look_36 (by decide) (fun c_36 => ?_) (fun c_36 => ?_)
    ·
      have hfi : fire true lv (y0 wh) (en wh) = false := by unfold fire; rw [bI_inj.mp c_36]; simp
      have e1 : lookT true lv (y0 wh) (g0 wh) (en wh) (q0 wh) sp t0 ev tm = tm := by unfold lookT; rw [hfi]; rfl
      have e2 : lookN true lv (y0 wh) (en wh) ev = ev := by unfold lookN; rw [hfi]; rfl
      rw [e1, e2]
      exact W.vret hx hb hr (fun tS hTS hWS => ⟨(), rfl, trivial, by rw [hTS]; exact hP.sub [0, 1] rfl, hS.F hTS⟩) hS.2.2 dX5_look_69
    ·
      have hfi : fire true lv (y0 wh) (en wh) = true := by unfold fire; simp [mt bI_inj.mpr c_36]
      have e1 : lookT true lv (y0 wh) (g0 wh) (en wh) (q0 wh) sp t0 ev tm = vf_upd tm (ev % 8) (evt t0 sp (crv (y0 wh) (g0 wh) (en wh) (q0 wh) sp) lv (abv lv (y0 wh))) := by unfold lookT; rw [hfi]; rfl
      have e2 : lookN true lv (y0 wh) (en wh) ev = ev + 1 := by unfold lookN; rw [hfi]; rfl
      rw [e1, e2]
      refine lv_aload_n hx hb dX5_look_39 rfl (lv_at hl 1 rfl) ?_
      refine gX5 hx hb hg hown hI hP 0 rfl 0 rfl mF_X5_9 rfl dX5_look_40 ?_
      refine lv_aload_n hx hb dX5_look_43 rfl (lv_at hl 1 rfl) ?_
      refine gX5 hx hb hg hown hI hP 0 rfl 4 rfl mF_X5_17 rfl dX5_look_44 ?_
      refine lv_bipush (v := nI 8) hx hb dX5_look_47 (by decide) ?_
      refine xci (xS (As := [.int (nI ev), .int (nI 8)]) (rest := [.ref (A 34)]) hx hb hml hown hg (c_floorMod l D cD cI cM cL ev (by omega)) mM_X5_28 ok_J9_floorMod_7cf53 rfl rfl ⟨Nat.le_of_ble_eq_true rfl, Nat.le_of_ble_eq_true rfl⟩ hI hP hd rfl [] rfl rfl rfl hl.1 rfl (Nat.le_of_ble_eq_true rfl) dX5_look_49 ⟨Nat.zero_le _, Nat.zero_le _⟩) hP hd hS fa0 [] rfl rfl (fun _ => rfl) (fun _u H locs hu hP hS => ?_)
      have hP : va_P D vwCl [(A 33, .inr (5, [.ref (A 34), .int (bI true), .int (nI wh), .double lv, .int (nI ev)])), (A 34, dA cD 8 tm), (A 28, .inr (2, [.ref (A 3), .ref (A 29), .ref (A 30), .ref (A 31), .ref (A 32), .int (bI kn), .double t0, .double sp])), (A 29, dA cD 3 q0), (A 30, dA cD 3 y0), (A 31, dA cD 3 g0), (A 32, dA cD 3 en)] H := hP
      refine lv_aload_n hx hb dX5_look_52 rfl (lv_at hl 1 rfl) ?_
      refine lv_aload_n hx hb dX5_look_53 rfl (lv_at hl 2 rfl) ?_
      refine lv_iload_n hx hb dX5_look_54 rfl (lv_at hl 0 rfl) ?_
      refine xcd (xV (As := [.ref (A 28), .int (bI (abv lv (y0 wh)))]) (rest := [.int (nI (ev % 8)), .ref (A 34)]) hx hb hml hown hg (c_crossing l D cD cI cM cL A t0 sp q0 y0 g0 en kn true wh lv ev (abv lv (y0 wh)) hwh hc) mM_X5_46 ok_X5_crossing rfl rfl ⟨Nat.le_of_ble_eq_true rfl, Nat.le_of_ble_eq_true rfl⟩ hI hP hd rfl [0, 2, 3, 4, 5, 6] rfl rfl rfl rfl rfl hl.1 rfl (Nat.le_of_ble_eq_true rfl) dX5_look_55 ⟨Nat.zero_le _, Nat.zero_le _⟩) hP hd hS fa0 [] rfl rfl (fun _ => rfl) (fun _u H locs hu hP hS => ?_)
      have hP : va_P D vwCl [(A 33, .inr (5, [.ref (A 34), .int (bI true), .int (nI wh), .double lv, .int (nI ev)])), (A 34, dA cD 8 tm), (A 28, .inr (2, [.ref (A 3), .ref (A 29), .ref (A 30), .ref (A 31), .ref (A 32), .int (bI kn), .double t0, .double sp])), (A 29, dA cD 3 q0), (A 30, dA cD 3 y0), (A 31, dA cD 3 g0), (A 32, dA cD 3 en)] H := hP
      refine xdast hx hb hI hP hd rfl hS 1 0 rfl rfl (Nat.mod_lt _ (by decide)) (by decide) (pmS pm0) dX5_look_58 (fun H locs hP hS => ?_)
      have hP : va_P D vwCl [(A 33, .inr (5, [.ref (A 34), .int (bI true), .int (nI wh), .double lv, .int (nI ev)])), (A 34, dA cD 8 (vf_upd tm (ev % 8) (evt t0 sp (crv (y0 wh) (g0 wh) (en wh) (q0 wh) sp) lv (abv lv (y0 wh))))), (A 28, .inr (2, [.ref (A 3), .ref (A 29), .ref (A 30), .ref (A 31), .ref (A 32), .int (bI kn), .double t0, .double sp])), (A 29, dA cD 3 q0), (A 30, dA cD 3 y0), (A 31, dA cD 3 g0), (A 32, dA cD 3 en)] H := hP
      refine lv_aload_n hx hb dX5_look_59 rfl (lv_at hl 1 rfl) ?_
      refine lv_dup hx hb dX5_look_60 rfl ?_
      refine gX5 hx hb hg hown hI hP 0 rfl 4 rfl mF_X5_17 rfl dX5_look_61 ?_
      refine lv_iconst (v := nI 1) hx hb dX5_look_64 (by decide) ?_
      refine xpc (q := 65) rfl ?_
      refine lv_iadd hx hb dX5_look_65 ?_
      refine xeqi (y := nI (ev + 1)) (nI_add ev 1) ?_
      refine pX5 hx hb hg hown hI hP hd rfl hS 0 rfl 4 rfl mF_X5_17 rfl rfl rfl (Nat.le_of_ble_eq_true rfl) pm0 dX5_look_66 (fun H locs hP hS => ?_)
      have hP : va_P D vwCl [(A 33, .inr (5, [.ref (A 34), .int (bI true), .int (nI wh), .double lv, .int (nI (ev + 1))])), (A 34, dA cD 8 (vf_upd tm (ev % 8) (evt t0 sp (crv (y0 wh) (g0 wh) (en wh) (q0 wh) sp) lv (abv lv (y0 wh))))), (A 28, .inr (2, [.ref (A 3), .ref (A 29), .ref (A 30), .ref (A 31), .ref (A 32), .int (bI kn), .double t0, .double sp])), (A 29, dA cD 3 q0), (A 30, dA cD 3 y0), (A 31, dA cD 3 g0), (A 32, dA cD 3 en)] H := hP
      exact W.vret hx hb hr (fun tS hTS hWS => ⟨(), rfl, trivial, by rw [hTS]; exact hP.sub [0, 1] rfl, hS.F hTS⟩) hS.2.2 dX5_look_69
  ·
    obtain rfl : on = false := bI_eq0.mp c_4
    exact W.vret hx hb hr (fun tS hTS hWS => ⟨(), rfl, trivial, by rw [hTS]; exact hP.sub [0, 1] rfl, hS.F hTS⟩) hS.2.2 dX5_look_7

set_option maxHeartbeats 4000000 in
set_option maxRecDepth 100000 in
theorem c_wclear (l : Launch) (D : va_G) (cD cI cM cL : ClassId) (A : Nat → Nat) (on : Bool) (wh : Nat) (lv : UInt64) (ev : Nat)  : Met l yX5_clear (Cond.code yX5_clear cX5_clear 1 none :: lw_good) { frames := 0, cells := 0, slots := 0, locals := 0 } (xPc D (tyL cD cI cM cL) [.ref (A 33)] [(A 33, .inr (5, [.ref (A 34), .int (bI on), .int (nI wh), .double lv, .int (nI ev)]))]) (xQ D [A 33] (fun (_ : Unit) => none) (fun (_ : Unit) => True) (fun (_ : Unit) => [(A 33, .inr (5, [.ref (A 34), .int (nI 0), .int (nI wh), .double lv, .int (nI 0)]))])) 0 0 (fun q => q ∈ ([A 33] : List Nat)) := by
  refine xofW (adr := [A 33]) (by decide) (Nat.le_of_ble_eq_true rfl) ?_
  intro p e s m below meth c ls hx hb hr hml hg hown hlk hI hP hd hS hl
  have hown : s.vm.findClass RX5 = some m.cls := hown
  have hd : dj [A 33] := hd
  have hl : lv_has ls 1 [(0, .ref (A 33))] := hl
  refine lv_aload_n hx hb dX5_clear_0 rfl (lv_at hl 0 rfl) ?_
  refine lv_iconst (v := nI 0) hx hb dX5_clear_1 (by decide) ?_
  refine pX5 hx hb hg hown hI hP hd rfl hS 0 rfl 1 rfl mF_X5_13 rfl (by decide) (by decide) (Nat.le_of_ble_eq_true rfl) pm0 dX5_clear_2 (fun H locs hP hS => ?_)
  have hP : va_P D vwCl [(A 33, .inr (5, [.ref (A 34), .int (nI 0), .int (nI wh), .double lv, .int (nI ev)]))] H := hP
  refine lv_aload_n hx hb dX5_clear_5 rfl (lv_at hl 0 rfl) ?_
  refine lv_iconst (v := nI 0) hx hb dX5_clear_6 (by decide) ?_
  refine pX5 hx hb hg hown hI hP hd rfl hS 0 rfl 4 rfl mF_X5_17 rfl rfl rfl (Nat.le_of_ble_eq_true rfl) pm0 dX5_clear_7 (fun H locs hP hS => ?_)
  have hP : va_P D vwCl [(A 33, .inr (5, [.ref (A 34), .int (nI 0), .int (nI wh), .double lv, .int (nI 0)]))] H := hP
  exact W.vret hx hb hr (fun tS hTS hWS => ⟨(), rfl, trivial, by rw [hTS]; exact hP.sub [0] rfl, hS.F hTS⟩) hS.2.2 dX5_clear_10

set_option maxHeartbeats 4000000 in
set_option maxRecDepth 100000 in
theorem c_turnTo (l : Launch) (D : va_G) (cD cI cM cL : ClassId) (A : Nat → Nat) (on : Bool) (wh : Nat) (lv : UInt64) (ev : Nat) (e0 : Int32) (l0 : UInt64)  : Met l yX5_turnTo (Cond.code yX5_turnTo cX5_turnTo 4 none :: lw_good) { frames := 0, cells := 0, slots := 0, locals := 0 } (xPc D (tyL cD cI cM cL) [.ref (A 33), .int e0, .double l0] [(A 33, .inr (5, [.ref (A 34), .int (bI on), .int (nI wh), .double lv, .int (nI ev)]))]) (xQ D [A 33] (fun (_ : Unit) => none) (fun (_ : Unit) => True) (fun (_ : Unit) => [(A 33, .inr (5, [.ref (A 34), .int (nI 1), .int e0, .double l0, .int (nI ev)]))])) 0 0 (fun q => q ∈ ([A 33] : List Nat)) := by
  refine xofW (adr := [A 33]) (by decide) (Nat.le_of_ble_eq_true rfl) ?_
  intro p e s m below meth c ls hx hb hr hml hg hown hlk hI hP hd hS hl
  have hown : s.vm.findClass RX5 = some m.cls := hown
  have hd : dj [A 33] := hd
  have hl : lv_has ls 4 [(0, .ref (A 33)), (1, .int e0), (2, .double l0)] := hl
  refine lv_aload_n hx hb dX5_turnTo_0 rfl (lv_at hl 0 rfl) ?_
  refine lv_iconst (v := nI 1) hx hb dX5_turnTo_1 (by decide) ?_
  refine pX5 hx hb hg hown hI hP hd rfl hS 0 rfl 1 rfl mF_X5_13 rfl (by decide) (by decide) (Nat.le_of_ble_eq_true rfl) pm0 dX5_turnTo_2 (fun H locs hP hS => ?_)
  have hP : va_P D vwCl [(A 33, .inr (5, [.ref (A 34), .int (nI 1), .int (nI wh), .double lv, .int (nI ev)]))] H := hP
  refine lv_aload_n hx hb dX5_turnTo_5 rfl (lv_at hl 0 rfl) ?_
  refine lv_iload_n hx hb dX5_turnTo_6 rfl (lv_at hl 1 rfl) ?_
  refine pX5 hx hb hg hown hI hP hd rfl hS 0 rfl 2 rfl mF_X5_21 rfl rfl rfl (Nat.le_of_ble_eq_true rfl) pm0 dX5_turnTo_7 (fun H locs hP hS => ?_)
  have hP : va_P D vwCl [(A 33, .inr (5, [.ref (A 34), .int (nI 1), .int e0, .double lv, .int (nI ev)]))] H := hP
  refine lv_aload_n hx hb dX5_turnTo_10 rfl (lv_at hl 0 rfl) ?_
  refine lv_dload_n hx hb dX5_turnTo_11 rfl (lv_at hl 2 rfl) ?_
  refine pX5 hx hb hg hown hI hP hd rfl hS 0 rfl 3 rfl mF_X5_24 rfl rfl rfl (Nat.le_of_ble_eq_true rfl) pm0 dX5_turnTo_12 (fun H locs hP hS => ?_)
  have hP : va_P D vwCl [(A 33, .inr (5, [.ref (A 34), .int (nI 1), .int e0, .double l0, .int (nI ev)]))] H := hP
  exact W.vret hx hb hr (fun tS hTS hWS => ⟨(), rfl, trivial, by rw [hTS]; exact hP.sub [0] rfl, hS.F hTS⟩) hS.2.2 dX5_turnTo_15

set_option maxHeartbeats 4000000 in
set_option maxRecDepth 100000 in
theorem c_remembers (l : Launch) (D : va_G) (cD cI cM cL : ClassId) (A : Nat → Nat) (on : Bool) (wh : Nat) (lv : UInt64) (ev : Nat) (k : Int32)  : Met l yX5_remembers (Cond.code yX5_remembers cX5_remembers 2 (some .boolean) :: lw_good) { frames := 0, cells := 0, slots := 0, locals := 0 } (xPc D (tyL cD cI cM cL) [.ref (A 33), .int k] [(A 33, .inr (5, [.ref (A 34), .int (bI on), .int (nI wh), .double lv, .int (nI ev)]))]) (xQ D [] (fun (_ : Unit) => some (.int (bI (decide ((nI 0 ≤ k ∧ k < nI 8) ∧ k < nI ev))))) (fun (_ : Unit) => True) (fun (_ : Unit) => [])) 0 0 (fun q => q ∈ ([] : List Nat)) := by
  refine xofW (adr := []) (by decide) (Nat.le_of_ble_eq_true rfl) ?_
  intro p e s m below meth c ls hx hb hr hml hg hown hlk hI hP hd hS hl
  have hown : s.vm.findClass RX5 = some m.cls := hown
  have hd : dj [A 33] := hd
  have hl : lv_has ls 2 [(0, .ref (A 33)), (1, .int k)] := hl
  refine lv_iload_n hx hb dX5_remembers_0 rfl (lv_at hl 1 rfl) ?_
  refine lv_if_lt (tgt := 22) hx hb dX5_remembers_1 (by decide) (fun c_1 => ?_) (fun c_1 => ?_)
  ·
    refine lv_iconst (v := nI 0) hx hb dX5_remembers_22 (by decide) ?_
    refine xeqi (y := bI (decide ((nI 0 ≤ k ∧ k < nI 8) ∧ k < nI ev))) (bI0 (df (fun h => (Int32.not_lt.mpr h.1.1) c_1))) ?_
    exact W.zret hx hb hr (bI_n _) (fun tS hTS hWS => ⟨(), rfl, trivial, by rw [hTS]; exact hP.sub [] rfl, hS.F hTS⟩) hS.2.2 dX5_remembers_23
  ·
    refine lv_iload_n hx hb dX5_remembers_4 rfl (lv_at hl 1 rfl) ?_
    refine lv_bipush (v := nI 8) hx hb dX5_remembers_5 (by decide) ?_
    refine lv_icmp_ge (tgt := 22) hx hb dX5_remembers_7 (by decide) (fun c_7 => ?_) (fun c_7 => ?_)
    ·
      refine lv_iconst (v := nI 0) hx hb dX5_remembers_22 (by decide) ?_
      refine xeqi (y := bI (decide ((nI 0 ≤ k ∧ k < nI 8) ∧ k < nI ev))) (bI0 (df (fun h => (Int32.not_lt.mpr c_7) h.1.2))) ?_
      exact W.zret hx hb hr (bI_n _) (fun tS hTS hWS => ⟨(), rfl, trivial, by rw [hTS]; exact hP.sub [] rfl, hS.F hTS⟩) hS.2.2 dX5_remembers_23
    ·
      refine lv_iload_n hx hb dX5_remembers_10 rfl (lv_at hl 1 rfl) ?_
      refine lv_aload_n hx hb dX5_remembers_11 rfl (lv_at hl 0 rfl) ?_
      refine gX5 hx hb hg hown hI hP 0 rfl 4 rfl mF_X5_17 rfl dX5_remembers_12 ?_
      refine lv_icmp_ge (tgt := 22) hx hb dX5_remembers_15 (by decide) (fun c_15 => ?_) (fun c_15 => ?_)
      ·
        refine lv_iconst (v := nI 0) hx hb dX5_remembers_22 (by decide) ?_
        refine xeqi (y := bI (decide ((nI 0 ≤ k ∧ k < nI 8) ∧ k < nI ev))) (bI0 (df (fun h => (Int32.not_lt.mpr c_15) h.2))) ?_
        exact W.zret hx hb hr (bI_n _) (fun tS hTS hWS => ⟨(), rfl, trivial, by rw [hTS]; exact hP.sub [] rfl, hS.F hTS⟩) hS.2.2 dX5_remembers_23
      ·
        refine lv_iconst (v := nI 1) hx hb dX5_remembers_18 (by decide) ?_
        refine lv_goto (tgt := 23) hx hb dX5_remembers_19 (by decide) ?_
        refine xeqi (y := bI (decide ((nI 0 ≤ k ∧ k < nI 8) ∧ k < nI ev))) (bI1 (dt ⟨⟨Int32.not_lt.mp c_1, Int32.not_le.mp c_7⟩, Int32.not_le.mp c_15⟩)) ?_
        exact W.zret hx hb hr (bI_n _) (fun tS hTS hWS => ⟨(), rfl, trivial, by rw [hTS]; exact hP.sub [] rfl, hS.F hTS⟩) hS.2.2 dX5_remembers_23

set_option maxHeartbeats 4000000 in
set_option maxRecDepth 100000 in
theorem c_latest (l : Launch) (D : va_G) (cD cI cM cL : ClassId) (A : Nat → Nat) (on : Bool) (wh : Nat) (lv : UInt64) (ev : Nat) (k : Nat) (tm : Nat → UInt64) (hk : k < ev) (hev : ev < 2 ^ 30) : Met l yX5_latest (Cond.code yX5_latest cX5_latest 2 (some .double) :: lw_good) { frames := 1, cells := 0, slots := 0, locals := 22 } (xPc D (tyL cD cI cM cL) [.ref (A 33), .int (nI k)] [(A 33, .inr (5, [.ref (A 34), .int (bI on), .int (nI wh), .double lv, .int (nI ev)])), (A 34, dA cD 8 tm)]) (xQ D [] (fun (_ : Unit) => some (.double (tm ((ev - 1 - k) % 8)))) (fun (_ : Unit) => True) (fun (_ : Unit) => [])) 0 0 (fun q => q ∈ ([] : List Nat)) := by
  refine xofW (adr := []) (by decide) (Nat.le_of_ble_eq_true rfl) ?_
  intro p e s m below meth c ls hx hb hr hml hg hown hlk hI hP hd hS hl
  have hown : s.vm.findClass RX5 = some m.cls := hown
  have hd : dj [A 33, A 34] := hd
  have hl : lv_has ls 2 [(0, .ref (A 33)), (1, .int (nI k))] := hl
  refine lv_aload_n hx hb dX5_latest_0 rfl (lv_at hl 0 rfl) ?_
  refine gX5 hx hb hg hown hI hP 0 rfl 0 rfl mF_X5_9 rfl dX5_latest_1 ?_
  refine lv_aload_n hx hb dX5_latest_4 rfl (lv_at hl 0 rfl) ?_
  refine gX5 hx hb hg hown hI hP 0 rfl 4 rfl mF_X5_17 rfl dX5_latest_5 ?_
  refine lv_iconst (v := nI 1) hx hb dX5_latest_8 (by decide) ?_
  refine lv_isub hx hb dX5_latest_9 ?_
  refine lv_iload_n hx hb dX5_latest_10 rfl (lv_at hl 1 rfl) ?_
  refine lv_isub hx hb dX5_latest_11 ?_
  refine xeqi (y := nI (ev - 1 - k)) (show nI ev - nI 1 - nI k = nI (ev - 1 - k) by rw [pk_sub (by omega), pk_sub (by omega)]) ?_
  refine lv_bipush (v := nI 8) hx hb dX5_latest_12 (by decide) ?_
  refine xci (xS (As := [.int (nI (ev - 1 - k)), .int (nI 8)]) (rest := [.ref (A 34)]) hx hb hml hown hg (c_floorMod l D cD cI cM cL (ev - 1 - k) (by omega)) mM_X5_28 ok_J9_floorMod_7cf53 rfl rfl ⟨Nat.le_of_ble_eq_true rfl, Nat.le_of_ble_eq_true rfl⟩ hI hP hd rfl [] rfl rfl rfl hl.1 rfl (Nat.le_of_ble_eq_true rfl) dX5_latest_14 ⟨Nat.zero_le _, Nat.zero_le _⟩) hP hd hS fa0 [] rfl rfl (fun _ => rfl) (fun _u H locs hu hP hS => ?_)
  have hP : va_P D vwCl [(A 33, .inr (5, [.ref (A 34), .int (bI on), .int (nI wh), .double lv, .int (nI ev)])), (A 34, dA cD 8 tm)] H := hP
  refine xdald hx hb hI hP 1 0 rfl rfl (Nat.mod_lt _ (by decide)) (by decide) dX5_latest_17 ?_
  exact W.dret hx hb hr (fun tS hTS hWS => ⟨(), rfl, trivial, by rw [hTS]; exact hP.sub [] rfl, hS.F hTS⟩) hS.2.2 dX5_latest_18
