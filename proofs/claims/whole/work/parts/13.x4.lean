theorem ok_X4_begin : okV yX4_begin RX4 cX4_begin 5 none 2 := ⟨mI_X4_begin, mS_X4_begin, mN_X4, mC_X4_begin, by decide +kernel⟩
theorem ok_X4_move : okV yX4_move RX4 cX4_move 7 none 4 := ⟨mI_X4_move, mS_X4_move, mN_X4, mC_X4_move, by decide +kernel⟩
theorem ok_X4_slopesAfter : okV yX4_slopesAfter RX4 cX4_slopesAfter 5 none 3 := ⟨mI_X4_slopesAfter, mS_X4_slopesAfter, mN_X4, mC_X4_slopesAfter, by decide +kernel⟩
theorem ok_X4_runge : okV yX4_runge RX4 cX4_runge 2 none 0 := ⟨mI_X4_runge, mS_X4_runge, mN_X4, mC_X4_runge, by decide +kernel⟩
theorem ok_X4_pair : okV yX4_pair RX4 cX4_pair 2 none 0 := ⟨mI_X4_pair, mS_X4_pair, mN_X4, mC_X4_pair, by decide +kernel⟩
theorem ok_X4_adams : okV yX4_adams RX4 cX4_adams 3 none 1 := ⟨mI_X4_adams, mS_X4_adams, mN_X4, mC_X4_adams, by decide +kernel⟩
theorem ok_X4_reckon : okV yX4_reckon RX4 cX4_reckon 5 (some .boolean) 3 := ⟨mI_X4_reckon, mS_X4_reckon, mN_X4, mC_X4_reckon, by decide +kernel⟩
set_option maxHeartbeats 4000000 in
set_option maxRecDepth 100000 in
theorem c_move (l : Launch) (D : va_G) (cD cI cM cL : ClassId) (hT hE hX hY aO aK aL aR a2 a3 a4 aS aY a1 aZ : Nat) (σ : Sys) (t r er : UInt64) (aA aB aC : Nat) (y k z : Nat → UInt64) (b : UInt64) (hn : sn σ ≤ 3) (h1 : ∀ i, i < sn σ → fin (FP.dmul b (k i))) (h2 : ∀ i, i < sn σ → fin (mv y b k i)) : Met l yX4_move (Cond.code yX4_move cX4_move 7 none :: lw_good) { frames := 0, cells := 0, slots := 0, locals := 0 } (xPc D (tyL cD cI cM cL) [.ref hT, .ref aA, .double b, .ref aB, .ref aC] [(hT, .inr (4, [.ref hE, .ref hX, .ref hY, .ref a2, .ref a3, .ref a4, .ref aS, .ref aY, .ref a1, .ref aZ, .double t, .double r, .double er])), (hE, .inr (0, [.ref aO, .ref aK, .ref aL, .ref aR, .int (nI (sn σ)), .int (nI (sc σ))])), (aA, dA cD 3 y), (aB, dA cD 3 k), (aC, dA cD 3 z)]) (xQ D [aC] (fun (_ : Unit) => none) (fun (_ : Unit) => True) (fun (_ : Unit) => [(aC, dA cD 3 (mix (sn σ) (mv y b k) z))])) 0 0 (fun q => q ∈ ([aC] : List Nat)) := by
  refine xofW (adr := [aC]) (by decide) (Nat.le_of_ble_eq_true rfl) ?_
  intro p e s m below meth c ls hx hb hr hml hg hown hlk hI hP hd hS hl
  have hown : s.vm.findClass RX4 = some m.cls := hown
  have hd : dj [hT, hE, aA, aB, aC] := hd
  have hl : lv_has ls 7 [(0, .ref hT), (1, .ref aA), (2, .double b), (4, .ref aB), (5, .ref aC)] := hl
  refine lv_iconst (v := nI 0) hx hb dX4_move_0 (by decide) ?_
  refine lv_istore (lv' := [(6, .int (nI 0)), (0, .ref hT), (1, .ref aA), (2, .double b), (4, .ref aB), (5, .ref aC)]) hx hb dX4_move_1 hl (by decide) rfl (fun ls hl => ?_)
  refine xfor (I := fun i H locs ls => ∃ (f' : Nat → UInt64), (f' = mix i (mv y b k) z) ∧ va_P D vwCl [(hT, .inr (4, [.ref hE, .ref hX, .ref hY, .ref a2, .ref a3, .ref a4, .ref aS, .ref aY, .ref a1, .ref aZ, .double t, .double r, .double er])), (hE, .inr (0, [.ref aO, .ref aK, .ref aL, .ref aR, .int (nI (sn σ)), .int (nI (sc σ))])), (aA, dA cD 3 y), (aB, dA cD 3 k), (aC, dA cD 3 f')] H ∧ va_S (fun q => q ∈ ([aC] : List Nat)) s.heap H locs ∧ lv_has ls 7 [(6, .int (nI i)), (0, .ref hT), (1, .ref aA), (2, .double b), (4, .ref aB), (5, .ref aC)]) (sn σ) 0 ⟨_, (mix_0 _ _).symm, hP, hS, lv_sub hl [0, 1, 2, 3, 4, 5] rfl⟩ (Nat.zero_le _) ?_ ?_
  ·
    intro i h_i ih H locs ls ⟨f', hf, hP, hS, hl⟩
    refine lv_iload hx hb dX4_move_3 (lv_at hl 0 rfl) ?_
    refine lv_aload_n hx hb dX4_move_5 rfl (lv_at hl 1 rfl) ?_
    refine gX4 hx hb hg hown hI hP 0 rfl 0 rfl mF_X4_30 rfl dX4_move_6 ?_
    refine gX0 hx hb hg hown hI hP 1 rfl 4 rfl mF_X4_88 rfl dX4_move_9 ?_
    refine lv_icmp_ge (tgt := 38) hx hb dX4_move_12 (by decide) (fun c_12 => absurd c_12 (nI_ge h_i (by omega))) (fun c_12 => ?_)
    refine lv_aload hx hb dX4_move_15 (lv_at hl 5 rfl) ?_
    refine lv_iload hx hb dX4_move_17 (lv_at hl 0 rfl) ?_
    refine lv_aload_n hx hb dX4_move_19 rfl (lv_at hl 2 rfl) ?_
    refine lv_iload hx hb dX4_move_20 (lv_at hl 0 rfl) ?_
    refine xdald hx hb hI hP 2 0 rfl rfl (Nat.lt_of_lt_of_le h_i hn) (by decide) dX4_move_22 ?_
    refine lv_dload_n hx hb dX4_move_23 rfl (lv_at hl 3 rfl) ?_
    refine lv_aload hx hb dX4_move_24 (lv_at hl 4 rfl) ?_
    refine xpc (q := 26) rfl ?_
    refine lv_iload hx hb dX4_move_26 (lv_at hl 0 rfl) ?_
    refine xdald hx hb hI hP 3 0 rfl rfl (Nat.lt_of_lt_of_le h_i hn) (by decide) dX4_move_28 ?_
    refine lv_dmul hx hb dX4_move_29 (fin.nn (h1 i h_i)) ?_
    refine lv_dadd hx hb dX4_move_30 (fin.nn (h2 i h_i)) ?_
    refine xdast hx hb hI hP hd rfl hS 4 0 rfl rfl (Nat.lt_of_lt_of_le h_i hn) (by decide) pm0 dX4_move_31 (fun H locs hP hS => ?_)
    have hP : va_P D vwCl [(hT, .inr (4, [.ref hE, .ref hX, .ref hY, .ref a2, .ref a3, .ref a4, .ref aS, .ref aY, .ref a1, .ref aZ, .double t, .double r, .double er])), (hE, .inr (0, [.ref aO, .ref aK, .ref aL, .ref aR, .int (nI (sn σ)), .int (nI (sc σ))])), (aA, dA cD 3 y), (aB, dA cD 3 k), (aC, dA cD 3 (vf_upd f' i (FP.dadd (y i) (FP.dmul b (k i)))))] H := hP
    refine lv_iinc (v := nI (i + 1)) (lv' := [(6, .int (nI (i + 1))), (0, .ref hT), (1, .ref aA), (2, .double b), (4, .ref aB), (5, .ref aC)]) hx hb dX4_move_32 hl (k := 0) rfl (nI_1 i) (by decide) rfl (fun ls hl => ?_)
    refine lv_goto (tgt := 3) hx hb dX4_move_35 (by decide) ?_
    exact ih _ _ _ ⟨_, mix_s hf rfl, hP, hS, lv_sub hl [0, 1, 2, 3, 4, 5] rfl⟩
  ·
    intro H locs ls ⟨f', hf, hP, hS, hl⟩
    refine lv_iload hx hb dX4_move_3 (lv_at hl 0 rfl) ?_
    refine lv_aload_n hx hb dX4_move_5 rfl (lv_at hl 1 rfl) ?_
    refine gX4 hx hb hg hown hI hP 0 rfl 0 rfl mF_X4_30 rfl dX4_move_6 ?_
    refine gX0 hx hb hg hown hI hP 1 rfl 4 rfl mF_X4_88 rfl dX4_move_9 ?_
    refine lv_icmp_ge (tgt := 38) hx hb dX4_move_12 (by decide) (fun c_12 => ?_) (fun c_12 => absurd (Int32.le_refl _) c_12)
    subst hf
    exact W.vret hx hb hr (fun tS hTS hWS => ⟨(), rfl, trivial, by rw [hTS]; exact hP.sub [4] rfl, hS.F hTS⟩) hS.2.2 dX4_move_38

set_option maxHeartbeats 4000000 in
set_option maxRecDepth 100000 in
theorem c_slopesAfter (l : Launch) (D : va_G) (cD cI cM cL : ClassId) (hT hE hX hY aO aK aL aR a2 a3 a4 aS aY a1 aZ : Nat) (σ : Sys) (t r er : UInt64) (aB aC : Nat) (y k q z v : Nat → UInt64) (b : UInt64) (K : Nat) (hσ : oks σ) (h1 : ∀ i, i < sn σ → fin (FP.dmul b (k i))) (h2 : ∀ i, i < sn σ → bd 1 K (mv y b k i)) (h3 : bd 1 K (FP.dadd t b)) (hK : 2 * K + 10 ≤ 1000) : Met l yX4_slopesAfter (Cond.code yX4_slopesAfter cX4_slopesAfter 5 none :: lw_good) { frames := 2, cells := 0, slots := 0, locals := 50 } (xPc D (tyL cD cI cM cL) [.ref hT, .double b, .ref aB, .ref aC] [(hT, .inr (4, [.ref hE, .ref hX, .ref hY, .ref a2, .ref a3, .ref a4, .ref aS, .ref aY, .ref a1, .ref aZ, .double t, .double r, .double er])), (hE, .inr (0, [.ref aO, .ref aK, .ref aL, .ref aR, .int (nI (sn σ)), .int (nI (sc σ))])), (aO, iA cI 10 (so σ)), (aK, dA cD 10 (sk σ)), (aL, iA cI 10 (sl σ)), (aR, iA cI 10 (sr σ)), (aY, dA cD 3 y), (aB, dA cD 3 (mix (sn σ) k q)), (aS, dA cD 3 z), (aC, dA cD 3 v)]) (xQ D [aS, aC] (fun (_ : Unit) => none) (fun (_ : Unit) => True) (fun (_ : Unit) => [(aS, dA cD 3 (mix (sn σ) (mv y b k) z)), (aC, dA cD 3 (mix (sn σ) (fs σ (FP.dadd t b) (mv y b k)) v))])) 0 0 (fun q => q ∈ ([aS, aC] : List Nat)) := by
  refine xofW (adr := [aS, aC]) (by decide) (Nat.le_of_ble_eq_true rfl) ?_
  intro p e s m below meth c ls hx hb hr hml hg hown hlk hI hP hd hS hl
  have hown : s.vm.findClass RX4 = some m.cls := hown
  have hd : dj [hT, hE, aO, aK, aL, aR, aY, aB, aS, aC] := hd
  have hl : lv_has ls 5 [(0, .ref hT), (1, .double b), (3, .ref aB), (4, .ref aC)] := hl
  have hn : sn σ ≤ 3 := hσ.2.1
  refine lv_aload_n hx hb dX4_slopesAfter_0 rfl (lv_at hl 0 rfl) ?_
  refine lv_aload_n hx hb dX4_slopesAfter_1 rfl (lv_at hl 0 rfl) ?_
  refine gX4 hx hb hg hown hI hP 0 rfl 7 rfl mF_X4_34 rfl dX4_slopesAfter_2 ?_
  refine lv_dload_n hx hb dX4_slopesAfter_5 rfl (lv_at hl 1 rfl) ?_
  refine lv_aload_n hx hb dX4_slopesAfter_6 rfl (lv_at hl 2 rfl) ?_
  refine lv_aload_n hx hb dX4_slopesAfter_7 rfl (lv_at hl 0 rfl) ?_
  refine gX4 hx hb hg hown hI hP 0 rfl 6 rfl mF_X4_21 rfl dX4_slopesAfter_8 ?_
  refine xcv (xV (As := [.ref aY, .double b, .ref aB, .ref aS]) (rest := []) hx hb hml hown hg (c_move l D cD cI cM cL hT hE hX hY aO aK aL aR a2 a3 a4 aS aY a1 aZ σ t r er aY aB aS y (mix (sn σ) k q) z b hn (fun i hi => by rw [mix_lt hi]; exact h1 i hi) (fun i hi => by unfold mv; rw [mix_lt hi]; exact (h2 i hi).1)) mM_X4_66 ok_X4_move rfl rfl ⟨Nat.le_of_ble_eq_true rfl, Nat.le_of_ble_eq_true rfl⟩ hI hP hd rfl [0, 1, 6, 7, 8] rfl rfl rfl rfl rfl hl.1 rfl (Nat.le_of_ble_eq_true rfl) dX4_slopesAfter_11 ⟨Nat.zero_le _, Nat.zero_le _⟩) hP hd hS (fa1 pm0 fa0) [8] rfl rfl (fun _ => rfl) (fun _u H locs hu hP hS => ?_)
  have hP : va_P D vwCl [(hT, .inr (4, [.ref hE, .ref hX, .ref hY, .ref a2, .ref a3, .ref a4, .ref aS, .ref aY, .ref a1, .ref aZ, .double t, .double r, .double er])), (hE, .inr (0, [.ref aO, .ref aK, .ref aL, .ref aR, .int (nI (sn σ)), .int (nI (sc σ))])), (aO, iA cI 10 (so σ)), (aK, dA cD 10 (sk σ)), (aL, iA cI 10 (sl σ)), (aR, iA cI 10 (sr σ)), (aY, dA cD 3 y), (aB, dA cD 3 (mix (sn σ) k q)), (aS, dA cD 3 (mix (sn σ) (mv y b (mix (sn σ) k q)) z)), (aC, dA cD 3 v)] H := hP
  have hP : va_P D vwCl [(hT, .inr (4, [.ref hE, .ref hX, .ref hY, .ref a2, .ref a3, .ref a4, .ref aS, .ref aY, .ref a1, .ref aZ, .double t, .double r, .double er])), (hE, .inr (0, [.ref aO, .ref aK, .ref aL, .ref aR, .int (nI (sn σ)), .int (nI (sc σ))])), (aO, iA cI 10 (so σ)), (aK, dA cD 10 (sk σ)), (aL, iA cI 10 (sl σ)), (aR, iA cI 10 (sr σ)), (aY, dA cD 3 y), (aB, dA cD 3 (mix (sn σ) k q)), (aS, dA cD 3 (mix (sn σ) (mv y b k) z)), (aC, dA cD 3 v)] H := by rw [← mv_mix (q := q)]; exact hP
  refine lv_aload_n hx hb dX4_slopesAfter_14 rfl (lv_at hl 0 rfl) ?_
  refine gX4 hx hb hg hown hI hP 0 rfl 0 rfl mF_X4_30 rfl dX4_slopesAfter_15 ?_
  refine lv_aload_n hx hb dX4_slopesAfter_18 rfl (lv_at hl 0 rfl) ?_
  refine gX4 hx hb hg hown hI hP 0 rfl 10 rfl mF_X4_53 rfl dX4_slopesAfter_19 ?_
  refine lv_dload_n hx hb dX4_slopesAfter_22 rfl (lv_at hl 1 rfl) ?_
  refine lv_dadd hx hb dX4_slopesAfter_23 h3.nn ?_
  refine lv_aload_n hx hb dX4_slopesAfter_24 rfl (lv_at hl 0 rfl) ?_
  refine xpc (q := 25) rfl ?_
  refine gX4 hx hb hg hown hI hP 0 rfl 6 rfl mF_X4_21 rfl dX4_slopesAfter_25 ?_
  refine lv_aload hx hb dX4_slopesAfter_28 (lv_at hl 3 rfl) ?_
  refine xcv (xV (As := [.double (FP.dadd t b), .ref aS, .ref aC]) (rest := []) hx hb hml hown hg (c_slopes l D cD cI cM cL hE aO aK aL aR σ aS aC (FP.dadd t b) (mix (sn σ) (mv y b k) z) v K hσ h3 (fun i hi => by rw [mix_lt hi]; exact h2 i hi) hK) mM_X4_60 ok_X0_slopes rfl rfl ⟨Nat.le_of_ble_eq_true rfl, Nat.le_of_ble_eq_true rfl⟩ hI hP hd rfl [1, 2, 3, 4, 5, 8, 9] rfl rfl rfl rfl rfl hl.1 rfl (Nat.le_of_ble_eq_true rfl) dX4_slopesAfter_30 ⟨Nat.zero_le _, Nat.zero_le _⟩) hP hd hS (fa1 (pmS pm0) fa0) [9] rfl rfl (fun _ => rfl) (fun _u H locs hu hP hS => ?_)
  have hP : va_P D vwCl [(hT, .inr (4, [.ref hE, .ref hX, .ref hY, .ref a2, .ref a3, .ref a4, .ref aS, .ref aY, .ref a1, .ref aZ, .double t, .double r, .double er])), (hE, .inr (0, [.ref aO, .ref aK, .ref aL, .ref aR, .int (nI (sn σ)), .int (nI (sc σ))])), (aO, iA cI 10 (so σ)), (aK, dA cD 10 (sk σ)), (aL, iA cI 10 (sl σ)), (aR, iA cI 10 (sr σ)), (aY, dA cD 3 y), (aB, dA cD 3 (mix (sn σ) k q)), (aS, dA cD 3 (mix (sn σ) (mv y b k) z)), (aC, dA cD 3 (mix (sn σ) (fs σ (FP.dadd t b) (mix (sn σ) (mv y b k) z)) v))] H := hP
  have hP : va_P D vwCl [(hT, .inr (4, [.ref hE, .ref hX, .ref hY, .ref a2, .ref a3, .ref a4, .ref aS, .ref aY, .ref a1, .ref aZ, .double t, .double r, .double er])), (hE, .inr (0, [.ref aO, .ref aK, .ref aL, .ref aR, .int (nI (sn σ)), .int (nI (sc σ))])), (aO, iA cI 10 (so σ)), (aK, dA cD 10 (sk σ)), (aL, iA cI 10 (sl σ)), (aR, iA cI 10 (sr σ)), (aY, dA cD 3 y), (aB, dA cD 3 (mix (sn σ) k q)), (aS, dA cD 3 (mix (sn σ) (mv y b k) z)), (aC, dA cD 3 (mix (sn σ) (fs σ (FP.dadd t b) (mv y b k)) v))] H := by rw [← fs_mix (f := z) hn]; exact hP
  exact W.vret hx hb hr (fun tS hTS hWS => ⟨(), rfl, trivial, by rw [hTS]; exact hP.sub [8, 9] rfl, hS.F hTS⟩) hS.2.2 dX4_slopesAfter_33

set_option maxHeartbeats 4000000 in
set_option maxRecDepth 100000 in
theorem c_begin (l : Launch) (D : va_G) (cD cI cM cL : ClassId) (hT hE hX hY aO aK aL aR a2 a3 a4 aS aY a1 aZ : Nat) (σ : Sys) (t0 r0 er : UInt64) (t r : UInt64) (y v : Nat → UInt64) (K : Nat) (hσ : oks σ) (ht : bd 1 K t) (hy : ∀ j, j < sn σ → bd 1 K (y j)) (hK : 2 * K + 10 ≤ 1000) : Met l yX4_begin (Cond.code yX4_begin cX4_begin 5 none :: lw_good) { frames := 2, cells := 0, slots := 0, locals := 50 } (xPc D (tyL cD cI cM cL) [.ref hT, .double t, .double r] [(hT, .inr (4, [.ref hE, .ref hX, .ref hY, .ref a2, .ref a3, .ref a4, .ref aS, .ref aY, .ref a1, .ref aZ, .double t0, .double r0, .double er])), (hE, .inr (0, [.ref aO, .ref aK, .ref aL, .ref aR, .int (nI (sn σ)), .int (nI (sc σ))])), (aO, iA cI 10 (so σ)), (aK, dA cD 10 (sk σ)), (aL, iA cI 10 (sl σ)), (aR, iA cI 10 (sr σ)), (aY, dA cD 3 y), (a1, dA cD 3 v)]) (xQ D [hT, a1] (fun (_ : Unit) => none) (fun (_ : Unit) => True) (fun (_ : Unit) => [(hT, .inr (4, [.ref hE, .ref hX, .ref hY, .ref a2, .ref a3, .ref a4, .ref aS, .ref aY, .ref a1, .ref aZ, .double t, .double r, .double er])), (a1, dA cD 3 (mix (sn σ) (fs σ t y) v))])) 0 0 (fun q => q ∈ ([hT, a1] : List Nat)) := by
  refine xofW (adr := [hT, a1]) (by decide) (Nat.le_of_ble_eq_true rfl) ?_
  intro p e s m below meth c ls hx hb hr hml hg hown hlk hI hP hd hS hl
  have hown : s.vm.findClass RX4 = some m.cls := hown
  have hd : dj [hT, hE, aO, aK, aL, aR, aY, a1] := hd
  have hl : lv_has ls 5 [(0, .ref hT), (1, .double t), (3, .double r)] := hl
  refine lv_aload_n hx hb dX4_begin_0 rfl (lv_at hl 0 rfl) ?_
  refine lv_dload_n hx hb dX4_begin_1 rfl (lv_at hl 1 rfl) ?_
  refine pX4 hx hb hg hown hI hP hd rfl hS 0 rfl 10 rfl mF_X4_53 rfl rfl rfl (Nat.le_of_ble_eq_true rfl) pm0 dX4_begin_2 (fun H locs hP hS => ?_)
  have hP : va_P D vwCl [(hT, .inr (4, [.ref hE, .ref hX, .ref hY, .ref a2, .ref a3, .ref a4, .ref aS, .ref aY, .ref a1, .ref aZ, .double t, .double r0, .double er])), (hE, .inr (0, [.ref aO, .ref aK, .ref aL, .ref aR, .int (nI (sn σ)), .int (nI (sc σ))])), (aO, iA cI 10 (so σ)), (aK, dA cD 10 (sk σ)), (aL, iA cI 10 (sl σ)), (aR, iA cI 10 (sr σ)), (aY, dA cD 3 y), (a1, dA cD 3 v)] H := hP
  refine lv_aload_n hx hb dX4_begin_5 rfl (lv_at hl 0 rfl) ?_
  refine lv_dload_n hx hb dX4_begin_6 rfl (lv_at hl 2 rfl) ?_
  refine pX4 hx hb hg hown hI hP hd rfl hS 0 rfl 11 rfl mF_X4_57 rfl rfl rfl (Nat.le_of_ble_eq_true rfl) pm0 dX4_begin_7 (fun H locs hP hS => ?_)
  have hP : va_P D vwCl [(hT, .inr (4, [.ref hE, .ref hX, .ref hY, .ref a2, .ref a3, .ref a4, .ref aS, .ref aY, .ref a1, .ref aZ, .double t, .double r, .double er])), (hE, .inr (0, [.ref aO, .ref aK, .ref aL, .ref aR, .int (nI (sn σ)), .int (nI (sc σ))])), (aO, iA cI 10 (so σ)), (aK, dA cD 10 (sk σ)), (aL, iA cI 10 (sl σ)), (aR, iA cI 10 (sr σ)), (aY, dA cD 3 y), (a1, dA cD 3 v)] H := hP
  refine lv_aload_n hx hb dX4_begin_10 rfl (lv_at hl 0 rfl) ?_
  refine gX4 hx hb hg hown hI hP 0 rfl 0 rfl mF_X4_30 rfl dX4_begin_11 ?_
  refine lv_aload_n hx hb dX4_begin_14 rfl (lv_at hl 0 rfl) ?_
  refine gX4 hx hb hg hown hI hP 0 rfl 10 rfl mF_X4_53 rfl dX4_begin_15 ?_
  refine lv_aload_n hx hb dX4_begin_18 rfl (lv_at hl 0 rfl) ?_
  refine gX4 hx hb hg hown hI hP 0 rfl 7 rfl mF_X4_34 rfl dX4_begin_19 ?_
  refine lv_aload_n hx hb dX4_begin_22 rfl (lv_at hl 0 rfl) ?_
  refine xpc (q := 23) rfl ?_
  refine gX4 hx hb hg hown hI hP 0 rfl 8 rfl mF_X4_24 rfl dX4_begin_23 ?_
  refine xcv (xV (As := [.double t, .ref aY, .ref a1]) (rest := []) hx hb hml hown hg (c_slopes l D cD cI cM cL hE aO aK aL aR σ aY a1 t y v K hσ ht hy hK) mM_X4_60 ok_X0_slopes rfl rfl ⟨Nat.le_of_ble_eq_true rfl, Nat.le_of_ble_eq_true rfl⟩ hI hP hd rfl [1, 2, 3, 4, 5, 6, 7] rfl rfl rfl rfl rfl hl.1 rfl (Nat.le_of_ble_eq_true rfl) dX4_begin_26 ⟨Nat.zero_le _, Nat.zero_le _⟩) hP hd hS (fa1 (pmS pm0) fa0) [7] rfl rfl (fun _ => rfl) (fun _u H locs hu hP hS => ?_)
  have hP : va_P D vwCl [(hT, .inr (4, [.ref hE, .ref hX, .ref hY, .ref a2, .ref a3, .ref a4, .ref aS, .ref aY, .ref a1, .ref aZ, .double t, .double r, .double er])), (hE, .inr (0, [.ref aO, .ref aK, .ref aL, .ref aR, .int (nI (sn σ)), .int (nI (sc σ))])), (aO, iA cI 10 (so σ)), (aK, dA cD 10 (sk σ)), (aL, iA cI 10 (sl σ)), (aR, iA cI 10 (sr σ)), (aY, dA cD 3 y), (a1, dA cD 3 (mix (sn σ) (fs σ t y) v))] H := hP
  exact W.vret hx hb hr (fun tS hTS hWS => ⟨(), rfl, trivial, by rw [hTS]; exact hP.sub [0, 7] rfl, hS.F hTS⟩) hS.2.2 dX4_begin_29

set_option maxHeartbeats 4000000 in
set_option maxRecDepth 100000 in
theorem c_runge (l : Launch) (D : va_G) (cD cI cM cL : ClassId) (hT hE hX hY aO aK aL aR a2 a3 a4 aS aY a1 aZ : Nat) (σ : Sys) (t r er : UInt64) (y v1 v2 v3 v4 vS vZ : Nat → UInt64) (hk : okst σ t y r) : Met l yX4_runge (Cond.code yX4_runge cX4_runge 2 none :: lw_good) { frames := 3, cells := 0, slots := 0, locals := 74 } (xPc D (tyL cD cI cM cL) [.ref hT] [(hT, .inr (4, [.ref hE, .ref hX, .ref hY, .ref a2, .ref a3, .ref a4, .ref aS, .ref aY, .ref a1, .ref aZ, .double t, .double r, .double er])), (hE, .inr (0, [.ref aO, .ref aK, .ref aL, .ref aR, .int (nI (sn σ)), .int (nI (sc σ))])), (aO, iA cI 10 (so σ)), (aK, dA cD 10 (sk σ)), (aL, iA cI 10 (sl σ)), (aR, iA cI 10 (sr σ)), (aY, dA cD 3 y), (a1, dA cD 3 (mix (sn σ) (fs σ t y) v1)), (a2, dA cD 3 v2), (a3, dA cD 3 v3), (a4, dA cD 3 v4), (aS, dA cD 3 vS), (aZ, dA cD 3 vZ)]) (xQ D [a2, a3, a4, aS, aZ] (fun (u : (Nat → UInt64) × (Nat → UInt64) × (Nat → UInt64) × (Nat → UInt64)) => none) (fun (u : (Nat → UInt64) × (Nat → UInt64) × (Nat → UInt64) × (Nat → UInt64)) => True) (fun (u : (Nat → UInt64) × (Nat → UInt64) × (Nat → UInt64) × (Nat → UInt64)) => [(a2, dA cD 3 u.1), (a3, dA cD 3 u.2.1), (a4, dA cD 3 u.2.2.1), (aS, dA cD 3 u.2.2.2), (aZ, dA cD 3 (mix (sn σ) (rgz σ t y r) vZ))])) 0 0 (fun q => q ∈ ([a2, a3, a4, aS, aZ] : List Nat)) := by
  refine xofW (adr := [a2, a3, a4, aS, aZ]) (by decide) (Nat.le_of_ble_eq_true rfl) ?_
  intro p e s m below meth c ls hx hb hr hml hg hown hlk hI hP hd hS hl
  have hown : s.vm.findClass RX4 = some m.cls := hown
  have hd : dj [hT, hE, aO, aK, aL, aR, aY, a1, a2, a3, a4, aS, aZ] := hd
  have hl : lv_has ls 2 [(0, .ref hT)] := hl
  have hn : sn σ ≤ 3 := hk.1.2.1
  refine lv_aload_n hx hb dX4_runge_0 rfl (lv_at hl 0 rfl) ?_
  refine lv_ldc2d (v := k0_5) hx hb hown (hg _ mD_X4_98) dX4_runge_1 ?_
  refine lv_aload_n hx hb dX4_runge_4 rfl (lv_at hl 0 rfl) ?_
  refine gX4 hx hb hg hown hI hP 0 rfl 11 rfl mF_X4_57 rfl dX4_runge_5 ?_
  have b1 : bd 1 2 (FP.dmul k0_5 r) := bd_mul b_k0_5 hk.2.2.1 (by decide) (by decide)
  refine lv_dmul hx hb dX4_runge_8 b1.nn ?_
  refine lv_aload_n hx hb dX4_runge_9 rfl (lv_at hl 0 rfl) ?_
  refine gX4 hx hb hg hown hI hP 0 rfl 8 rfl mF_X4_24 rfl dX4_runge_10 ?_
  refine lv_aload_n hx hb dX4_runge_13 rfl (lv_at hl 0 rfl) ?_
  refine gX4 hx hb hg hown hI hP 0 rfl 3 rfl mF_X4_9 rfl dX4_runge_14 ?_
  refine xcv (xV (As := [.double (FP.dmul k0_5 r), .ref a1, .ref a2]) (rest := []) hx hb hml hown hg (c_slopesAfter l D cD cI cM cL hT hE hX hY aO aK aL aR a2 a3 a4 aS aY a1 aZ σ t r er a1 a2 y (fs σ t y) (v1) (vS) (v2) (FP.dmul k0_5 r) 53 hk.1 (fun i hi => (bd_mul (k := 100) (hr_bd hk) (f0_bd (i := i) hk) (by decide) (by decide)).1) (fun i hi => mv1_bd hk (hr_bd hk) hi) ((t2_bd hk (hr_bd hk)).up (by decide)) (by decide)) mM_X4_100 ok_X4_slopesAfter rfl rfl ⟨Nat.le_of_ble_eq_true rfl, Nat.le_of_ble_eq_true rfl⟩ hI hP hd rfl [0, 1, 2, 3, 4, 5, 6, 7, 11, 8] rfl rfl rfl rfl rfl hl.1 rfl (Nat.le_of_ble_eq_true rfl) dX4_runge_17 ⟨Nat.zero_le _, Nat.zero_le _⟩) hP hd hS (fa1 (pmS (pmS (pmS pm0))) (fa1 pm0 fa0)) [11, 8] rfl rfl (fun _ => rfl) (fun _u H locs hu hP hS => ?_)
  have hP : va_P D vwCl [(hT, .inr (4, [.ref hE, .ref hX, .ref hY, .ref a2, .ref a3, .ref a4, .ref aS, .ref aY, .ref a1, .ref aZ, .double t, .double r, .double er])), (hE, .inr (0, [.ref aO, .ref aK, .ref aL, .ref aR, .int (nI (sn σ)), .int (nI (sc σ))])), (aO, iA cI 10 (so σ)), (aK, dA cD 10 (sk σ)), (aL, iA cI 10 (sl σ)), (aR, iA cI 10 (sr σ)), (aY, dA cD 3 y), (a1, dA cD 3 (mix (sn σ) (fs σ t y) v1)), (a2, dA cD 3 (mix (sn σ) (fs σ (FP.dadd t (FP.dmul k0_5 r)) (mv y (FP.dmul k0_5 r) (fs σ t y))) (v2))), (a3, dA cD 3 v3), (a4, dA cD 3 v4), (aS, dA cD 3 (mix (sn σ) (mv y (FP.dmul k0_5 r) (fs σ t y)) (vS))), (aZ, dA cD 3 vZ)] H := hP
  have hP : va_P D vwCl [(hT, .inr (4, [.ref hE, .ref hX, .ref hY, .ref a2, .ref a3, .ref a4, .ref aS, .ref aY, .ref a1, .ref aZ, .double t, .double r, .double er])), (hE, .inr (0, [.ref aO, .ref aK, .ref aL, .ref aR, .int (nI (sn σ)), .int (nI (sc σ))])), (aO, iA cI 10 (so σ)), (aK, dA cD 10 (sk σ)), (aL, iA cI 10 (sl σ)), (aR, iA cI 10 (sr σ)), (aY, dA cD 3 y), (a1, dA cD 3 (mix (sn σ) (fs σ t y) v1)), (a2, dA cD 3 (mix (sn σ) (rk2 σ t y r) (v2))), (a3, dA cD 3 v3), (a4, dA cD 3 v4), (aS, dA cD 3 (mix (sn σ) (mv y (FP.dmul k0_5 r) (fs σ t y)) (vS))), (aZ, dA cD 3 vZ)] H := hP
  refine lv_aload_n hx hb dX4_runge_20 rfl (lv_at hl 0 rfl) ?_
  refine lv_ldc2d (v := k0_5) hx hb hown (hg _ mD_X4_98) dX4_runge_21 ?_
  refine lv_aload_n hx hb dX4_runge_24 rfl (lv_at hl 0 rfl) ?_
  refine gX4 hx hb hg hown hI hP 0 rfl 11 rfl mF_X4_57 rfl dX4_runge_25 ?_
  refine xpc (q := 28) rfl ?_
  have b2 : bd 1 2 (FP.dmul k0_5 r) := bd_mul b_k0_5 hk.2.2.1 (by decide) (by decide)
  refine lv_dmul hx hb dX4_runge_28 b2.nn ?_
  refine lv_aload_n hx hb dX4_runge_29 rfl (lv_at hl 0 rfl) ?_
  refine gX4 hx hb hg hown hI hP 0 rfl 3 rfl mF_X4_9 rfl dX4_runge_30 ?_
  refine lv_aload_n hx hb dX4_runge_33 rfl (lv_at hl 0 rfl) ?_
  refine gX4 hx hb hg hown hI hP 0 rfl 4 rfl mF_X4_15 rfl dX4_runge_34 ?_
  refine xcv (xV (As := [.double (FP.dmul k0_5 r), .ref a2, .ref a3]) (rest := []) hx hb hml hown hg (c_slopesAfter l D cD cI cM cL hT hE hX hY aO aK aL aR a2 a3 a4 aS aY a1 aZ σ t r er a2 a3 y (rk2 σ t y r) (v2) (mix (sn σ) (mv y (FP.dmul k0_5 r) (fs σ t y)) (vS)) (v3) (FP.dmul k0_5 r) 119 hk.1 (fun i hi => (bd_mul (k := 200) (hr_bd hk) (rk2_bd (i := i) hk) (by decide) (by decide)).1) (fun i hi => mv2_bd hk (hr_bd hk) hi) ((t2_bd hk (hr_bd hk)).up (by decide)) (by decide)) mM_X4_100 ok_X4_slopesAfter rfl rfl ⟨Nat.le_of_ble_eq_true rfl, Nat.le_of_ble_eq_true rfl⟩ hI hP hd rfl [0, 1, 2, 3, 4, 5, 6, 8, 11, 9] rfl rfl rfl rfl rfl hl.1 rfl (Nat.le_of_ble_eq_true rfl) dX4_runge_37 ⟨Nat.zero_le _, Nat.zero_le _⟩) hP hd hS (fa1 (pmS (pmS (pmS pm0))) (fa1 (pmS pm0) fa0)) [11, 9] rfl rfl (fun _ => rfl) (fun _u H locs hu hP hS => ?_)
  have hP : va_P D vwCl [(hT, .inr (4, [.ref hE, .ref hX, .ref hY, .ref a2, .ref a3, .ref a4, .ref aS, .ref aY, .ref a1, .ref aZ, .double t, .double r, .double er])), (hE, .inr (0, [.ref aO, .ref aK, .ref aL, .ref aR, .int (nI (sn σ)), .int (nI (sc σ))])), (aO, iA cI 10 (so σ)), (aK, dA cD 10 (sk σ)), (aL, iA cI 10 (sl σ)), (aR, iA cI 10 (sr σ)), (aY, dA cD 3 y), (a1, dA cD 3 (mix (sn σ) (fs σ t y) v1)), (a2, dA cD 3 (mix (sn σ) (rk2 σ t y r) (v2))), (a3, dA cD 3 (mix (sn σ) (fs σ (FP.dadd t (FP.dmul k0_5 r)) (mv y (FP.dmul k0_5 r) (rk2 σ t y r))) (v3))), (a4, dA cD 3 v4), (aS, dA cD 3 (mix (sn σ) (mv y (FP.dmul k0_5 r) (rk2 σ t y r)) (mix (sn σ) (mv y (FP.dmul k0_5 r) (fs σ t y)) (vS)))), (aZ, dA cD 3 vZ)] H := hP
  have hP : va_P D vwCl [(hT, .inr (4, [.ref hE, .ref hX, .ref hY, .ref a2, .ref a3, .ref a4, .ref aS, .ref aY, .ref a1, .ref aZ, .double t, .double r, .double er])), (hE, .inr (0, [.ref aO, .ref aK, .ref aL, .ref aR, .int (nI (sn σ)), .int (nI (sc σ))])), (aO, iA cI 10 (so σ)), (aK, dA cD 10 (sk σ)), (aL, iA cI 10 (sl σ)), (aR, iA cI 10 (sr σ)), (aY, dA cD 3 y), (a1, dA cD 3 (mix (sn σ) (fs σ t y) v1)), (a2, dA cD 3 (mix (sn σ) (rk2 σ t y r) (v2))), (a3, dA cD 3 (mix (sn σ) (rk3 σ t y r) (v3))), (a4, dA cD 3 v4), (aS, dA cD 3 (mix (sn σ) (mv y (FP.dmul k0_5 r) (rk2 σ t y r)) (mix (sn σ) (mv y (FP.dmul k0_5 r) (fs σ t y)) (vS)))), (aZ, dA cD 3 vZ)] H := hP
  refine lv_aload_n hx hb dX4_runge_40 rfl (lv_at hl 0 rfl) ?_
  refine lv_aload_n hx hb dX4_runge_41 rfl (lv_at hl 0 rfl) ?_
  refine gX4 hx hb hg hown hI hP 0 rfl 11 rfl mF_X4_57 rfl dX4_runge_42 ?_
  refine lv_aload_n hx hb dX4_runge_45 rfl (lv_at hl 0 rfl) ?_
  refine gX4 hx hb hg hown hI hP 0 rfl 4 rfl mF_X4_15 rfl dX4_runge_46 ?_
  refine lv_aload_n hx hb dX4_runge_49 rfl (lv_at hl 0 rfl) ?_
  refine gX4 hx hb hg hown hI hP 0 rfl 5 rfl mF_X4_18 rfl dX4_runge_50 ?_
  refine xcv (xV (As := [.double r, .ref a3, .ref a4]) (rest := []) hx hb hml hown hg (c_slopesAfter l D cD cI cM cL hT hE hX hY aO aK aL aR a2 a3 a4 aS aY a1 aZ σ t r er a3 a4 y (rk3 σ t y r) (v3) (mix (sn σ) (mv y (FP.dmul k0_5 r) (rk2 σ t y r)) (mix (sn σ) (mv y (FP.dmul k0_5 r) (fs σ t y)) (vS))) (v4) (r) 251 hk.1 (fun i hi => (bd_mul (k := 300) hk.2.2.1 (rk3_bd (i := i) hk) (by decide) (by decide)).1) (fun i hi => mv3_bd hk hk.2.2.1 hi) ((t2_bd hk hk.2.2.1).up (by decide)) (by decide)) mM_X4_100 ok_X4_slopesAfter rfl rfl ⟨Nat.le_of_ble_eq_true rfl, Nat.le_of_ble_eq_true rfl⟩ hI hP hd rfl [0, 1, 2, 3, 4, 5, 6, 9, 11, 10] rfl rfl rfl rfl rfl hl.1 rfl (Nat.le_of_ble_eq_true rfl) dX4_runge_53 ⟨Nat.zero_le _, Nat.zero_le _⟩) hP hd hS (fa1 (pmS (pmS (pmS pm0))) (fa1 (pmS (pmS pm0)) fa0)) [11, 10] rfl rfl (fun _ => rfl) (fun _u H locs hu hP hS => ?_)
  have hP : va_P D vwCl [(hT, .inr (4, [.ref hE, .ref hX, .ref hY, .ref a2, .ref a3, .ref a4, .ref aS, .ref aY, .ref a1, .ref aZ, .double t, .double r, .double er])), (hE, .inr (0, [.ref aO, .ref aK, .ref aL, .ref aR, .int (nI (sn σ)), .int (nI (sc σ))])), (aO, iA cI 10 (so σ)), (aK, dA cD 10 (sk σ)), (aL, iA cI 10 (sl σ)), (aR, iA cI 10 (sr σ)), (aY, dA cD 3 y), (a1, dA cD 3 (mix (sn σ) (fs σ t y) v1)), (a2, dA cD 3 (mix (sn σ) (rk2 σ t y r) (v2))), (a3, dA cD 3 (mix (sn σ) (rk3 σ t y r) (v3))), (a4, dA cD 3 (mix (sn σ) (fs σ (FP.dadd t (r)) (mv y (r) (rk3 σ t y r))) (v4))), (aS, dA cD 3 (mix (sn σ) (mv y (r) (rk3 σ t y r)) (mix (sn σ) (mv y (FP.dmul k0_5 r) (rk2 σ t y r)) (mix (sn σ) (mv y (FP.dmul k0_5 r) (fs σ t y)) (vS))))), (aZ, dA cD 3 vZ)] H := hP
  have hP : va_P D vwCl [(hT, .inr (4, [.ref hE, .ref hX, .ref hY, .ref a2, .ref a3, .ref a4, .ref aS, .ref aY, .ref a1, .ref aZ, .double t, .double r, .double er])), (hE, .inr (0, [.ref aO, .ref aK, .ref aL, .ref aR, .int (nI (sn σ)), .int (nI (sc σ))])), (aO, iA cI 10 (so σ)), (aK, dA cD 10 (sk σ)), (aL, iA cI 10 (sl σ)), (aR, iA cI 10 (sr σ)), (aY, dA cD 3 y), (a1, dA cD 3 (mix (sn σ) (fs σ t y) v1)), (a2, dA cD 3 (mix (sn σ) (rk2 σ t y r) (v2))), (a3, dA cD 3 (mix (sn σ) (rk3 σ t y r) (v3))), (a4, dA cD 3 (mix (sn σ) (rk4 σ t y r) (v4))), (aS, dA cD 3 (mix (sn σ) (mv y (r) (rk3 σ t y r)) (mix (sn σ) (mv y (FP.dmul k0_5 r) (rk2 σ t y r)) (mix (sn σ) (mv y (FP.dmul k0_5 r) (fs σ t y)) (vS))))), (aZ, dA cD 3 vZ)] H := hP
  refine lv_iconst (v := nI 0) hx hb dX4_runge_56 (by decide) ?_
  refine lv_istore_n (lv' := [(1, .int (nI 0)), (0, .ref hT)]) hx hb dX4_runge_57 rfl hl (by decide) rfl (fun ls hl => ?_)
  refine xfor (I := fun i H locs ls => ∃ (f' : Nat → UInt64), (f' = mix i (rgz σ t y r) vZ) ∧ va_P D vwCl [(hT, .inr (4, [.ref hE, .ref hX, .ref hY, .ref a2, .ref a3, .ref a4, .ref aS, .ref aY, .ref a1, .ref aZ, .double t, .double r, .double er])), (hE, .inr (0, [.ref aO, .ref aK, .ref aL, .ref aR, .int (nI (sn σ)), .int (nI (sc σ))])), (aO, iA cI 10 (so σ)), (aK, dA cD 10 (sk σ)), (aL, iA cI 10 (sl σ)), (aR, iA cI 10 (sr σ)), (aY, dA cD 3 y), (a1, dA cD 3 (mix (sn σ) (fs σ t y) v1)), (a2, dA cD 3 (mix (sn σ) (rk2 σ t y r) (v2))), (a3, dA cD 3 (mix (sn σ) (rk3 σ t y r) (v3))), (a4, dA cD 3 (mix (sn σ) (rk4 σ t y r) (v4))), (aS, dA cD 3 (mix (sn σ) (mv y (r) (rk3 σ t y r)) (mix (sn σ) (mv y (FP.dmul k0_5 r) (rk2 σ t y r)) (mix (sn σ) (mv y (FP.dmul k0_5 r) (fs σ t y)) (vS))))), (aZ, dA cD 3 f')] H ∧ va_S (fun q => q ∈ ([a2, a3, a4, aS, aZ] : List Nat)) s.heap H locs ∧ lv_has ls 2 [(1, .int (nI i)), (0, .ref hT)]) (sn σ) 0 ⟨_, (mix_0 _ _).symm, hP, hS, lv_sub hl [0, 1] rfl⟩ (Nat.zero_le _) ?_ ?_
  ·
    intro i h_i ih H locs ls ⟨f', hf, hP, hS, hl⟩
    refine xpc (q := 58) rfl ?_
    refine lv_iload_n hx hb dX4_runge_58 rfl (lv_at hl 0 rfl) ?_
    refine lv_aload_n hx hb dX4_runge_59 rfl (lv_at hl 1 rfl) ?_
    refine gX4 hx hb hg hown hI hP 0 rfl 0 rfl mF_X4_30 rfl dX4_runge_60 ?_
    refine gX0 hx hb hg hown hI hP 1 rfl 4 rfl mF_X4_88 rfl dX4_runge_63 ?_
    refine lv_icmp_ge (tgt := 132) hx hb dX4_runge_66 (by decide) (fun c_66 => absurd c_66 (nI_ge h_i (by omega))) (fun c_66 => ?_)
    refine lv_aload_n hx hb dX4_runge_69 rfl (lv_at hl 1 rfl) ?_
    refine gX4 hx hb hg hown hI hP 0 rfl 9 rfl mF_X4_27 rfl dX4_runge_70 ?_
    refine lv_iload_n hx hb dX4_runge_73 rfl (lv_at hl 0 rfl) ?_
    refine lv_aload_n hx hb dX4_runge_74 rfl (lv_at hl 1 rfl) ?_
    refine gX4 hx hb hg hown hI hP 0 rfl 7 rfl mF_X4_34 rfl dX4_runge_75 ?_
    refine lv_iload_n hx hb dX4_runge_78 rfl (lv_at hl 0 rfl) ?_
    refine xdald hx hb hI hP 6 0 rfl rfl (Nat.lt_of_lt_of_le h_i hn) (by decide) dX4_runge_79 ?_
    refine lv_aload_n hx hb dX4_runge_80 rfl (lv_at hl 1 rfl) ?_
    refine gX4 hx hb hg hown hI hP 0 rfl 11 rfl mF_X4_57 rfl dX4_runge_81 ?_
    refine lv_ldc2d (v := k6) hx hb hown (hg _ mD_X4_103) dX4_runge_84 ?_
    refine xpc (q := 87) rfl ?_
    have b3 : bd 1 0 (FP.ddiv r k6) := bd_div hk.2.2.1 lb_k6 (by decide) (by decide)
    refine lv_ddiv hx hb dX4_runge_87 b3.nn ?_
    refine lv_aload_n hx hb dX4_runge_88 rfl (lv_at hl 1 rfl) ?_
    refine gX4 hx hb hg hown hI hP 0 rfl 8 rfl mF_X4_24 rfl dX4_runge_89 ?_
    refine lv_iload_n hx hb dX4_runge_92 rfl (lv_at hl 0 rfl) ?_
    refine xdald hx hb hI hP 7 0 rfl rfl (Nat.lt_of_lt_of_le h_i hn) (by decide) dX4_runge_93 ?_
    refine xeqd (y := (fs σ t y) i) (mix_lt h_i) ?_
    refine lv_ldc2d (v := k2) hx hb hown (hg _ mD_X4_105) dX4_runge_94 ?_
    refine lv_aload_n hx hb dX4_runge_97 rfl (lv_at hl 1 rfl) ?_
    refine gX4 hx hb hg hown hI hP 0 rfl 3 rfl mF_X4_9 rfl dX4_runge_98 ?_
    refine lv_iload_n hx hb dX4_runge_101 rfl (lv_at hl 0 rfl) ?_
    refine xdald hx hb hI hP 8 0 rfl rfl (Nat.lt_of_lt_of_le h_i hn) (by decide) dX4_runge_102 ?_
    refine xeqd (y := (rk2 σ t y r) i) (mix_lt h_i) ?_
    have b4 : bd 1 117 (FP.dmul k2 ((rk2 σ t y r) i)) := bd_mul b_k2 (rk2_bd (i := i) hk) (by decide) (by decide)
    refine lv_dmul hx hb dX4_runge_103 b4.nn ?_
    have b5 : bd 1 118 (FP.dadd ((fs σ t y) i) (FP.dmul k2 ((rk2 σ t y r) i))) := bd_add (f0_bd (i := i) hk) b4 (by decide) (by decide) (by decide)
    refine lv_dadd hx hb dX4_runge_104 b5.nn ?_
    refine lv_ldc2d (v := k2) hx hb hown (hg _ mD_X4_105) dX4_runge_105 ?_
    refine lv_aload_n hx hb dX4_runge_108 rfl (lv_at hl 1 rfl) ?_
    refine xpc (q := 109) rfl ?_
    refine gX4 hx hb hg hown hI hP 0 rfl 4 rfl mF_X4_15 rfl dX4_runge_109 ?_
    refine lv_iload_n hx hb dX4_runge_112 rfl (lv_at hl 0 rfl) ?_
    refine xdald hx hb hI hP 9 0 rfl rfl (Nat.lt_of_lt_of_le h_i hn) (by decide) dX4_runge_113 ?_
    refine xeqd (y := (rk3 σ t y r) i) (mix_lt h_i) ?_
    have b6 : bd 1 249 (FP.dmul k2 ((rk3 σ t y r) i)) := bd_mul b_k2 (rk3_bd (i := i) hk) (by decide) (by decide)
    refine lv_dmul hx hb dX4_runge_114 b6.nn ?_
    have b7 : bd 1 250 (FP.dadd (FP.dadd ((fs σ t y) i) (FP.dmul k2 ((rk2 σ t y r) i))) (FP.dmul k2 ((rk3 σ t y r) i))) := bd_add b5 b6 (by decide) (by decide) (by decide)
    refine lv_dadd hx hb dX4_runge_115 b7.nn ?_
    refine lv_aload_n hx hb dX4_runge_116 rfl (lv_at hl 1 rfl) ?_
    refine gX4 hx hb hg hown hI hP 0 rfl 5 rfl mF_X4_18 rfl dX4_runge_117 ?_
    refine lv_iload_n hx hb dX4_runge_120 rfl (lv_at hl 0 rfl) ?_
    refine xdald hx hb hI hP 10 0 rfl rfl (Nat.lt_of_lt_of_le h_i hn) (by decide) dX4_runge_121 ?_
    refine xeqd (y := (rk4 σ t y r) i) (mix_lt h_i) ?_
    have b8 : bd 1 513 (FP.dadd (FP.dadd (FP.dadd ((fs σ t y) i) (FP.dmul k2 ((rk2 σ t y r) i))) (FP.dmul k2 ((rk3 σ t y r) i))) ((rk4 σ t y r) i)) := bd_add b7 (rk4_bd (i := i) hk) (by decide) (by decide) (by decide)
    refine lv_dadd hx hb dX4_runge_122 b8.nn ?_
    have b9 : bd 1 513 (FP.dmul (FP.ddiv r k6) (FP.dadd (FP.dadd (FP.dadd ((fs σ t y) i) (FP.dmul k2 ((rk2 σ t y r) i))) (FP.dmul k2 ((rk3 σ t y r) i))) ((rk4 σ t y r) i))) := bd_mul b3 b8 (by decide) (by decide)
    refine lv_dmul hx hb dX4_runge_123 b9.nn ?_
    have b10 : bd 1 514 (FP.dadd (y i) (FP.dmul (FP.ddiv r k6) (FP.dadd (FP.dadd (FP.dadd ((fs σ t y) i) (FP.dmul k2 ((rk2 σ t y r) i))) (FP.dmul k2 ((rk3 σ t y r) i))) ((rk4 σ t y r) i)))) := bd_add (hk.2.2.2 i h_i) b9 (by decide) (by decide) (by decide)
    refine lv_dadd hx hb dX4_runge_124 b10.nn ?_
    refine xdast hx hb hI hP hd rfl hS 12 0 rfl rfl (Nat.lt_of_lt_of_le h_i hn) (by decide) (pmS (pmS (pmS (pmS pm0)))) dX4_runge_125 (fun H locs hP hS => ?_)
    have hP : va_P D vwCl [(hT, .inr (4, [.ref hE, .ref hX, .ref hY, .ref a2, .ref a3, .ref a4, .ref aS, .ref aY, .ref a1, .ref aZ, .double t, .double r, .double er])), (hE, .inr (0, [.ref aO, .ref aK, .ref aL, .ref aR, .int (nI (sn σ)), .int (nI (sc σ))])), (aO, iA cI 10 (so σ)), (aK, dA cD 10 (sk σ)), (aL, iA cI 10 (sl σ)), (aR, iA cI 10 (sr σ)), (aY, dA cD 3 y), (a1, dA cD 3 (mix (sn σ) (fs σ t y) v1)), (a2, dA cD 3 (mix (sn σ) (rk2 σ t y r) (v2))), (a3, dA cD 3 (mix (sn σ) (rk3 σ t y r) (v3))), (a4, dA cD 3 (mix (sn σ) (rk4 σ t y r) (v4))), (aS, dA cD 3 (mix (sn σ) (mv y (r) (rk3 σ t y r)) (mix (sn σ) (mv y (FP.dmul k0_5 r) (rk2 σ t y r)) (mix (sn σ) (mv y (FP.dmul k0_5 r) (fs σ t y)) (vS))))), (aZ, dA cD 3 (vf_upd f' i (FP.dadd (y i) (FP.dmul (FP.ddiv r k6) (FP.dadd (FP.dadd (FP.dadd ((fs σ t y) i) (FP.dmul k2 ((rk2 σ t y r) i))) (FP.dmul k2 ((rk3 σ t y r) i))) ((rk4 σ t y r) i))))))] H := hP
    refine lv_iinc (v := nI (i + 1)) (lv' := [(1, .int (nI (i + 1))), (0, .ref hT)]) hx hb dX4_runge_126 hl (k := 0) rfl (nI_1 i) (by decide) rfl (fun ls hl => ?_)
    refine xpc (q := 129) rfl ?_
    refine lv_goto (tgt := 58) hx hb dX4_runge_129 (by decide) ?_
    exact ih _ _ _ ⟨_, mix_s hf rfl, hP, hS, lv_sub hl [0, 1] rfl⟩
  ·
    intro H locs ls ⟨f', hf, hP, hS, hl⟩
    refine xpc (q := 58) rfl ?_
    refine lv_iload_n hx hb dX4_runge_58 rfl (lv_at hl 0 rfl) ?_
    refine lv_aload_n hx hb dX4_runge_59 rfl (lv_at hl 1 rfl) ?_
    refine gX4 hx hb hg hown hI hP 0 rfl 0 rfl mF_X4_30 rfl dX4_runge_60 ?_
    refine gX0 hx hb hg hown hI hP 1 rfl 4 rfl mF_X4_88 rfl dX4_runge_63 ?_
    refine lv_icmp_ge (tgt := 132) hx hb dX4_runge_66 (by decide) (fun c_66 => ?_) (fun c_66 => absurd (Int32.le_refl _) c_66)
    subst hf
    exact W.vret hx hb hr (fun tS hTS hWS => ⟨(mix (sn σ) (rk2 σ t y r) (v2), mix (sn σ) (rk3 σ t y r) (v3), mix (sn σ) (rk4 σ t y r) (v4), mix (sn σ) (mv y (r) (rk3 σ t y r)) (mix (sn σ) (mv y (FP.dmul k0_5 r) (rk2 σ t y r)) (mix (sn σ) (mv y (FP.dmul k0_5 r) (fs σ t y)) (vS)))), rfl, trivial, by rw [hTS]; exact hP.sub [8, 9, 10, 11, 12] rfl, hS.F hTS⟩) hS.2.2 dX4_runge_132

set_option maxHeartbeats 4000000 in
set_option maxRecDepth 100000 in
theorem c_pair (l : Launch) (D : va_G) (cD cI cM cL : ClassId) (hT hE hX hY aO aK aL aR a2 a3 a4 aS aY a1 aZ : Nat) (σ : Sys) (t r er : UInt64) (y v1 v2 v3 v4 vS vZ : Nat → UInt64) (hk : okst σ t y r) : Met l yX4_pair (Cond.code yX4_pair cX4_pair 2 none :: lw_good) { frames := 3, cells := 0, slots := 0, locals := 74 } (xPc D (tyL cD cI cM cL) [.ref hT] [(hT, .inr (4, [.ref hE, .ref hX, .ref hY, .ref a2, .ref a3, .ref a4, .ref aS, .ref aY, .ref a1, .ref aZ, .double t, .double r, .double er])), (hE, .inr (0, [.ref aO, .ref aK, .ref aL, .ref aR, .int (nI (sn σ)), .int (nI (sc σ))])), (aO, iA cI 10 (so σ)), (aK, dA cD 10 (sk σ)), (aL, iA cI 10 (sl σ)), (aR, iA cI 10 (sr σ)), (aY, dA cD 3 y), (a1, dA cD 3 (mix (sn σ) (fs σ t y) v1)), (a2, dA cD 3 v2), (a3, dA cD 3 v3), (a4, dA cD 3 v4), (aS, dA cD 3 vS), (aZ, dA cD 3 vZ)]) (xQ D [hT, a2, a3, a4, aS, aZ] (fun (u : (Nat → UInt64) × (Nat → UInt64) × (Nat → UInt64) × (Nat → UInt64)) => none) (fun (u : (Nat → UInt64) × (Nat → UInt64) × (Nat → UInt64) × (Nat → UInt64)) => True) (fun (u : (Nat → UInt64) × (Nat → UInt64) × (Nat → UInt64) × (Nat → UInt64)) => (hT, .inr (4, [.ref hE, .ref hX, .ref hY, .ref a2, .ref a3, .ref a4, .ref aS, .ref aY, .ref a1, .ref aZ, .double t, .double r, .double (mxv (pae σ t y r) (sn σ))])) :: [(a2, dA cD 3 u.1), (a3, dA cD 3 u.2.1), (a4, dA cD 3 u.2.2.1), (aS, dA cD 3 u.2.2.2), (aZ, dA cD 3 (mix (sn σ) (paz σ t y r) vZ))])) 0 0 (fun q => q ∈ ([hT, a2, a3, a4, aS, aZ] : List Nat)) := by
  refine xofW (adr := [hT, a2, a3, a4, aS, aZ]) (by decide) (Nat.le_of_ble_eq_true rfl) ?_
  intro p e s m below meth c ls hx hb hr hml hg hown hlk hI hP hd hS hl
  have hown : s.vm.findClass RX4 = some m.cls := hown
  have hd : dj [hT, hE, aO, aK, aL, aR, aY, a1, a2, a3, a4, aS, aZ] := hd
  have hl : lv_has ls 2 [(0, .ref hT)] := hl
  have hn : sn σ ≤ 3 := hk.1.2.1
  refine lv_aload_n hx hb dX4_pair_0 rfl (lv_at hl 0 rfl) ?_
  refine lv_ldc2d (v := k0_5) hx hb hown (hg _ mD_X4_98) dX4_pair_1 ?_
  refine lv_aload_n hx hb dX4_pair_4 rfl (lv_at hl 0 rfl) ?_
  refine gX4 hx hb hg hown hI hP 0 rfl 11 rfl mF_X4_57 rfl dX4_pair_5 ?_
  have b1 : bd 1 2 (FP.dmul k0_5 r) := bd_mul b_k0_5 hk.2.2.1 (by decide) (by decide)
  refine lv_dmul hx hb dX4_pair_8 b1.nn ?_
  refine lv_aload_n hx hb dX4_pair_9 rfl (lv_at hl 0 rfl) ?_
  refine gX4 hx hb hg hown hI hP 0 rfl 8 rfl mF_X4_24 rfl dX4_pair_10 ?_
  refine lv_aload_n hx hb dX4_pair_13 rfl (lv_at hl 0 rfl) ?_
  refine gX4 hx hb hg hown hI hP 0 rfl 3 rfl mF_X4_9 rfl dX4_pair_14 ?_
  refine xcv (xV (As := [.double (FP.dmul k0_5 r), .ref a1, .ref a2]) (rest := []) hx hb hml hown hg (c_slopesAfter l D cD cI cM cL hT hE hX hY aO aK aL aR a2 a3 a4 aS aY a1 aZ σ t r er a1 a2 y (fs σ t y) (v1) (vS) (v2) (FP.dmul k0_5 r) 53 hk.1 (fun i hi => (bd_mul (k := 100) (hr_bd hk) (f0_bd (i := i) hk) (by decide) (by decide)).1) (fun i hi => mv1_bd hk (hr_bd hk) hi) ((t2_bd hk (hr_bd hk)).up (by decide)) (by decide)) mM_X4_100 ok_X4_slopesAfter rfl rfl ⟨Nat.le_of_ble_eq_true rfl, Nat.le_of_ble_eq_true rfl⟩ hI hP hd rfl [0, 1, 2, 3, 4, 5, 6, 7, 11, 8] rfl rfl rfl rfl rfl hl.1 rfl (Nat.le_of_ble_eq_true rfl) dX4_pair_17 ⟨Nat.zero_le _, Nat.zero_le _⟩) hP hd hS (fa1 (pmS (pmS (pmS (pmS pm0)))) (fa1 (pmS pm0) fa0)) [11, 8] rfl rfl (fun _ => rfl) (fun _u H locs hu hP hS => ?_)
  have hP : va_P D vwCl [(hT, .inr (4, [.ref hE, .ref hX, .ref hY, .ref a2, .ref a3, .ref a4, .ref aS, .ref aY, .ref a1, .ref aZ, .double t, .double r, .double er])), (hE, .inr (0, [.ref aO, .ref aK, .ref aL, .ref aR, .int (nI (sn σ)), .int (nI (sc σ))])), (aO, iA cI 10 (so σ)), (aK, dA cD 10 (sk σ)), (aL, iA cI 10 (sl σ)), (aR, iA cI 10 (sr σ)), (aY, dA cD 3 y), (a1, dA cD 3 (mix (sn σ) (fs σ t y) v1)), (a2, dA cD 3 (mix (sn σ) (fs σ (FP.dadd t (FP.dmul k0_5 r)) (mv y (FP.dmul k0_5 r) (fs σ t y))) (v2))), (a3, dA cD 3 v3), (a4, dA cD 3 v4), (aS, dA cD 3 (mix (sn σ) (mv y (FP.dmul k0_5 r) (fs σ t y)) (vS))), (aZ, dA cD 3 vZ)] H := hP
  have hP : va_P D vwCl [(hT, .inr (4, [.ref hE, .ref hX, .ref hY, .ref a2, .ref a3, .ref a4, .ref aS, .ref aY, .ref a1, .ref aZ, .double t, .double r, .double er])), (hE, .inr (0, [.ref aO, .ref aK, .ref aL, .ref aR, .int (nI (sn σ)), .int (nI (sc σ))])), (aO, iA cI 10 (so σ)), (aK, dA cD 10 (sk σ)), (aL, iA cI 10 (sl σ)), (aR, iA cI 10 (sr σ)), (aY, dA cD 3 y), (a1, dA cD 3 (mix (sn σ) (fs σ t y) v1)), (a2, dA cD 3 (mix (sn σ) (rk2 σ t y r) (v2))), (a3, dA cD 3 v3), (a4, dA cD 3 v4), (aS, dA cD 3 (mix (sn σ) (mv y (FP.dmul k0_5 r) (fs σ t y)) (vS))), (aZ, dA cD 3 vZ)] H := hP
  refine lv_aload_n hx hb dX4_pair_20 rfl (lv_at hl 0 rfl) ?_
  refine lv_ldc2d (v := k0_75) hx hb hown (hg _ mD_X4_107) dX4_pair_21 ?_
  refine lv_aload_n hx hb dX4_pair_24 rfl (lv_at hl 0 rfl) ?_
  refine gX4 hx hb hg hown hI hP 0 rfl 11 rfl mF_X4_57 rfl dX4_pair_25 ?_
  refine xpc (q := 28) rfl ?_
  have b2 : bd 1 2 (FP.dmul k0_75 r) := bd_mul b_k0_75 hk.2.2.1 (by decide) (by decide)
  refine lv_dmul hx hb dX4_pair_28 b2.nn ?_
  refine lv_aload_n hx hb dX4_pair_29 rfl (lv_at hl 0 rfl) ?_
  refine gX4 hx hb hg hown hI hP 0 rfl 3 rfl mF_X4_9 rfl dX4_pair_30 ?_
  refine lv_aload_n hx hb dX4_pair_33 rfl (lv_at hl 0 rfl) ?_
  refine gX4 hx hb hg hown hI hP 0 rfl 4 rfl mF_X4_15 rfl dX4_pair_34 ?_
  refine xcv (xV (As := [.double (FP.dmul k0_75 r), .ref a2, .ref a3]) (rest := []) hx hb hml hown hg (c_slopesAfter l D cD cI cM cL hT hE hX hY aO aK aL aR a2 a3 a4 aS aY a1 aZ σ t r er a2 a3 y (rk2 σ t y r) (v2) (mix (sn σ) (mv y (FP.dmul k0_5 r) (fs σ t y)) (vS)) (v3) (FP.dmul k0_75 r) 119 hk.1 (fun i hi => (bd_mul (k := 200) (h7_bd hk) (rk2_bd (i := i) hk) (by decide) (by decide)).1) (fun i hi => mv2_bd hk (h7_bd hk) hi) ((t2_bd hk (h7_bd hk)).up (by decide)) (by decide)) mM_X4_100 ok_X4_slopesAfter rfl rfl ⟨Nat.le_of_ble_eq_true rfl, Nat.le_of_ble_eq_true rfl⟩ hI hP hd rfl [0, 1, 2, 3, 4, 5, 6, 8, 11, 9] rfl rfl rfl rfl rfl hl.1 rfl (Nat.le_of_ble_eq_true rfl) dX4_pair_37 ⟨Nat.zero_le _, Nat.zero_le _⟩) hP hd hS (fa1 (pmS (pmS (pmS (pmS pm0)))) (fa1 (pmS (pmS pm0)) fa0)) [11, 9] rfl rfl (fun _ => rfl) (fun _u H locs hu hP hS => ?_)
  have hP : va_P D vwCl [(hT, .inr (4, [.ref hE, .ref hX, .ref hY, .ref a2, .ref a3, .ref a4, .ref aS, .ref aY, .ref a1, .ref aZ, .double t, .double r, .double er])), (hE, .inr (0, [.ref aO, .ref aK, .ref aL, .ref aR, .int (nI (sn σ)), .int (nI (sc σ))])), (aO, iA cI 10 (so σ)), (aK, dA cD 10 (sk σ)), (aL, iA cI 10 (sl σ)), (aR, iA cI 10 (sr σ)), (aY, dA cD 3 y), (a1, dA cD 3 (mix (sn σ) (fs σ t y) v1)), (a2, dA cD 3 (mix (sn σ) (rk2 σ t y r) (v2))), (a3, dA cD 3 (mix (sn σ) (fs σ (FP.dadd t (FP.dmul k0_75 r)) (mv y (FP.dmul k0_75 r) (rk2 σ t y r))) (v3))), (a4, dA cD 3 v4), (aS, dA cD 3 (mix (sn σ) (mv y (FP.dmul k0_75 r) (rk2 σ t y r)) (mix (sn σ) (mv y (FP.dmul k0_5 r) (fs σ t y)) (vS)))), (aZ, dA cD 3 vZ)] H := hP
  have hP : va_P D vwCl [(hT, .inr (4, [.ref hE, .ref hX, .ref hY, .ref a2, .ref a3, .ref a4, .ref aS, .ref aY, .ref a1, .ref aZ, .double t, .double r, .double er])), (hE, .inr (0, [.ref aO, .ref aK, .ref aL, .ref aR, .int (nI (sn σ)), .int (nI (sc σ))])), (aO, iA cI 10 (so σ)), (aK, dA cD 10 (sk σ)), (aL, iA cI 10 (sl σ)), (aR, iA cI 10 (sr σ)), (aY, dA cD 3 y), (a1, dA cD 3 (mix (sn σ) (fs σ t y) v1)), (a2, dA cD 3 (mix (sn σ) (rk2 σ t y r) (v2))), (a3, dA cD 3 (mix (sn σ) (pk3 σ t y r) (v3))), (a4, dA cD 3 v4), (aS, dA cD 3 (mix (sn σ) (mv y (FP.dmul k0_75 r) (rk2 σ t y r)) (mix (sn σ) (mv y (FP.dmul k0_5 r) (fs σ t y)) (vS)))), (aZ, dA cD 3 vZ)] H := hP
  refine lv_iconst (v := nI 0) hx hb dX4_pair_40 (by decide) ?_
  refine lv_istore_n (lv' := [(1, .int (nI 0)), (0, .ref hT)]) hx hb dX4_pair_41 rfl hl (by decide) rfl (fun ls hl => ?_)
  refine xfor (I := fun i H locs ls => ∃ (f' : Nat → UInt64), (f' = mix i (paz σ t y r) vZ) ∧ va_P D vwCl [(hT, .inr (4, [.ref hE, .ref hX, .ref hY, .ref a2, .ref a3, .ref a4, .ref aS, .ref aY, .ref a1, .ref aZ, .double t, .double r, .double er])), (hE, .inr (0, [.ref aO, .ref aK, .ref aL, .ref aR, .int (nI (sn σ)), .int (nI (sc σ))])), (aO, iA cI 10 (so σ)), (aK, dA cD 10 (sk σ)), (aL, iA cI 10 (sl σ)), (aR, iA cI 10 (sr σ)), (aY, dA cD 3 y), (a1, dA cD 3 (mix (sn σ) (fs σ t y) v1)), (a2, dA cD 3 (mix (sn σ) (rk2 σ t y r) (v2))), (a3, dA cD 3 (mix (sn σ) (pk3 σ t y r) (v3))), (a4, dA cD 3 v4), (aS, dA cD 3 (mix (sn σ) (mv y (FP.dmul k0_75 r) (rk2 σ t y r)) (mix (sn σ) (mv y (FP.dmul k0_5 r) (fs σ t y)) (vS)))), (aZ, dA cD 3 f')] H ∧ va_S (fun q => q ∈ ([hT, a2, a3, a4, aS, aZ] : List Nat)) s.heap H locs ∧ lv_has ls 2 [(1, .int (nI i)), (0, .ref hT)]) (sn σ) 0 ⟨_, (mix_0 _ _).symm, hP, hS, lv_sub hl [0, 1] rfl⟩ (Nat.zero_le _) ?_ ?_
  ·
    intro i h_i ih H locs ls ⟨f', hf, hP, hS, hl⟩
    refine lv_iload_n hx hb dX4_pair_42 rfl (lv_at hl 0 rfl) ?_
    refine lv_aload_n hx hb dX4_pair_43 rfl (lv_at hl 1 rfl) ?_
    refine gX4 hx hb hg hown hI hP 0 rfl 0 rfl mF_X4_30 rfl dX4_pair_44 ?_
    refine gX0 hx hb hg hown hI hP 1 rfl 4 rfl mF_X4_88 rfl dX4_pair_47 ?_
    refine lv_icmp_ge (tgt := 113) hx hb dX4_pair_50 (by decide) (fun c_50 => absurd c_50 (nI_ge h_i (by omega))) (fun c_50 => ?_)
    refine lv_aload_n hx hb dX4_pair_53 rfl (lv_at hl 1 rfl) ?_
    refine gX4 hx hb hg hown hI hP 0 rfl 9 rfl mF_X4_27 rfl dX4_pair_54 ?_
    refine lv_iload_n hx hb dX4_pair_57 rfl (lv_at hl 0 rfl) ?_
    refine xpc (q := 58) rfl ?_
    refine lv_aload_n hx hb dX4_pair_58 rfl (lv_at hl 1 rfl) ?_
    refine gX4 hx hb hg hown hI hP 0 rfl 7 rfl mF_X4_34 rfl dX4_pair_59 ?_
    refine lv_iload_n hx hb dX4_pair_62 rfl (lv_at hl 0 rfl) ?_
    refine xdald hx hb hI hP 6 0 rfl rfl (Nat.lt_of_lt_of_le h_i hn) (by decide) dX4_pair_63 ?_
    refine lv_aload_n hx hb dX4_pair_64 rfl (lv_at hl 1 rfl) ?_
    refine gX4 hx hb hg hown hI hP 0 rfl 11 rfl mF_X4_57 rfl dX4_pair_65 ?_
    refine lv_ldc2d (v := k9) hx hb hown (hg _ mD_X4_109) dX4_pair_68 ?_
    have b3 : bd 1 0 (FP.ddiv r k9) := bd_div hk.2.2.1 lb_k9 (by decide) (by decide)
    refine lv_ddiv hx hb dX4_pair_71 b3.nn ?_
    refine lv_ldc2d (v := k2) hx hb hown (hg _ mD_X4_105) dX4_pair_72 ?_
    refine lv_aload_n hx hb dX4_pair_75 rfl (lv_at hl 1 rfl) ?_
    refine gX4 hx hb hg hown hI hP 0 rfl 8 rfl mF_X4_24 rfl dX4_pair_76 ?_
    refine lv_iload_n hx hb dX4_pair_79 rfl (lv_at hl 0 rfl) ?_
    refine xdald hx hb hI hP 7 0 rfl rfl (Nat.lt_of_lt_of_le h_i hn) (by decide) dX4_pair_80 ?_
    refine xeqd (y := (fs σ t y) i) (mix_lt h_i) ?_
    have b4 : bd 1 51 (FP.dmul k2 ((fs σ t y) i)) := bd_mul b_k2 (f0_bd (i := i) hk) (by decide) (by decide)
    refine lv_dmul hx hb dX4_pair_81 b4.nn ?_
    refine xpc (q := 82) rfl ?_
    refine lv_ldc2d (v := k3) hx hb hown (hg _ mD_X4_111) dX4_pair_82 ?_
    refine lv_aload_n hx hb dX4_pair_85 rfl (lv_at hl 1 rfl) ?_
    refine gX4 hx hb hg hown hI hP 0 rfl 3 rfl mF_X4_9 rfl dX4_pair_86 ?_
    refine lv_iload_n hx hb dX4_pair_89 rfl (lv_at hl 0 rfl) ?_
    refine xdald hx hb hI hP 8 0 rfl rfl (Nat.lt_of_lt_of_le h_i hn) (by decide) dX4_pair_90 ?_
    refine xeqd (y := (rk2 σ t y r) i) (mix_lt h_i) ?_
    have b5 : bd 1 118 (FP.dmul k3 ((rk2 σ t y r) i)) := bd_mul b_k3 (rk2_bd (i := i) hk) (by decide) (by decide)
    refine lv_dmul hx hb dX4_pair_91 b5.nn ?_
    have b6 : bd 1 119 (FP.dadd (FP.dmul k2 ((fs σ t y) i)) (FP.dmul k3 ((rk2 σ t y r) i))) := bd_add b4 b5 (by decide) (by decide) (by decide)
    refine lv_dadd hx hb dX4_pair_92 b6.nn ?_
    refine lv_ldc2d (v := k4) hx hb hown (hg _ mD_X4_113) dX4_pair_93 ?_
    refine lv_aload_n hx hb dX4_pair_96 rfl (lv_at hl 1 rfl) ?_
    refine gX4 hx hb hg hown hI hP 0 rfl 4 rfl mF_X4_15 rfl dX4_pair_97 ?_
    refine lv_iload_n hx hb dX4_pair_100 rfl (lv_at hl 0 rfl) ?_
    refine xdald hx hb hI hP 9 0 rfl rfl (Nat.lt_of_lt_of_le h_i hn) (by decide) dX4_pair_101 ?_
    refine xeqd (y := (pk3 σ t y r) i) (mix_lt h_i) ?_
    have b7 : bd 1 250 (FP.dmul k4 ((pk3 σ t y r) i)) := bd_mul b_k4 (pk3_bd (i := i) hk) (by decide) (by decide)
    refine lv_dmul hx hb dX4_pair_102 b7.nn ?_
    have b8 : bd 1 251 (FP.dadd (FP.dadd (FP.dmul k2 ((fs σ t y) i)) (FP.dmul k3 ((rk2 σ t y r) i))) (FP.dmul k4 ((pk3 σ t y r) i))) := bd_add b6 b7 (by decide) (by decide) (by decide)
    refine lv_dadd hx hb dX4_pair_103 b8.nn ?_
    refine xpc (q := 104) rfl ?_
    have b9 : bd 1 251 (FP.dmul (FP.ddiv r k9) (FP.dadd (FP.dadd (FP.dmul k2 ((fs σ t y) i)) (FP.dmul k3 ((rk2 σ t y r) i))) (FP.dmul k4 ((pk3 σ t y r) i)))) := bd_mul b3 b8 (by decide) (by decide)
    refine lv_dmul hx hb dX4_pair_104 b9.nn ?_
    have b10 : bd 1 252 (FP.dadd (y i) (FP.dmul (FP.ddiv r k9) (FP.dadd (FP.dadd (FP.dmul k2 ((fs σ t y) i)) (FP.dmul k3 ((rk2 σ t y r) i))) (FP.dmul k4 ((pk3 σ t y r) i))))) := bd_add (hk.2.2.2 i h_i) b9 (by decide) (by decide) (by decide)
    refine lv_dadd hx hb dX4_pair_105 b10.nn ?_
    refine xdast hx hb hI hP hd rfl hS 12 0 rfl rfl (Nat.lt_of_lt_of_le h_i hn) (by decide) (pmS (pmS (pmS (pmS (pmS pm0))))) dX4_pair_106 (fun H locs hP hS => ?_)
    have hP : va_P D vwCl [(hT, .inr (4, [.ref hE, .ref hX, .ref hY, .ref a2, .ref a3, .ref a4, .ref aS, .ref aY, .ref a1, .ref aZ, .double t, .double r, .double er])), (hE, .inr (0, [.ref aO, .ref aK, .ref aL, .ref aR, .int (nI (sn σ)), .int (nI (sc σ))])), (aO, iA cI 10 (so σ)), (aK, dA cD 10 (sk σ)), (aL, iA cI 10 (sl σ)), (aR, iA cI 10 (sr σ)), (aY, dA cD 3 y), (a1, dA cD 3 (mix (sn σ) (fs σ t y) v1)), (a2, dA cD 3 (mix (sn σ) (rk2 σ t y r) (v2))), (a3, dA cD 3 (mix (sn σ) (pk3 σ t y r) (v3))), (a4, dA cD 3 v4), (aS, dA cD 3 (mix (sn σ) (mv y (FP.dmul k0_75 r) (rk2 σ t y r)) (mix (sn σ) (mv y (FP.dmul k0_5 r) (fs σ t y)) (vS)))), (aZ, dA cD 3 (vf_upd f' i (FP.dadd (y i) (FP.dmul (FP.ddiv r k9) (FP.dadd (FP.dadd (FP.dmul k2 ((fs σ t y) i)) (FP.dmul k3 ((rk2 σ t y r) i))) (FP.dmul k4 ((pk3 σ t y r) i)))))))] H := hP
    refine lv_iinc (v := nI (i + 1)) (lv' := [(1, .int (nI (i + 1))), (0, .ref hT)]) hx hb dX4_pair_107 hl (k := 0) rfl (nI_1 i) (by decide) rfl (fun ls hl => ?_)
    refine lv_goto (tgt := 42) hx hb dX4_pair_110 (by decide) ?_
    exact ih _ _ _ ⟨_, mix_s hf rfl, hP, hS, lv_sub hl [0, 1] rfl⟩
  ·
    intro H locs ls ⟨f', hf, hP, hS, hl⟩
    refine lv_iload_n hx hb dX4_pair_42 rfl (lv_at hl 0 rfl) ?_
    refine lv_aload_n hx hb dX4_pair_43 rfl (lv_at hl 1 rfl) ?_
    refine gX4 hx hb hg hown hI hP 0 rfl 0 rfl mF_X4_30 rfl dX4_pair_44 ?_
    refine gX0 hx hb hg hown hI hP 1 rfl 4 rfl mF_X4_88 rfl dX4_pair_47 ?_
    refine lv_icmp_ge (tgt := 113) hx hb dX4_pair_50 (by decide) (fun c_50 => ?_) (fun c_50 => absurd (Int32.le_refl _) c_50)
    subst hf
    refine lv_aload_n hx hb dX4_pair_113 rfl (lv_at hl 1 rfl) ?_
    refine gX4 hx hb hg hown hI hP 0 rfl 0 rfl mF_X4_30 rfl dX4_pair_114 ?_
    refine lv_aload_n hx hb dX4_pair_117 rfl (lv_at hl 1 rfl) ?_
    refine xpc (q := 118) rfl ?_
    refine gX4 hx hb hg hown hI hP 0 rfl 10 rfl mF_X4_53 rfl dX4_pair_118 ?_
    refine lv_aload_n hx hb dX4_pair_121 rfl (lv_at hl 1 rfl) ?_
    refine gX4 hx hb hg hown hI hP 0 rfl 11 rfl mF_X4_57 rfl dX4_pair_122 ?_
    have b3 : bd 1 17 (FP.dadd t r) := bd_add hk.2.1 hk.2.2.1 (by decide) (by decide) (by decide)
    refine lv_dadd hx hb dX4_pair_125 b3.nn ?_
    refine lv_aload_n hx hb dX4_pair_126 rfl (lv_at hl 1 rfl) ?_
    refine gX4 hx hb hg hown hI hP 0 rfl 9 rfl mF_X4_27 rfl dX4_pair_127 ?_
    refine lv_aload_n hx hb dX4_pair_130 rfl (lv_at hl 1 rfl) ?_
    refine gX4 hx hb hg hown hI hP 0 rfl 5 rfl mF_X4_18 rfl dX4_pair_131 ?_
    refine xcv (xV (As := [.double (FP.dadd t r), .ref aZ, .ref a4]) (rest := []) hx hb hml hown hg (c_slopes l D cD cI cM cL hE aO aK aL aR σ aZ a4 (FP.dadd t r) (mix (sn σ) (paz σ t y r) vZ) v4 260 hk.1 ((t2_bd hk hk.2.2.1).up (by decide)) (fun i hi => by rw [mix_lt hi]; exact paz_bd hk hi) (by decide)) mM_X4_60 ok_X0_slopes rfl rfl ⟨Nat.le_of_ble_eq_true rfl, Nat.le_of_ble_eq_true rfl⟩ hI hP hd rfl [1, 2, 3, 4, 5, 12, 10] rfl rfl rfl rfl rfl hl.1 rfl (Nat.le_of_ble_eq_true rfl) dX4_pair_134 ⟨Nat.zero_le _, Nat.zero_le _⟩) hP hd hS (fa1 (pmS (pmS (pmS pm0))) fa0) [10] rfl rfl (fun _ => rfl) (fun _u H locs hu hP hS => ?_)
    have hP : va_P D vwCl [(hT, .inr (4, [.ref hE, .ref hX, .ref hY, .ref a2, .ref a3, .ref a4, .ref aS, .ref aY, .ref a1, .ref aZ, .double t, .double r, .double er])), (hE, .inr (0, [.ref aO, .ref aK, .ref aL, .ref aR, .int (nI (sn σ)), .int (nI (sc σ))])), (aO, iA cI 10 (so σ)), (aK, dA cD 10 (sk σ)), (aL, iA cI 10 (sl σ)), (aR, iA cI 10 (sr σ)), (aY, dA cD 3 y), (a1, dA cD 3 (mix (sn σ) (fs σ t y) v1)), (a2, dA cD 3 (mix (sn σ) (rk2 σ t y r) (v2))), (a3, dA cD 3 (mix (sn σ) (pk3 σ t y r) (v3))), (a4, dA cD 3 (mix (sn σ) (fs σ (FP.dadd t r) (mix (sn σ) (paz σ t y r) vZ)) v4)), (aS, dA cD 3 (mix (sn σ) (mv y (FP.dmul k0_75 r) (rk2 σ t y r)) (mix (sn σ) (mv y (FP.dmul k0_5 r) (fs σ t y)) (vS)))), (aZ, dA cD 3 (mix (sn σ) (paz σ t y r) vZ))] H := hP
    have hP : va_P D vwCl [(hT, .inr (4, [.ref hE, .ref hX, .ref hY, .ref a2, .ref a3, .ref a4, .ref aS, .ref aY, .ref a1, .ref aZ, .double t, .double r, .double er])), (hE, .inr (0, [.ref aO, .ref aK, .ref aL, .ref aR, .int (nI (sn σ)), .int (nI (sc σ))])), (aO, iA cI 10 (so σ)), (aK, dA cD 10 (sk σ)), (aL, iA cI 10 (sl σ)), (aR, iA cI 10 (sr σ)), (aY, dA cD 3 y), (a1, dA cD 3 (mix (sn σ) (fs σ t y) v1)), (a2, dA cD 3 (mix (sn σ) (rk2 σ t y r) (v2))), (a3, dA cD 3 (mix (sn σ) (pk3 σ t y r) (v3))), (a4, dA cD 3 (mix (sn σ) (pk4 σ t y r) v4)), (aS, dA cD 3 (mix (sn σ) (mv y (FP.dmul k0_75 r) (rk2 σ t y r)) (mix (sn σ) (mv y (FP.dmul k0_5 r) (fs σ t y)) (vS)))), (aZ, dA cD 3 (mix (sn σ) (paz σ t y r) vZ))] H := by unfold pk4; rw [← fs_mix (σ := σ) (t := FP.dadd t r) (g := paz σ t y r) (f := vZ) hn]; exact hP
    refine lv_iconst (v := nI 0) hx hb dX4_pair_137 (by decide) ?_
    refine lv_istore_n (lv' := [(1, .int (nI 0)), (0, .ref hT)]) hx hb dX4_pair_138 rfl hl (by decide) rfl (fun ls hl => ?_)
    refine xfor (I := fun i H locs ls => ∃ (f' : Nat → UInt64), (f' = mix i (pae σ t y r) (mix (sn σ) (mv y (FP.dmul k0_75 r) (rk2 σ t y r)) (mix (sn σ) (mv y (FP.dmul k0_5 r) (fs σ t y)) (vS)))) ∧ va_P D vwCl [(hT, .inr (4, [.ref hE, .ref hX, .ref hY, .ref a2, .ref a3, .ref a4, .ref aS, .ref aY, .ref a1, .ref aZ, .double t, .double r, .double er])), (hE, .inr (0, [.ref aO, .ref aK, .ref aL, .ref aR, .int (nI (sn σ)), .int (nI (sc σ))])), (aO, iA cI 10 (so σ)), (aK, dA cD 10 (sk σ)), (aL, iA cI 10 (sl σ)), (aR, iA cI 10 (sr σ)), (aY, dA cD 3 y), (a1, dA cD 3 (mix (sn σ) (fs σ t y) v1)), (a2, dA cD 3 (mix (sn σ) (rk2 σ t y r) (v2))), (a3, dA cD 3 (mix (sn σ) (pk3 σ t y r) (v3))), (a4, dA cD 3 (mix (sn σ) (pk4 σ t y r) v4)), (aS, dA cD 3 f'), (aZ, dA cD 3 (mix (sn σ) (paz σ t y r) vZ))] H ∧ va_S (fun q => q ∈ ([hT, a2, a3, a4, aS, aZ] : List Nat)) s.heap H locs ∧ lv_has ls 2 [(1, .int (nI i)), (0, .ref hT)]) (sn σ) 0 ⟨_, (mix_0 _ _).symm, hP, hS, lv_sub hl [0, 1] rfl⟩ (Nat.zero_le _) ?_ ?_
    ·
      intro i h_i ih H locs ls ⟨f', hf, hP, hS, hl⟩
      refine lv_iload_n hx hb dX4_pair_139 rfl (lv_at hl 0 rfl) ?_
      refine lv_aload_n hx hb dX4_pair_140 rfl (lv_at hl 1 rfl) ?_
      refine gX4 hx hb hg hown hI hP 0 rfl 0 rfl mF_X4_30 rfl dX4_pair_141 ?_
      refine gX0 hx hb hg hown hI hP 1 rfl 4 rfl mF_X4_88 rfl dX4_pair_144 ?_
      refine lv_icmp_ge (tgt := 214) hx hb dX4_pair_147 (by decide) (fun c_147 => absurd c_147 (nI_ge h_i (by omega))) (fun c_147 => ?_)
      refine xpc (q := 150) rfl ?_
      refine lv_aload_n hx hb dX4_pair_150 rfl (lv_at hl 1 rfl) ?_
      refine gX4 hx hb hg hown hI hP 0 rfl 6 rfl mF_X4_21 rfl dX4_pair_151 ?_
      refine lv_iload_n hx hb dX4_pair_154 rfl (lv_at hl 0 rfl) ?_
      refine lv_aload_n hx hb dX4_pair_155 rfl (lv_at hl 1 rfl) ?_
      refine gX4 hx hb hg hown hI hP 0 rfl 11 rfl mF_X4_57 rfl dX4_pair_156 ?_
      refine lv_ldc2d (v := k72) hx hb hown (hg _ mD_X4_115) dX4_pair_159 ?_
      have b4 : bd 1 0 (FP.ddiv r k72) := bd_div hk.2.2.1 lb_k72 (by decide) (by decide)
      refine lv_ddiv hx hb dX4_pair_162 b4.nn ?_
      refine lv_ldc2d (v := k6) hx hb hown (hg _ mD_X4_103) dX4_pair_163 ?_
      refine lv_aload_n hx hb dX4_pair_166 rfl (lv_at hl 1 rfl) ?_
      refine gX4 hx hb hg hown hI hP 0 rfl 3 rfl mF_X4_9 rfl dX4_pair_167 ?_
      refine lv_iload_n hx hb dX4_pair_170 rfl (lv_at hl 0 rfl) ?_
      refine xdald hx hb hI hP 8 0 rfl rfl (Nat.lt_of_lt_of_le h_i hn) (by decide) dX4_pair_171 ?_
      refine xeqd (y := (rk2 σ t y r) i) (mix_lt h_i) ?_
      have b5 : bd 1 119 (FP.dmul k6 ((rk2 σ t y r) i)) := bd_mul b_k6 (rk2_bd (i := i) hk) (by decide) (by decide)
      refine lv_dmul hx hb dX4_pair_172 b5.nn ?_
      refine lv_ldc2d (v := k8) hx hb hown (hg _ mD_X4_117) dX4_pair_173 ?_
      refine xpc (q := 176) rfl ?_
      refine lv_aload_n hx hb dX4_pair_176 rfl (lv_at hl 1 rfl) ?_
      refine gX4 hx hb hg hown hI hP 0 rfl 4 rfl mF_X4_15 rfl dX4_pair_177 ?_
      refine lv_iload_n hx hb dX4_pair_180 rfl (lv_at hl 0 rfl) ?_
      refine xdald hx hb hI hP 9 0 rfl rfl (Nat.lt_of_lt_of_le h_i hn) (by decide) dX4_pair_181 ?_
      refine xeqd (y := (pk3 σ t y r) i) (mix_lt h_i) ?_
      have b6 : bd 1 251 (FP.dmul k8 ((pk3 σ t y r) i)) := bd_mul b_k8 (pk3_bd (i := i) hk) (by decide) (by decide)
      refine lv_dmul hx hb dX4_pair_182 b6.nn ?_
      have b7 : bd 1 252 (FP.dadd (FP.dmul k6 ((rk2 σ t y r) i)) (FP.dmul k8 ((pk3 σ t y r) i))) := bd_add b5 b6 (by decide) (by decide) (by decide)
      refine lv_dadd hx hb dX4_pair_183 b7.nn ?_
      refine lv_ldc2d (v := k5) hx hb hown (hg _ mD_X4_119) dX4_pair_184 ?_
      refine lv_aload_n hx hb dX4_pair_187 rfl (lv_at hl 1 rfl) ?_
      refine gX4 hx hb hg hown hI hP 0 rfl 8 rfl mF_X4_24 rfl dX4_pair_188 ?_
      refine lv_iload_n hx hb dX4_pair_191 rfl (lv_at hl 0 rfl) ?_
      refine xdald hx hb hI hP 7 0 rfl rfl (Nat.lt_of_lt_of_le h_i hn) (by decide) dX4_pair_192 ?_
      refine xeqd (y := (fs σ t y) i) (mix_lt h_i) ?_
      have b8 : bd 1 53 (FP.dmul k5 ((fs σ t y) i)) := bd_mul b_k5 (f0_bd (i := i) hk) (by decide) (by decide)
      refine lv_dmul hx hb dX4_pair_193 b8.nn ?_
      have b9 : bd 1 253 (FP.dsub (FP.dadd (FP.dmul k6 ((rk2 σ t y r) i)) (FP.dmul k8 ((pk3 σ t y r) i))) (FP.dmul k5 ((fs σ t y) i))) := bd_sub b7 b8 (by decide) (by decide) (by decide)
      refine lv_dsub hx hb dX4_pair_194 b9.nn ?_
      refine lv_ldc2d (v := k9) hx hb hown (hg _ mD_X4_109) dX4_pair_195 ?_
      refine xpc (q := 198) rfl ?_
      refine lv_aload_n hx hb dX4_pair_198 rfl (lv_at hl 1 rfl) ?_
      refine gX4 hx hb hg hown hI hP 0 rfl 5 rfl mF_X4_18 rfl dX4_pair_199 ?_
      refine lv_iload_n hx hb dX4_pair_202 rfl (lv_at hl 0 rfl) ?_
      refine xdald hx hb hI hP 10 0 rfl rfl (Nat.lt_of_lt_of_le h_i hn) (by decide) dX4_pair_203 ?_
      refine xeqd (y := (pk4 σ t y r) i) (mix_lt h_i) ?_
      have b10 : bd 1 534 (FP.dmul k9 ((pk4 σ t y r) i)) := bd_mul b_k9 (pk4_bd (i := i) hk) (by decide) (by decide)
      refine lv_dmul hx hb dX4_pair_204 b10.nn ?_
      have b11 : bd 1 535 (FP.dsub (FP.dsub (FP.dadd (FP.dmul k6 ((rk2 σ t y r) i)) (FP.dmul k8 ((pk3 σ t y r) i))) (FP.dmul k5 ((fs σ t y) i))) (FP.dmul k9 ((pk4 σ t y r) i))) := bd_sub b9 b10 (by decide) (by decide) (by decide)
      refine lv_dsub hx hb dX4_pair_205 b11.nn ?_
      have b12 : bd 1 535 (FP.dmul (FP.ddiv r k72) (FP.dsub (FP.dsub (FP.dadd (FP.dmul k6 ((rk2 σ t y r) i)) (FP.dmul k8 ((pk3 σ t y r) i))) (FP.dmul k5 ((fs σ t y) i))) (FP.dmul k9 ((pk4 σ t y r) i)))) := bd_mul b4 b11 (by decide) (by decide)
      refine lv_dmul hx hb dX4_pair_206 b12.nn ?_
      refine xdast hx hb hI hP hd rfl hS 11 0 rfl rfl (Nat.lt_of_lt_of_le h_i hn) (by decide) (pmS (pmS (pmS (pmS pm0)))) dX4_pair_207 (fun H locs hP hS => ?_)
      have hP : va_P D vwCl [(hT, .inr (4, [.ref hE, .ref hX, .ref hY, .ref a2, .ref a3, .ref a4, .ref aS, .ref aY, .ref a1, .ref aZ, .double t, .double r, .double er])), (hE, .inr (0, [.ref aO, .ref aK, .ref aL, .ref aR, .int (nI (sn σ)), .int (nI (sc σ))])), (aO, iA cI 10 (so σ)), (aK, dA cD 10 (sk σ)), (aL, iA cI 10 (sl σ)), (aR, iA cI 10 (sr σ)), (aY, dA cD 3 y), (a1, dA cD 3 (mix (sn σ) (fs σ t y) v1)), (a2, dA cD 3 (mix (sn σ) (rk2 σ t y r) (v2))), (a3, dA cD 3 (mix (sn σ) (pk3 σ t y r) (v3))), (a4, dA cD 3 (mix (sn σ) (pk4 σ t y r) v4)), (aS, dA cD 3 (vf_upd f' i (FP.dmul (FP.ddiv r k72) (FP.dsub (FP.dsub (FP.dadd (FP.dmul k6 ((rk2 σ t y r) i)) (FP.dmul k8 ((pk3 σ t y r) i))) (FP.dmul k5 ((fs σ t y) i))) (FP.dmul k9 ((pk4 σ t y r) i)))))), (aZ, dA cD 3 (mix (sn σ) (paz σ t y r) vZ))] H := hP
      refine lv_iinc (v := nI (i + 1)) (lv' := [(1, .int (nI (i + 1))), (0, .ref hT)]) hx hb dX4_pair_208 hl (k := 0) rfl (nI_1 i) (by decide) rfl (fun ls hl => ?_)
      refine lv_goto (tgt := 139) hx hb dX4_pair_211 (by decide) ?_
      exact ih _ _ _ ⟨_, mix_s hf rfl, hP, hS, lv_sub hl [0, 1] rfl⟩
    ·
      intro H locs ls ⟨f', hf, hP, hS, hl⟩
      refine lv_iload_n hx hb dX4_pair_139 rfl (lv_at hl 0 rfl) ?_
      refine lv_aload_n hx hb dX4_pair_140 rfl (lv_at hl 1 rfl) ?_
      refine gX4 hx hb hg hown hI hP 0 rfl 0 rfl mF_X4_30 rfl dX4_pair_141 ?_
      refine gX0 hx hb hg hown hI hP 1 rfl 4 rfl mF_X4_88 rfl dX4_pair_144 ?_
      refine lv_icmp_ge (tgt := 214) hx hb dX4_pair_147 (by decide) (fun c_147 => ?_) (fun c_147 => absurd (Int32.le_refl _) c_147)
      subst hf
      refine xpc (q := 214) rfl ?_
      refine lv_aload_n hx hb dX4_pair_214 rfl (lv_at hl 1 rfl) ?_
      refine lv_aload_n hx hb dX4_pair_215 rfl (lv_at hl 1 rfl) ?_
      refine gX4 hx hb hg hown hI hP 0 rfl 6 rfl mF_X4_21 rfl dX4_pair_216 ?_
      refine lv_aload_n hx hb dX4_pair_219 rfl (lv_at hl 1 rfl) ?_
      refine gX4 hx hb hg hown hI hP 0 rfl 0 rfl mF_X4_30 rfl dX4_pair_220 ?_
      refine gX0 hx hb hg hown hI hP 1 rfl 4 rfl mF_X4_88 rfl dX4_pair_223 ?_
      refine xcd (xN (As := [.ref aS, .int (nI (sn σ))]) (rest := [.ref hT]) hx hb hml hown hg (c_greatest l D cD cI cM cL aS (mix (sn σ) (pae σ t y r) (mix (sn σ) (mv y (FP.dmul k0_75 r) (rk2 σ t y r)) (mix (sn σ) (mv y (FP.dmul k0_5 r) (fs σ t y)) (vS)))) (sn σ) hn) hI.2.2.2.1 ok_X6_greatest rfl rfl ⟨Nat.le_of_ble_eq_true rfl, Nat.le_of_ble_eq_true rfl⟩ hI hP hd rfl [11] rfl rfl rfl hl.1 rfl (Nat.le_of_ble_eq_true rfl) dX4_pair_226 ⟨Nat.zero_le _, Nat.zero_le _⟩) hP hd hS fa0 [] rfl rfl (fun _ => rfl) (fun _u H locs hu hP hS => ?_)
      have hP : va_P D vwCl [(hT, .inr (4, [.ref hE, .ref hX, .ref hY, .ref a2, .ref a3, .ref a4, .ref aS, .ref aY, .ref a1, .ref aZ, .double t, .double r, .double er])), (hE, .inr (0, [.ref aO, .ref aK, .ref aL, .ref aR, .int (nI (sn σ)), .int (nI (sc σ))])), (aO, iA cI 10 (so σ)), (aK, dA cD 10 (sk σ)), (aL, iA cI 10 (sl σ)), (aR, iA cI 10 (sr σ)), (aY, dA cD 3 y), (a1, dA cD 3 (mix (sn σ) (fs σ t y) v1)), (a2, dA cD 3 (mix (sn σ) (rk2 σ t y r) (v2))), (a3, dA cD 3 (mix (sn σ) (pk3 σ t y r) (v3))), (a4, dA cD 3 (mix (sn σ) (pk4 σ t y r) v4)), (aS, dA cD 3 (mix (sn σ) (pae σ t y r) (mix (sn σ) (mv y (FP.dmul k0_75 r) (rk2 σ t y r)) (mix (sn σ) (mv y (FP.dmul k0_5 r) (fs σ t y)) (vS))))), (aZ, dA cD 3 (mix (sn σ) (paz σ t y r) vZ))] H := hP
      refine xeqd (y := mxv (pae σ t y r) (sn σ)) (mxv_mix _ (Nat.le_refl _)) ?_
      refine pX4 hx hb hg hown hI hP hd rfl hS 0 rfl 12 rfl mF_X4_121 rfl rfl rfl (Nat.le_of_ble_eq_true rfl) pm0 dX4_pair_229 (fun H locs hP hS => ?_)
      have hP : va_P D vwCl [(hT, .inr (4, [.ref hE, .ref hX, .ref hY, .ref a2, .ref a3, .ref a4, .ref aS, .ref aY, .ref a1, .ref aZ, .double t, .double r, .double (mxv (pae σ t y r) (sn σ))])), (hE, .inr (0, [.ref aO, .ref aK, .ref aL, .ref aR, .int (nI (sn σ)), .int (nI (sc σ))])), (aO, iA cI 10 (so σ)), (aK, dA cD 10 (sk σ)), (aL, iA cI 10 (sl σ)), (aR, iA cI 10 (sr σ)), (aY, dA cD 3 y), (a1, dA cD 3 (mix (sn σ) (fs σ t y) v1)), (a2, dA cD 3 (mix (sn σ) (rk2 σ t y r) (v2))), (a3, dA cD 3 (mix (sn σ) (pk3 σ t y r) (v3))), (a4, dA cD 3 (mix (sn σ) (pk4 σ t y r) v4)), (aS, dA cD 3 (mix (sn σ) (pae σ t y r) (mix (sn σ) (mv y (FP.dmul k0_75 r) (rk2 σ t y r)) (mix (sn σ) (mv y (FP.dmul k0_5 r) (fs σ t y)) (vS))))), (aZ, dA cD 3 (mix (sn σ) (paz σ t y r) vZ))] H := hP
      exact W.vret hx hb hr (fun tS hTS hWS => ⟨(mix (sn σ) (rk2 σ t y r) (v2), mix (sn σ) (pk3 σ t y r) (v3), mix (sn σ) (pk4 σ t y r) v4, mix (sn σ) (pae σ t y r) (mix (sn σ) (mv y (FP.dmul k0_75 r) (rk2 σ t y r)) (mix (sn σ) (mv y (FP.dmul k0_5 r) (fs σ t y)) (vS)))), rfl, trivial, by rw [hTS]; exact hP.sub [0, 8, 9, 10, 11, 12] rfl, hS.F hTS⟩) hS.2.2 dX4_pair_232

set_option maxHeartbeats 4000000 in
set_option maxRecDepth 100000 in
theorem c_adams (l : Launch) (D : va_G) (cD cI cM cL : ClassId) (hT hE hX hY aO aK aL aR a2 a3 a4 aS aY a1 aZ : Nat) (σ : Sys) (t r er : UInt64) (y v1 v2 v3 v4 vS vZ : Nat → UInt64) (aG : Nat) (g : Nat → UInt64) (hk : okst σ t y r) (hgb : ∀ i, i < sn σ → bd 1 50 (g i)) : Met l yX4_adams (Cond.code yX4_adams cX4_adams 3 none :: lw_good) { frames := 2, cells := 0, slots := 0, locals := 50 } (xPc D (tyL cD cI cM cL) [.ref hT, .ref aG] [(hT, .inr (4, [.ref hE, .ref hX, .ref hY, .ref a2, .ref a3, .ref a4, .ref aS, .ref aY, .ref a1, .ref aZ, .double t, .double r, .double er])), (hE, .inr (0, [.ref aO, .ref aK, .ref aL, .ref aR, .int (nI (sn σ)), .int (nI (sc σ))])), (aO, iA cI 10 (so σ)), (aK, dA cD 10 (sk σ)), (aL, iA cI 10 (sl σ)), (aR, iA cI 10 (sr σ)), (aY, dA cD 3 y), (a1, dA cD 3 (mix (sn σ) (fs σ t y) v1)), (a2, dA cD 3 v2), (a3, dA cD 3 v3), (a4, dA cD 3 v4), (aS, dA cD 3 vS), (aZ, dA cD 3 vZ), (aG, dA cD 3 g)]) (xQ D [a2, a3, a4, aS, aZ] (fun (u : (Nat → UInt64) × (Nat → UInt64) × (Nat → UInt64) × (Nat → UInt64)) => none) (fun (u : (Nat → UInt64) × (Nat → UInt64) × (Nat → UInt64) × (Nat → UInt64)) => True) (fun (u : (Nat → UInt64) × (Nat → UInt64) × (Nat → UInt64) × (Nat → UInt64)) => [(a2, dA cD 3 u.1), (a3, dA cD 3 u.2.1), (a4, dA cD 3 u.2.2.1), (aS, dA cD 3 u.2.2.2), (aZ, dA cD 3 (mix (sn σ) (adz σ t y r g) vZ))])) 0 0 (fun q => q ∈ ([a2, a3, a4, aS, aZ] : List Nat)) := by
  refine xofW (adr := [a2, a3, a4, aS, aZ]) (by decide) (Nat.le_of_ble_eq_true rfl) ?_
  intro p e s m below meth c ls hx hb hr hml hg hown hlk hI hP hd hS hl
  have hown : s.vm.findClass RX4 = some m.cls := hown
  have hd : dj [hT, hE, aO, aK, aL, aR, aY, a1, a2, a3, a4, aS, aZ, aG] := hd
  have hl : lv_has ls 3 [(0, .ref hT), (1, .ref aG)] := hl
  have hn : sn σ ≤ 3 := hk.1.2.1
  refine lv_iconst (v := nI 0) hx hb dX4_adams_0 (by decide) ?_
  refine lv_istore_n (lv' := [(2, .int (nI 0)), (0, .ref hT), (1, .ref aG)]) hx hb dX4_adams_1 rfl hl (by decide) rfl (fun ls hl => ?_)
  refine xfor (I := fun i H locs ls => ∃ (f' : Nat → UInt64), (f' = mix i (adp σ t y r g) vS) ∧ va_P D vwCl [(hT, .inr (4, [.ref hE, .ref hX, .ref hY, .ref a2, .ref a3, .ref a4, .ref aS, .ref aY, .ref a1, .ref aZ, .double t, .double r, .double er])), (hE, .inr (0, [.ref aO, .ref aK, .ref aL, .ref aR, .int (nI (sn σ)), .int (nI (sc σ))])), (aO, iA cI 10 (so σ)), (aK, dA cD 10 (sk σ)), (aL, iA cI 10 (sl σ)), (aR, iA cI 10 (sr σ)), (aY, dA cD 3 y), (a1, dA cD 3 (mix (sn σ) (fs σ t y) v1)), (a2, dA cD 3 v2), (a3, dA cD 3 v3), (a4, dA cD 3 v4), (aS, dA cD 3 f'), (aZ, dA cD 3 vZ), (aG, dA cD 3 g)] H ∧ va_S (fun q => q ∈ ([a2, a3, a4, aS, aZ] : List Nat)) s.heap H locs ∧ lv_has ls 3 [(2, .int (nI i)), (0, .ref hT), (1, .ref aG)]) (sn σ) 0 ⟨_, (mix_0 _ _).symm, hP, hS, lv_sub hl [0, 1, 2] rfl⟩ (Nat.zero_le _) ?_ ?_
  ·
    intro i h_i ih H locs ls ⟨f', hf, hP, hS, hl⟩
    refine lv_iload_n hx hb dX4_adams_2 rfl (lv_at hl 0 rfl) ?_
    refine lv_aload_n hx hb dX4_adams_3 rfl (lv_at hl 1 rfl) ?_
    refine gX4 hx hb hg hown hI hP 0 rfl 0 rfl mF_X4_30 rfl dX4_adams_4 ?_
    refine gX0 hx hb hg hown hI hP 1 rfl 4 rfl mF_X4_88 rfl dX4_adams_7 ?_
    refine lv_icmp_ge (tgt := 55) hx hb dX4_adams_10 (by decide) (fun c_10 => absurd c_10 (nI_ge h_i (by omega))) (fun c_10 => ?_)
    refine lv_aload_n hx hb dX4_adams_13 rfl (lv_at hl 1 rfl) ?_
    refine gX4 hx hb hg hown hI hP 0 rfl 6 rfl mF_X4_21 rfl dX4_adams_14 ?_
    refine lv_iload_n hx hb dX4_adams_17 rfl (lv_at hl 0 rfl) ?_
    refine lv_aload_n hx hb dX4_adams_18 rfl (lv_at hl 1 rfl) ?_
    refine gX4 hx hb hg hown hI hP 0 rfl 7 rfl mF_X4_34 rfl dX4_adams_19 ?_
    refine lv_iload_n hx hb dX4_adams_22 rfl (lv_at hl 0 rfl) ?_
    refine xdald hx hb hI hP 6 0 rfl rfl (Nat.lt_of_lt_of_le h_i hn) (by decide) dX4_adams_23 ?_
    refine xpc (q := 24) rfl ?_
    refine lv_aload_n hx hb dX4_adams_24 rfl (lv_at hl 1 rfl) ?_
    refine gX4 hx hb hg hown hI hP 0 rfl 11 rfl mF_X4_57 rfl dX4_adams_25 ?_
    refine lv_ldc2d (v := k1_5) hx hb hown (hg _ mD_X4_124) dX4_adams_28 ?_
    refine lv_aload_n hx hb dX4_adams_31 rfl (lv_at hl 1 rfl) ?_
    refine gX4 hx hb hg hown hI hP 0 rfl 8 rfl mF_X4_24 rfl dX4_adams_32 ?_
    refine lv_iload_n hx hb dX4_adams_35 rfl (lv_at hl 0 rfl) ?_
    refine xdald hx hb hI hP 7 0 rfl rfl (Nat.lt_of_lt_of_le h_i hn) (by decide) dX4_adams_36 ?_
    refine xeqd (y := (fs σ t y) i) (mix_lt h_i) ?_
    have b1 : bd 1 51 (FP.dmul k1_5 ((fs σ t y) i)) := bd_mul b_k1_5 (f0_bd (i := i) hk) (by decide) (by decide)
    refine lv_dmul hx hb dX4_adams_37 b1.nn ?_
    refine lv_ldc2d (v := k0_5) hx hb hown (hg _ mD_X4_98) dX4_adams_38 ?_
    refine lv_aload_n hx hb dX4_adams_41 rfl (lv_at hl 2 rfl) ?_
    refine lv_iload_n hx hb dX4_adams_42 rfl (lv_at hl 0 rfl) ?_
    refine xdald hx hb hI hP 13 0 rfl rfl (Nat.lt_of_lt_of_le h_i hn) (by decide) dX4_adams_43 ?_
    have b2 : bd 1 50 (FP.dmul k0_5 (g i)) := bd_mul b_k0_5 (hgb i h_i) (by decide) (by decide)
    refine lv_dmul hx hb dX4_adams_44 b2.nn ?_
    have b3 : bd 1 52 (FP.dsub (FP.dmul k1_5 ((fs σ t y) i)) (FP.dmul k0_5 (g i))) := bd_sub b1 b2 (by decide) (by decide) (by decide)
    refine lv_dsub hx hb dX4_adams_45 b3.nn ?_
    refine xpc (q := 46) rfl ?_
    have b4 : bd 1 54 (FP.dmul r (FP.dsub (FP.dmul k1_5 ((fs σ t y) i)) (FP.dmul k0_5 (g i)))) := bd_mul hk.2.2.1 b3 (by decide) (by decide)
    refine lv_dmul hx hb dX4_adams_46 b4.nn ?_
    have b5 : bd 1 55 (FP.dadd (y i) (FP.dmul r (FP.dsub (FP.dmul k1_5 ((fs σ t y) i)) (FP.dmul k0_5 (g i))))) := bd_add (hk.2.2.2 i h_i) b4 (by decide) (by decide) (by decide)
    refine lv_dadd hx hb dX4_adams_47 b5.nn ?_
    refine xdast hx hb hI hP hd rfl hS 11 0 rfl rfl (Nat.lt_of_lt_of_le h_i hn) (by decide) (pmS (pmS (pmS pm0))) dX4_adams_48 (fun H locs hP hS => ?_)
    have hP : va_P D vwCl [(hT, .inr (4, [.ref hE, .ref hX, .ref hY, .ref a2, .ref a3, .ref a4, .ref aS, .ref aY, .ref a1, .ref aZ, .double t, .double r, .double er])), (hE, .inr (0, [.ref aO, .ref aK, .ref aL, .ref aR, .int (nI (sn σ)), .int (nI (sc σ))])), (aO, iA cI 10 (so σ)), (aK, dA cD 10 (sk σ)), (aL, iA cI 10 (sl σ)), (aR, iA cI 10 (sr σ)), (aY, dA cD 3 y), (a1, dA cD 3 (mix (sn σ) (fs σ t y) v1)), (a2, dA cD 3 v2), (a3, dA cD 3 v3), (a4, dA cD 3 v4), (aS, dA cD 3 (vf_upd f' i (FP.dadd (y i) (FP.dmul r (FP.dsub (FP.dmul k1_5 ((fs σ t y) i)) (FP.dmul k0_5 (g i))))))), (aZ, dA cD 3 vZ), (aG, dA cD 3 g)] H := hP
    refine lv_iinc (v := nI (i + 1)) (lv' := [(2, .int (nI (i + 1))), (0, .ref hT), (1, .ref aG)]) hx hb dX4_adams_49 hl (k := 0) rfl (nI_1 i) (by decide) rfl (fun ls hl => ?_)
    refine lv_goto (tgt := 2) hx hb dX4_adams_52 (by decide) ?_
    exact ih _ _ _ ⟨_, mix_s hf rfl, hP, hS, lv_sub hl [0, 1, 2] rfl⟩
  ·
    intro H locs ls ⟨f', hf, hP, hS, hl⟩
    refine lv_iload_n hx hb dX4_adams_2 rfl (lv_at hl 0 rfl) ?_
    refine lv_aload_n hx hb dX4_adams_3 rfl (lv_at hl 1 rfl) ?_
    refine gX4 hx hb hg hown hI hP 0 rfl 0 rfl mF_X4_30 rfl dX4_adams_4 ?_
    refine gX0 hx hb hg hown hI hP 1 rfl 4 rfl mF_X4_88 rfl dX4_adams_7 ?_
    refine lv_icmp_ge (tgt := 55) hx hb dX4_adams_10 (by decide) (fun c_10 => ?_) (fun c_10 => absurd (Int32.le_refl _) c_10)
    subst hf
    refine lv_aload_n hx hb dX4_adams_55 rfl (lv_at hl 1 rfl) ?_
    refine gX4 hx hb hg hown hI hP 0 rfl 0 rfl mF_X4_30 rfl dX4_adams_56 ?_
    refine lv_aload_n hx hb dX4_adams_59 rfl (lv_at hl 1 rfl) ?_
    refine gX4 hx hb hg hown hI hP 0 rfl 10 rfl mF_X4_53 rfl dX4_adams_60 ?_
    refine lv_aload_n hx hb dX4_adams_63 rfl (lv_at hl 1 rfl) ?_
    refine gX4 hx hb hg hown hI hP 0 rfl 11 rfl mF_X4_57 rfl dX4_adams_64 ?_
    have b1 : bd 1 17 (FP.dadd t r) := bd_add hk.2.1 hk.2.2.1 (by decide) (by decide) (by decide)
    refine lv_dadd hx hb dX4_adams_67 b1.nn ?_
    refine xpc (q := 68) rfl ?_
    refine lv_aload_n hx hb dX4_adams_68 rfl (lv_at hl 1 rfl) ?_
    refine gX4 hx hb hg hown hI hP 0 rfl 6 rfl mF_X4_21 rfl dX4_adams_69 ?_
    refine lv_aload_n hx hb dX4_adams_72 rfl (lv_at hl 1 rfl) ?_
    refine gX4 hx hb hg hown hI hP 0 rfl 3 rfl mF_X4_9 rfl dX4_adams_73 ?_
    refine xcv (xV (As := [.double (FP.dadd t r), .ref aS, .ref a2]) (rest := []) hx hb hml hown hg (c_slopes l D cD cI cM cL hE aO aK aL aR σ aS a2 (FP.dadd t r) (mix (sn σ) (adp σ t y r g) vS) v2 56 hk.1 ((t2_bd hk hk.2.2.1).up (by decide)) (fun i hi => by rw [mix_lt hi]; exact adp_bd hk (hgb i hi) hi) (by decide)) mM_X4_60 ok_X0_slopes rfl rfl ⟨Nat.le_of_ble_eq_true rfl, Nat.le_of_ble_eq_true rfl⟩ hI hP hd rfl [1, 2, 3, 4, 5, 11, 8] rfl rfl rfl rfl rfl hl.1 rfl (Nat.le_of_ble_eq_true rfl) dX4_adams_76 ⟨Nat.zero_le _, Nat.zero_le _⟩) hP hd hS (fa1 pm0 fa0) [8] rfl rfl (fun _ => rfl) (fun _u H locs hu hP hS => ?_)
    have hP : va_P D vwCl [(hT, .inr (4, [.ref hE, .ref hX, .ref hY, .ref a2, .ref a3, .ref a4, .ref aS, .ref aY, .ref a1, .ref aZ, .double t, .double r, .double er])), (hE, .inr (0, [.ref aO, .ref aK, .ref aL, .ref aR, .int (nI (sn σ)), .int (nI (sc σ))])), (aO, iA cI 10 (so σ)), (aK, dA cD 10 (sk σ)), (aL, iA cI 10 (sl σ)), (aR, iA cI 10 (sr σ)), (aY, dA cD 3 y), (a1, dA cD 3 (mix (sn σ) (fs σ t y) v1)), (a2, dA cD 3 (mix (sn σ) (fs σ (FP.dadd t r) (mix (sn σ) (adp σ t y r g) vS)) v2)), (a3, dA cD 3 v3), (a4, dA cD 3 v4), (aS, dA cD 3 (mix (sn σ) (adp σ t y r g) vS)), (aZ, dA cD 3 vZ), (aG, dA cD 3 g)] H := hP
    have hP : va_P D vwCl [(hT, .inr (4, [.ref hE, .ref hX, .ref hY, .ref a2, .ref a3, .ref a4, .ref aS, .ref aY, .ref a1, .ref aZ, .double t, .double r, .double er])), (hE, .inr (0, [.ref aO, .ref aK, .ref aL, .ref aR, .int (nI (sn σ)), .int (nI (sc σ))])), (aO, iA cI 10 (so σ)), (aK, dA cD 10 (sk σ)), (aL, iA cI 10 (sl σ)), (aR, iA cI 10 (sr σ)), (aY, dA cD 3 y), (a1, dA cD 3 (mix (sn σ) (fs σ t y) v1)), (a2, dA cD 3 (mix (sn σ) (fs σ (FP.dadd t r) (adp σ t y r g)) v2)), (a3, dA cD 3 v3), (a4, dA cD 3 v4), (aS, dA cD 3 (mix (sn σ) (adp σ t y r g) vS)), (aZ, dA cD 3 vZ), (aG, dA cD 3 g)] H := by rw [← fs_mix (σ := σ) (t := FP.dadd t r) (g := adp σ t y r g) (f := vS) hn]; exact hP
    refine lv_iconst (v := nI 0) hx hb dX4_adams_79 (by decide) ?_
    refine lv_istore_n (lv' := [(2, .int (nI 0)), (0, .ref hT), (1, .ref aG)]) hx hb dX4_adams_80 rfl hl (by decide) rfl (fun ls hl => ?_)
    refine xfor (I := fun i H locs ls => ∃ (f' : Nat → UInt64), (f' = mix i (adz σ t y r g) vZ) ∧ va_P D vwCl [(hT, .inr (4, [.ref hE, .ref hX, .ref hY, .ref a2, .ref a3, .ref a4, .ref aS, .ref aY, .ref a1, .ref aZ, .double t, .double r, .double er])), (hE, .inr (0, [.ref aO, .ref aK, .ref aL, .ref aR, .int (nI (sn σ)), .int (nI (sc σ))])), (aO, iA cI 10 (so σ)), (aK, dA cD 10 (sk σ)), (aL, iA cI 10 (sl σ)), (aR, iA cI 10 (sr σ)), (aY, dA cD 3 y), (a1, dA cD 3 (mix (sn σ) (fs σ t y) v1)), (a2, dA cD 3 (mix (sn σ) (fs σ (FP.dadd t r) (adp σ t y r g)) v2)), (a3, dA cD 3 v3), (a4, dA cD 3 v4), (aS, dA cD 3 (mix (sn σ) (adp σ t y r g) vS)), (aZ, dA cD 3 f'), (aG, dA cD 3 g)] H ∧ va_S (fun q => q ∈ ([a2, a3, a4, aS, aZ] : List Nat)) s.heap H locs ∧ lv_has ls 3 [(2, .int (nI i)), (0, .ref hT), (1, .ref aG)]) (sn σ) 0 ⟨_, (mix_0 _ _).symm, hP, hS, lv_sub hl [0, 1, 2] rfl⟩ (Nat.zero_le _) ?_ ?_
    ·
      intro i h_i ih H locs ls ⟨f', hf, hP, hS, hl⟩
      refine lv_iload_n hx hb dX4_adams_81 rfl (lv_at hl 0 rfl) ?_
      refine lv_aload_n hx hb dX4_adams_82 rfl (lv_at hl 1 rfl) ?_
      refine gX4 hx hb hg hown hI hP 0 rfl 0 rfl mF_X4_30 rfl dX4_adams_83 ?_
      refine gX0 hx hb hg hown hI hP 1 rfl 4 rfl mF_X4_88 rfl dX4_adams_86 ?_
      refine lv_icmp_ge (tgt := 133) hx hb dX4_adams_89 (by decide) (fun c_89 => absurd c_89 (nI_ge h_i (by omega))) (fun c_89 => ?_)
      refine lv_aload_n hx hb dX4_adams_92 rfl (lv_at hl 1 rfl) ?_
      refine gX4 hx hb hg hown hI hP 0 rfl 9 rfl mF_X4_27 rfl dX4_adams_93 ?_
      refine lv_iload_n hx hb dX4_adams_96 rfl (lv_at hl 0 rfl) ?_
      refine lv_aload_n hx hb dX4_adams_97 rfl (lv_at hl 1 rfl) ?_
      refine xpc (q := 98) rfl ?_
      refine gX4 hx hb hg hown hI hP 0 rfl 7 rfl mF_X4_34 rfl dX4_adams_98 ?_
      refine lv_iload_n hx hb dX4_adams_101 rfl (lv_at hl 0 rfl) ?_
      refine xdald hx hb hI hP 6 0 rfl rfl (Nat.lt_of_lt_of_le h_i hn) (by decide) dX4_adams_102 ?_
      refine lv_ldc2d (v := k0_5) hx hb hown (hg _ mD_X4_98) dX4_adams_103 ?_
      refine lv_aload_n hx hb dX4_adams_106 rfl (lv_at hl 1 rfl) ?_
      refine gX4 hx hb hg hown hI hP 0 rfl 11 rfl mF_X4_57 rfl dX4_adams_107 ?_
      have b2 : bd 1 2 (FP.dmul k0_5 r) := bd_mul b_k0_5 hk.2.2.1 (by decide) (by decide)
      refine lv_dmul hx hb dX4_adams_110 b2.nn ?_
      refine lv_aload_n hx hb dX4_adams_111 rfl (lv_at hl 1 rfl) ?_
      refine gX4 hx hb hg hown hI hP 0 rfl 3 rfl mF_X4_9 rfl dX4_adams_112 ?_
      refine lv_iload_n hx hb dX4_adams_115 rfl (lv_at hl 0 rfl) ?_
      refine xdald hx hb hI hP 8 0 rfl rfl (Nat.lt_of_lt_of_le h_i hn) (by decide) dX4_adams_116 ?_
      refine xeqd (y := (fs σ (FP.dadd t r) (adp σ t y r g)) i) (mix_lt h_i) ?_
      refine lv_aload_n hx hb dX4_adams_117 rfl (lv_at hl 1 rfl) ?_
      refine gX4 hx hb hg hown hI hP 0 rfl 8 rfl mF_X4_24 rfl dX4_adams_118 ?_
      refine lv_iload_n hx hb dX4_adams_121 rfl (lv_at hl 0 rfl) ?_
      refine xpc (q := 122) rfl ?_
      refine xdald hx hb hI hP 7 0 rfl rfl (Nat.lt_of_lt_of_le h_i hn) (by decide) dX4_adams_122 ?_
      refine xeqd (y := (fs σ t y) i) (mix_lt h_i) ?_
      have b3 : bd 1 123 (FP.dadd ((fs σ (FP.dadd t r) (adp σ t y r g)) i) ((fs σ t y) i)) := bd_add (adf_bd (i := i) hk hgb) (f0_bd (i := i) hk) (by decide) (by decide) (by decide)
      refine lv_dadd hx hb dX4_adams_123 b3.nn ?_
      have b4 : bd 1 125 (FP.dmul (FP.dmul k0_5 r) (FP.dadd ((fs σ (FP.dadd t r) (adp σ t y r g)) i) ((fs σ t y) i))) := bd_mul b2 b3 (by decide) (by decide)
      refine lv_dmul hx hb dX4_adams_124 b4.nn ?_
      have b5 : bd 1 126 (FP.dadd (y i) (FP.dmul (FP.dmul k0_5 r) (FP.dadd ((fs σ (FP.dadd t r) (adp σ t y r g)) i) ((fs σ t y) i)))) := bd_add (hk.2.2.2 i h_i) b4 (by decide) (by decide) (by decide)
      refine lv_dadd hx hb dX4_adams_125 b5.nn ?_
      refine xdast hx hb hI hP hd rfl hS 12 0 rfl rfl (Nat.lt_of_lt_of_le h_i hn) (by decide) (pmS (pmS (pmS (pmS pm0)))) dX4_adams_126 (fun H locs hP hS => ?_)
      have hP : va_P D vwCl [(hT, .inr (4, [.ref hE, .ref hX, .ref hY, .ref a2, .ref a3, .ref a4, .ref aS, .ref aY, .ref a1, .ref aZ, .double t, .double r, .double er])), (hE, .inr (0, [.ref aO, .ref aK, .ref aL, .ref aR, .int (nI (sn σ)), .int (nI (sc σ))])), (aO, iA cI 10 (so σ)), (aK, dA cD 10 (sk σ)), (aL, iA cI 10 (sl σ)), (aR, iA cI 10 (sr σ)), (aY, dA cD 3 y), (a1, dA cD 3 (mix (sn σ) (fs σ t y) v1)), (a2, dA cD 3 (mix (sn σ) (fs σ (FP.dadd t r) (adp σ t y r g)) v2)), (a3, dA cD 3 v3), (a4, dA cD 3 v4), (aS, dA cD 3 (mix (sn σ) (adp σ t y r g) vS)), (aZ, dA cD 3 (vf_upd f' i (FP.dadd (y i) (FP.dmul (FP.dmul k0_5 r) (FP.dadd ((fs σ (FP.dadd t r) (adp σ t y r g)) i) ((fs σ t y) i)))))), (aG, dA cD 3 g)] H := hP
      refine lv_iinc (v := nI (i + 1)) (lv' := [(2, .int (nI (i + 1))), (0, .ref hT), (1, .ref aG)]) hx hb dX4_adams_127 hl (k := 0) rfl (nI_1 i) (by decide) rfl (fun ls hl => ?_)
      refine lv_goto (tgt := 81) hx hb dX4_adams_130 (by decide) ?_
      exact ih _ _ _ ⟨_, mix_s hf rfl, hP, hS, lv_sub hl [0, 1, 2] rfl⟩
    ·
      intro H locs ls ⟨f', hf, hP, hS, hl⟩
      refine lv_iload_n hx hb dX4_adams_81 rfl (lv_at hl 0 rfl) ?_
      refine lv_aload_n hx hb dX4_adams_82 rfl (lv_at hl 1 rfl) ?_
      refine gX4 hx hb hg hown hI hP 0 rfl 0 rfl mF_X4_30 rfl dX4_adams_83 ?_
      refine gX0 hx hb hg hown hI hP 1 rfl 4 rfl mF_X4_88 rfl dX4_adams_86 ?_
      refine lv_icmp_ge (tgt := 133) hx hb dX4_adams_89 (by decide) (fun c_89 => ?_) (fun c_89 => absurd (Int32.le_refl _) c_89)
      subst hf
      exact W.vret hx hb hr (fun tS hTS hWS => ⟨(mix (sn σ) (fs σ (FP.dadd t r) (adp σ t y r g)) v2, v3, v4, mix (sn σ) (adp σ t y r g) vS), rfl, trivial, by rw [hTS]; exact hP.sub [8, 9, 10, 11, 12] rfl, hS.F hTS⟩) hS.2.2 dX4_adams_133
