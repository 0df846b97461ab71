set_option maxHeartbeats 4000000 in
set_option maxRecDepth 100000 in
theorem c_setRest (l : Launch) (D : va_G) (cD cI cM cL : ClassId) (hX hE aM aQ aD : Nat) (mr : Nat → Nat) (rw : Nat → Option Nat) (aO aK aL aR aY aZ : Nat) (σ : Sys) (e0 r : UInt64) (y Zc z R : Nat → UInt64) (hk : okim σ e0 r y z) (hz : agV (sn σ) Zc z) : Met l yX1_setRest (Cond.code yX1_setRest cX1_setRest 8 none :: lw_good) { frames := 2, cells := 0, slots := 0, locals := 50 } (xPc D (tyL cD cI cM cL) [.ref hX, .double e0, .double r, .ref aY, .ref aZ] [(hX, .inr (1, [.ref hE, .ref aM, .ref aQ, .ref aD])), (hE, .inr (0, [.ref aO, .ref aK, .ref aL, .ref aR, .int (nI (sn σ)), .int (nI (sc σ))])), (aO, iA cI 10 (so σ)), (aK, dA cD 10 (sk σ)), (aL, iA cI 10 (sl σ)), (aR, iA cI 10 (sr σ)), (aY, dA cD 3 y), (aZ, dA cD 3 Zc), (aQ, dA cD 3 R)]) (xQ D [aQ] (fun (_ : Unit) => none) (fun (_ : Unit) => True) (fun (_ : Unit) => [(aQ, dA cD 3 (mix (sn σ) (srG σ e0 r y z) R))])) 0 0 (fun q => q ∈ ([aQ] : List Nat)) := by
  refine xofW (adr := [aQ]) (by decide) (Nat.le_of_ble_eq_true rfl) ?_
  intro p e s m below meth c ls hx hb hr hml hg hown hlk hI hP hd hS hl
  have hown : s.vm.findClass RX1 = some m.cls := hown
  have hd : dj [hX, hE, aO, aK, aL, aR, aY, aZ, aQ] := hd
  have hl : lv_has ls 8 [(0, .ref hX), (1, .double e0), (3, .double r), (5, .ref aY), (6, .ref aZ)] := hl
  have hn : sn σ ≤ 3 := hk.1.2.1
  refine lv_aload_n hx hb dX1_setRest_0 rfl (lv_at hl 0 rfl) ?_
  refine gX1 hx hb hg hown hI hP 0 rfl 0 rfl mF_X1_23 rfl dX1_setRest_1 ?_
  refine lv_dload_n hx hb dX1_setRest_4 rfl (lv_at hl 1 rfl) ?_
  refine lv_aload hx hb dX1_setRest_5 (lv_at hl 4 rfl) ?_
  refine lv_aload_n hx hb dX1_setRest_7 rfl (lv_at hl 0 rfl) ?_
  refine gX1 hx hb hg hown hI hP 0 rfl 2 rfl mF_X1_16 rfl dX1_setRest_8 ?_
  refine xcv (xV (As := [.double e0, .ref aZ, .ref aQ]) (rest := []) hx hb hml hown hg (c_slopes l D cD cI cM cL hE aO aK aL aR σ aZ aQ e0 Zc R 30 hk.1 (hk.2.1.up (by decide)) (fun i hi => by rw [hz i hi]; exact hk.2.2.2.2 i hi) (by decide)) mM_X1_57 ok_X0_slopes rfl rfl ⟨Nat.le_of_ble_eq_true rfl, Nat.le_of_ble_eq_true rfl⟩ hI hP hd rfl [1, 2, 3, 4, 5, 7, 8] rfl rfl rfl rfl rfl hl.1 rfl (Nat.le_of_ble_eq_true rfl) dX1_setRest_11 ⟨Nat.zero_le _, Nat.zero_le _⟩) hP hd hS (fa1 pm0 fa0) [8] rfl rfl (fun _ => rfl) (fun _u H locs hu hP hS => ?_)
  have hP : va_P D vwCl [(hX, .inr (1, [.ref hE, .ref aM, .ref aQ, .ref aD])), (hE, .inr (0, [.ref aO, .ref aK, .ref aL, .ref aR, .int (nI (sn σ)), .int (nI (sc σ))])), (aO, iA cI 10 (so σ)), (aK, dA cD 10 (sk σ)), (aL, iA cI 10 (sl σ)), (aR, iA cI 10 (sr σ)), (aY, dA cD 3 y), (aZ, dA cD 3 Zc), (aQ, dA cD 3 (mix (sn σ) (fs σ e0 Zc) R))] H := hP
  have hP : va_P D vwCl [(hX, .inr (1, [.ref hE, .ref aM, .ref aQ, .ref aD])), (hE, .inr (0, [.ref aO, .ref aK, .ref aL, .ref aR, .int (nI (sn σ)), .int (nI (sc σ))])), (aO, iA cI 10 (so σ)), (aK, dA cD 10 (sk σ)), (aL, iA cI 10 (sl σ)), (aR, iA cI 10 (sr σ)), (aY, dA cD 3 y), (aZ, dA cD 3 Zc), (aQ, dA cD 3 (mix (sn σ) (fs σ e0 z) R))] H := by rw [← fs_ag (σ := σ) (t := e0) (y := Zc) (y' := z) hn hz]; exact hP
  refine lv_iconst (v := nI 0) hx hb dX1_setRest_14 (by decide) ?_
  refine lv_istore (lv' := [(7, .int (nI 0)), (0, .ref hX), (1, .double e0), (3, .double r), (5, .ref aY), (6, .ref aZ)]) hx hb dX1_setRest_15 hl (by decide) rfl (fun ls hl => ?_)
  refine xfor (I := fun i H locs ls => ∃ (f' : Nat → UInt64), (f' = mix i (srG σ e0 r y z) (mix (sn σ) (fs σ e0 z) R)) ∧ va_P D vwCl [(hX, .inr (1, [.ref hE, .ref aM, .ref aQ, .ref aD])), (hE, .inr (0, [.ref aO, .ref aK, .ref aL, .ref aR, .int (nI (sn σ)), .int (nI (sc σ))])), (aO, iA cI 10 (so σ)), (aK, dA cD 10 (sk σ)), (aL, iA cI 10 (sl σ)), (aR, iA cI 10 (sr σ)), (aY, dA cD 3 y), (aZ, dA cD 3 Zc), (aQ, dA cD 3 f')] H ∧ va_S (fun q => q ∈ ([aQ] : List Nat)) s.heap H locs ∧ lv_has ls 8 [(7, .int (nI i)), (0, .ref hX), (1, .double e0), (3, .double r), (5, .ref aY), (6, .ref aZ)]) (sn σ) 0 ⟨_, (mix_0 _ _).symm, hP, hS, lv_sub hl [0, 1, 2, 3, 4, 5] rfl⟩ (Nat.zero_le _) ?_ ?_
  ·
    intro i h_i ih H locs ls ⟨f', hf, hP, hS, hl⟩
    refine lv_iload hx hb dX1_setRest_17 (lv_at hl 0 rfl) ?_
    refine lv_aload_n hx hb dX1_setRest_19 rfl (lv_at hl 1 rfl) ?_
    refine gX1 hx hb hg hown hI hP 0 rfl 0 rfl mF_X1_23 rfl dX1_setRest_20 ?_
    refine gX0 hx hb hg hown hI hP 1 rfl 4 rfl mF_X1_27 rfl dX1_setRest_23 ?_
    refine lv_icmp_ge (tgt := 63) hx hb dX1_setRest_26 (by decide) (fun c_26 => absurd c_26 (nI_ge h_i (by omega))) (fun c_26 => ?_)
    refine lv_aload_n hx hb dX1_setRest_29 rfl (lv_at hl 1 rfl) ?_
    refine xpc (q := 30) rfl ?_
    refine gX1 hx hb hg hown hI hP 0 rfl 2 rfl mF_X1_16 rfl dX1_setRest_30 ?_
    refine lv_iload hx hb dX1_setRest_33 (lv_at hl 0 rfl) ?_
    refine lv_aload hx hb dX1_setRest_35 (lv_at hl 5 rfl) ?_
    refine lv_iload hx hb dX1_setRest_37 (lv_at hl 0 rfl) ?_
    refine xdald hx hb hI hP 7 0 rfl rfl (Nat.lt_of_lt_of_le h_i hn) (by decide) dX1_setRest_39 ?_
    refine xeqd (y := z i) (hz i h_i) ?_
    refine lv_aload hx hb dX1_setRest_40 (lv_at hl 4 rfl) ?_
    refine lv_iload hx hb dX1_setRest_42 (lv_at hl 0 rfl) ?_
    refine xdald hx hb hI hP 6 0 rfl rfl (Nat.lt_of_lt_of_le h_i hn) (by decide) dX1_setRest_44 ?_
    have b1 : bd 1 31 (FP.dsub (z i) (y i)) := bd_sub (hk.2.2.2.2 i h_i) (hk.2.2.2.1 i h_i) (by decide) (by decide) (by decide)
    refine lv_dsub hx hb dX1_setRest_45 b1.nn ?_
    refine lv_dload_n hx hb dX1_setRest_46 rfl (lv_at hl 3 rfl) ?_
    refine lv_aload_n hx hb dX1_setRest_47 rfl (lv_at hl 1 rfl) ?_
    refine gX1 hx hb hg hown hI hP 0 rfl 2 rfl mF_X1_16 rfl dX1_setRest_48 ?_
    refine lv_iload hx hb dX1_setRest_51 (lv_at hl 0 rfl) ?_
    refine xdald hx hb hI hP 8 0 rfl rfl (Nat.lt_of_lt_of_le h_i hn) (by decide) dX1_setRest_53 ?_
    refine xeqd (y := (fs σ e0 z) i) (show f' i = fs σ e0 z i by rw [hf, mix_ge (Nat.le_refl _), mix_lt h_i]) ?_
    refine xpc (q := 54) rfl ?_
    have b2 : bd 1 72 (FP.dmul r ((fs σ e0 z) i)) := bd_mul hk.2.2.1 (imf_bd (i := i) hk) (by decide) (by decide)
    refine lv_dmul hx hb dX1_setRest_54 b2.nn ?_
    have b3 : bd 1 73 (FP.dsub (FP.dsub (z i) (y i)) (FP.dmul r ((fs σ e0 z) i))) := bd_sub b1 b2 (by decide) (by decide) (by decide)
    refine lv_dsub hx hb dX1_setRest_55 b3.nn ?_
    refine xdast hx hb hI hP hd rfl hS 8 0 rfl rfl (Nat.lt_of_lt_of_le h_i hn) (by decide) pm0 dX1_setRest_56 (fun H locs hP hS => ?_)
    have hP : va_P D vwCl [(hX, .inr (1, [.ref hE, .ref aM, .ref aQ, .ref aD])), (hE, .inr (0, [.ref aO, .ref aK, .ref aL, .ref aR, .int (nI (sn σ)), .int (nI (sc σ))])), (aO, iA cI 10 (so σ)), (aK, dA cD 10 (sk σ)), (aL, iA cI 10 (sl σ)), (aR, iA cI 10 (sr σ)), (aY, dA cD 3 y), (aZ, dA cD 3 Zc), (aQ, dA cD 3 (vf_upd f' i (FP.dsub (FP.dsub (z i) (y i)) (FP.dmul r ((fs σ e0 z) i)))))] H := hP
    refine lv_iinc (v := nI (i + 1)) (lv' := [(7, .int (nI (i + 1))), (0, .ref hX), (1, .double e0), (3, .double r), (5, .ref aY), (6, .ref aZ)]) hx hb dX1_setRest_57 hl (k := 0) rfl (nI_1 i) (by decide) rfl (fun ls hl => ?_)
    refine lv_goto (tgt := 17) hx hb dX1_setRest_60 (by decide) ?_
    exact ih _ _ _ ⟨_, mix_s hf rfl, hP, hS, lv_sub hl [0, 1, 2, 3, 4, 5] rfl⟩
  ·
    intro H locs ls ⟨f', hf, hP, hS, hl⟩
    refine lv_iload hx hb dX1_setRest_17 (lv_at hl 0 rfl) ?_
    refine lv_aload_n hx hb dX1_setRest_19 rfl (lv_at hl 1 rfl) ?_
    refine gX1 hx hb hg hown hI hP 0 rfl 0 rfl mF_X1_23 rfl dX1_setRest_20 ?_
    refine gX0 hx hb hg hown hI hP 1 rfl 4 rfl mF_X1_27 rfl dX1_setRest_23 ?_
    refine lv_icmp_ge (tgt := 63) hx hb dX1_setRest_26 (by decide) (fun c_26 => ?_) (fun c_26 => absurd (Int32.le_refl _) c_26)
    rw [mix_mix] at hf
    subst hf
    exact W.vret hx hb hr (fun tS hTS hWS => ⟨(), rfl, trivial, by rw [hTS]; exact hP.sub [8] rfl, hS.F hTS⟩) hS.2.2 dX1_setRest_63

set_option maxHeartbeats 4000000 in
set_option maxRecDepth 100000 in
theorem c_setMatrix (l : Launch) (D : va_G) (cD cI cM cL : ClassId) (hX hE aM aQ aD : Nat) (mr : Nat → Nat) (rw : Nat → Option Nat) (aO aK aL aR aY aZ : Nat) (σ : Sys) (e0 r : UInt64) (y Zc z : Nat → UInt64) (M : Nat → Nat → UInt64) (hrw : ∀ i, i < 3 → rw i = some (mr i)) (hk : okim σ e0 r y z) (hz : agV (sn σ) Zc z) : Met l yX1_setMatrix (Cond.code yX1_setMatrix cX1_setMatrix 10 none :: lw_good) { frames := 2, cells := 0, slots := 0, locals := 52 } (xPc D (tyL cD cI cM cL) [.ref hX, .double e0, .double r, .ref aZ] [(hX, .inr (1, [.ref hE, .ref aM, .ref aQ, .ref aD])), (hE, .inr (0, [.ref aO, .ref aK, .ref aL, .ref aR, .int (nI (sn σ)), .int (nI (sc σ))])), (aO, iA cI 10 (so σ)), (aK, dA cD 10 (sk σ)), (aL, iA cI 10 (sl σ)), (aR, iA cI 10 (sr σ)), (aZ, dA cD 3 Zc), (aM, rA cM 3 rw), (mr 0, dA cD 3 (M 0)), (mr 1, dA cD 3 (M 1)), (mr 2, dA cD 3 (M 2))]) (xQ D [mr 0, mr 1, mr 2] (fun (u : Nat → Nat → UInt64) => none) (fun (u : Nat → Nat → UInt64) => agM (sn σ) u (smG σ e0 r z)) (fun (u : Nat → Nat → UInt64) => [(mr 0, dA cD 3 (u 0)), (mr 1, dA cD 3 (u 1)), (mr 2, dA cD 3 (u 2))])) 0 0 (fun q => q ∈ ([mr 0, mr 1, mr 2] : List Nat)) := by
  refine xofW (adr := [mr 0, mr 1, mr 2]) (by decide) (Nat.le_of_ble_eq_true rfl) ?_
  intro p e s m below meth c ls hx hb hr hml hg hown hlk hI hP hd hS hl
  have hown : s.vm.findClass RX1 = some m.cls := hown
  have hd : dj [hX, hE, aO, aK, aL, aR, aZ, aM, mr 0, mr 1, mr 2] := hd
  have hl : lv_has ls 10 [(0, .ref hX), (1, .double e0), (3, .double r), (5, .ref aZ)] := hl
  have hn : sn σ ≤ 3 := hk.1.2.1
  refine lv_iconst (v := nI 0) hx hb dX1_setMatrix_0 (by decide) ?_
  refine lv_istore (lv' := [(6, .int (nI 0)), (0, .ref hX), (1, .double e0), (3, .double r), (5, .ref aZ)]) hx hb dX1_setMatrix_1 hl (by decide) rfl (fun ls hl => ?_)
  refine xfor (I := fun i H locs ls => ∃ (M1 : Nat → Nat → UInt64), (∀ a b, a < sn σ → b < sn σ → a < i → M1 a b = smG σ e0 r z a b) ∧ va_P D vwCl [(hX, .inr (1, [.ref hE, .ref aM, .ref aQ, .ref aD])), (hE, .inr (0, [.ref aO, .ref aK, .ref aL, .ref aR, .int (nI (sn σ)), .int (nI (sc σ))])), (aO, iA cI 10 (so σ)), (aK, dA cD 10 (sk σ)), (aL, iA cI 10 (sl σ)), (aR, iA cI 10 (sr σ)), (aZ, dA cD 3 Zc), (aM, rA cM 3 rw), (mr 0, dA cD 3 (M1 0)), (mr 1, dA cD 3 (M1 1)), (mr 2, dA cD 3 (M1 2))] H ∧ va_S (fun q => q ∈ ([mr 0, mr 1, mr 2] : List Nat)) s.heap H locs ∧ lv_has ls 10 [(6, .int (nI i)), (0, .ref hX), (1, .double e0), (3, .double r), (5, .ref aZ)]) (sn σ) 0 ⟨_, (fun a b ha hb h => absurd h (Nat.not_lt_zero _)), hP, hS, lv_sub hl [0, 1, 2, 3, 4] rfl⟩ (Nat.zero_le _) ?_ ?_
  ·
    intro i h_i ih H locs ls ⟨M1, hm, hP, hS, hl⟩
    refine lv_iload hx hb dX1_setMatrix_3 (lv_at hl 0 rfl) ?_
    refine lv_aload_n hx hb dX1_setMatrix_5 rfl (lv_at hl 1 rfl) ?_
    refine gX1 hx hb hg hown hI hP 0 rfl 0 rfl mF_X1_23 rfl dX1_setMatrix_6 ?_
    refine gX0 hx hb hg hown hI hP 1 rfl 4 rfl mF_X1_27 rfl dX1_setMatrix_9 ?_
    refine lv_icmp_ge (tgt := 85) hx hb dX1_setMatrix_12 (by decide) (fun c_12 => absurd c_12 (nI_ge h_i (by omega))) (fun c_12 => ?_)
    refine lv_iconst (v := nI 0) hx hb dX1_setMatrix_15 (by decide) ?_
    refine lv_istore (lv' := [(7, .int (nI 0)), (6, .int (nI i)), (0, .ref hX), (1, .double e0), (3, .double r), (5, .ref aZ)]) hx hb dX1_setMatrix_16 hl (by decide) rfl (fun ls hl => ?_)
    refine xfor (I := fun j H locs ls => ∃ (M2 : Nat → Nat → UInt64), (∀ a b, a < sn σ → b < sn σ → (a < i ∨ a = i ∧ b < j) → M2 a b = smG σ e0 r z a b) ∧ va_P D vwCl [(hX, .inr (1, [.ref hE, .ref aM, .ref aQ, .ref aD])), (hE, .inr (0, [.ref aO, .ref aK, .ref aL, .ref aR, .int (nI (sn σ)), .int (nI (sc σ))])), (aO, iA cI 10 (so σ)), (aK, dA cD 10 (sk σ)), (aL, iA cI 10 (sl σ)), (aR, iA cI 10 (sr σ)), (aZ, dA cD 3 Zc), (aM, rA cM 3 rw), (mr 0, dA cD 3 (M2 0)), (mr 1, dA cD 3 (M2 1)), (mr 2, dA cD 3 (M2 2))] H ∧ va_S (fun q => q ∈ ([mr 0, mr 1, mr 2] : List Nat)) s.heap H locs ∧ lv_has ls 10 [(7, .int (nI j)), (6, .int (nI i)), (0, .ref hX), (1, .double e0), (3, .double r), (5, .ref aZ)]) (sn σ) 0 ⟨_, (fun a b ha hb h => hm a b ha hb (by omega)), hP, hS, lv_sub hl [0, 1, 2, 3, 4, 5] rfl⟩ (Nat.zero_le _) ?_ ?_
    ·
      intro j h_j ih2 H locs ls ⟨M2, hm2, hP, hS, hl⟩
      refine lv_iload hx hb dX1_setMatrix_18 (lv_at hl 0 rfl) ?_
      refine lv_aload_n hx hb dX1_setMatrix_20 rfl (lv_at hl 2 rfl) ?_
      refine gX1 hx hb hg hown hI hP 0 rfl 0 rfl mF_X1_23 rfl dX1_setMatrix_21 ?_
      refine gX0 hx hb hg hown hI hP 1 rfl 4 rfl mF_X1_27 rfl dX1_setMatrix_24 ?_
      refine lv_icmp_ge (tgt := 79) hx hb dX1_setMatrix_27 (by decide) (fun c_27 => absurd c_27 (nI_ge h_j (by omega))) (fun c_27 => ?_)
      refine lv_iload hx hb dX1_setMatrix_30 (lv_at hl 1 rfl) ?_
      refine xpc (q := 32) rfl ?_
      refine lv_iload hx hb dX1_setMatrix_32 (lv_at hl 0 rfl) ?_
      refine lv_icmp_ne (tgt := 41) hx hb dX1_setMatrix_34 (by decide) (fun c_34 => ?_) (fun c_34 => ?_)
      ·
        refine lv_dconst0 hx hb dX1_setMatrix_41 ?_
        refine lv_dstore (lv' := [(8, .double FP.dconst0), (7, .int (nI j)), (6, .int (nI i)), (0, .ref hX), (1, .double e0), (3, .double r), (5, .ref aZ)]) hx hb dX1_setMatrix_42 hl (by decide) rfl (fun ls hl => ?_)
        refine lv_aload_n hx hb dX1_setMatrix_44 rfl (lv_at hl 3 rfl) ?_
        refine gX1 hx hb hg hown hI hP 0 rfl 1 rfl mF_X1_11 rfl dX1_setMatrix_45 ?_
        refine lv_iload hx hb dX1_setMatrix_48 (lv_at hl 2 rfl) ?_
        refine xaald hx hb hI hP 7 2 rfl rfl (Nat.lt_of_lt_of_le h_i hn) (by decide) (hrw i (Nat.lt_of_lt_of_le h_i hn)) dX1_setMatrix_50 ?_
        refine lv_iload hx hb dX1_setMatrix_51 (lv_at hl 1 rfl) ?_
        refine lv_dload hx hb dX1_setMatrix_53 (lv_at hl 0 rfl) ?_
        refine lv_dload_n hx hb dX1_setMatrix_55 rfl (lv_at hl 5 rfl) ?_
        refine lv_aload_n hx hb dX1_setMatrix_56 rfl (lv_at hl 3 rfl) ?_
        refine gX1 hx hb hg hown hI hP 0 rfl 0 rfl mF_X1_23 rfl dX1_setMatrix_57 ?_
        refine lv_iload hx hb dX1_setMatrix_60 (lv_at hl 2 rfl) ?_
        refine lv_iload hx hb dX1_setMatrix_62 (lv_at hl 1 rfl) ?_
        refine xpc (q := 64) rfl ?_
        refine lv_dload_n hx hb dX1_setMatrix_64 rfl (lv_at hl 4 rfl) ?_
        refine lv_aload hx hb dX1_setMatrix_65 (lv_at hl 6 rfl) ?_
        refine xcd (xV (As := [.int (nI i), .int (nI j), .double e0, .ref aZ]) (rest := [.double r, .double FP.dconst0, .int (nI j), .ref (mr i)]) hx hb hml hown hg (c_slopeBy l D cD cI cM cL hE aO aK aL aR σ aZ i j e0 Zc 30 hk.1 (hk.2.1.up (by decide)) (fun i hi => by rw [hz i hi]; exact hk.2.2.2.2 i hi) (by decide)) mM_X1_61 ok_X0_slopeBy rfl rfl ⟨Nat.le_of_ble_eq_true rfl, Nat.le_of_ble_eq_true rfl⟩ hI hP hd rfl [1, 2, 3, 4, 5, 6] rfl rfl rfl rfl rfl hl.1 rfl (Nat.le_of_ble_eq_true rfl) dX1_setMatrix_67 ⟨Nat.zero_le _, Nat.zero_le _⟩) hP hd hS fa0 [] rfl rfl (fun _ => rfl) (fun _u H locs hu hP hS => ?_)
        have hP : va_P D vwCl [(hX, .inr (1, [.ref hE, .ref aM, .ref aQ, .ref aD])), (hE, .inr (0, [.ref aO, .ref aK, .ref aL, .ref aR, .int (nI (sn σ)), .int (nI (sc σ))])), (aO, iA cI 10 (so σ)), (aK, dA cD 10 (sk σ)), (aL, iA cI 10 (sl σ)), (aR, iA cI 10 (sr σ)), (aZ, dA cD 3 Zc), (aM, rA cM 3 rw), (mr 0, dA cD 3 (M2 0)), (mr 1, dA cD 3 (M2 1)), (mr 2, dA cD 3 (M2 2))] H := hP
        refine xeqd (y := js σ e0 z i j) (js_ag hn hz) ?_
        refine lv_dmul hx hb dX1_setMatrix_70 ((sm1_bd (i := i) (j := j) hk).nn) ?_
        have hsm := sm_bd (i := i) (j := j) hk
        unfold smG at hsm
        rw [if_neg (fun h => c_34 (by rw [h]))] at hsm
        refine lv_dsub hx hb dX1_setMatrix_71 hsm.nn ?_
        refine xdast hx hb hI hP hd rfl hS (8 + i) 0 (rw3 (a := mr) (M := M2) (Nat.lt_of_lt_of_le h_i hn) rfl rfl rfl) rfl (Nat.lt_of_lt_of_le h_j hn) (by decide) (rq3 (A := fun q => q ∈ ([mr 0, mr 1, mr 2] : List Nat)) (a := mr) (Nat.lt_of_lt_of_le h_i hn) pm0 (pmS pm0) (pmS (pmS pm0))) dX1_setMatrix_72 (fun H locs hP hS => ?_)
        have hP : va_P D vwCl [(hX, .inr (1, [.ref hE, .ref aM, .ref aQ, .ref aD])), (hE, .inr (0, [.ref aO, .ref aK, .ref aL, .ref aR, .int (nI (sn σ)), .int (nI (sc σ))])), (aO, iA cI 10 (so σ)), (aK, dA cD 10 (sk σ)), (aL, iA cI 10 (sl σ)), (aR, iA cI 10 (sr σ)), (aZ, dA cD 3 Zc), (aM, rA cM 3 rw), (mr 0, dA cD 3 ((u2 M2 i j (FP.dsub FP.dconst0 (FP.dmul r (js σ e0 z i j)))) 0)), (mr 1, dA cD 3 ((u2 M2 i j (FP.dsub FP.dconst0 (FP.dmul r (js σ e0 z i j)))) 1)), (mr 2, dA cD 3 ((u2 M2 i j (FP.dsub FP.dconst0 (FP.dmul r (js σ e0 z i j)))) 2))] H := by rcases (show i = 0 ∨ i = 1 ∨ i = 2 by have := (Nat.lt_of_lt_of_le h_i hn); omega) with rfl | rfl | rfl <;> exact hP
        refine lv_iinc (v := nI (j + 1)) (lv' := [(7, .int (nI (j + 1))), (8, .double FP.dconst0), (6, .int (nI i)), (0, .ref hX), (1, .double e0), (3, .double r), (5, .ref aZ)]) hx hb dX1_setMatrix_73 hl (k := 1) rfl (nI_1 j) (by decide) rfl (fun ls hl => ?_)
        refine lv_goto (tgt := 18) hx hb dX1_setMatrix_76 (by decide) ?_
        have hm' : ∀ a b, a < sn σ → b < sn σ → (a < i ∨ a = i ∧ b < j + 1) → u2 M2 i j (FP.dsub FP.dconst0 (FP.dmul r (js σ e0 z i j))) a b = smG σ e0 r z a b := by
          intro a b ha hb h
          by_cases h2 : a = i ∧ b = j
          · obtain ⟨rfl, rfl⟩ := h2
            rw [u2_s]
            unfold smG
            rw [if_neg (fun h => c_34 (by rw [h]))]
          · rw [u2_n h2]
            exact hm2 a b ha hb (by omega)
        exact ih2 _ _ _ ⟨_, hm', hP, hS, lv_sub hl [0, 2, 3, 4, 5, 6] rfl⟩
      ·
        have hij : i = j := (nI_eq (by omega) (by omega)).mp c_34
        refine lv_dconst1 hx hb dX1_setMatrix_37 ?_
        refine lv_goto (tgt := 42) hx hb dX1_setMatrix_38 (by decide) ?_
        refine lv_dstore (lv' := [(8, .double FP.dconst1), (7, .int (nI j)), (6, .int (nI i)), (0, .ref hX), (1, .double e0), (3, .double r), (5, .ref aZ)]) hx hb dX1_setMatrix_42 hl (by decide) rfl (fun ls hl => ?_)
        refine lv_aload_n hx hb dX1_setMatrix_44 rfl (lv_at hl 3 rfl) ?_
        refine gX1 hx hb hg hown hI hP 0 rfl 1 rfl mF_X1_11 rfl dX1_setMatrix_45 ?_
        refine lv_iload hx hb dX1_setMatrix_48 (lv_at hl 2 rfl) ?_
        refine xaald hx hb hI hP 7 2 rfl rfl (Nat.lt_of_lt_of_le h_i hn) (by decide) (hrw i (Nat.lt_of_lt_of_le h_i hn)) dX1_setMatrix_50 ?_
        refine lv_iload hx hb dX1_setMatrix_51 (lv_at hl 1 rfl) ?_
        refine lv_dload hx hb dX1_setMatrix_53 (lv_at hl 0 rfl) ?_
        refine lv_dload_n hx hb dX1_setMatrix_55 rfl (lv_at hl 5 rfl) ?_
        refine lv_aload_n hx hb dX1_setMatrix_56 rfl (lv_at hl 3 rfl) ?_
        refine gX1 hx hb hg hown hI hP 0 rfl 0 rfl mF_X1_23 rfl dX1_setMatrix_57 ?_
        refine lv_iload hx hb dX1_setMatrix_60 (lv_at hl 2 rfl) ?_
        refine xpc (q := 62) rfl ?_
        refine lv_iload hx hb dX1_setMatrix_62 (lv_at hl 1 rfl) ?_
        refine lv_dload_n hx hb dX1_setMatrix_64 rfl (lv_at hl 4 rfl) ?_
        refine lv_aload hx hb dX1_setMatrix_65 (lv_at hl 6 rfl) ?_
        refine xcd (xV (As := [.int (nI i), .int (nI j), .double e0, .ref aZ]) (rest := [.double r, .double FP.dconst1, .int (nI j), .ref (mr i)]) hx hb hml hown hg (c_slopeBy l D cD cI cM cL hE aO aK aL aR σ aZ i j e0 Zc 30 hk.1 (hk.2.1.up (by decide)) (fun i hi => by rw [hz i hi]; exact hk.2.2.2.2 i hi) (by decide)) mM_X1_61 ok_X0_slopeBy rfl rfl ⟨Nat.le_of_ble_eq_true rfl, Nat.le_of_ble_eq_true rfl⟩ hI hP hd rfl [1, 2, 3, 4, 5, 6] rfl rfl rfl rfl rfl hl.1 rfl (Nat.le_of_ble_eq_true rfl) dX1_setMatrix_67 ⟨Nat.zero_le _, Nat.zero_le _⟩) hP hd hS fa0 [] rfl rfl (fun _ => rfl) (fun _u H locs hu hP hS => ?_)
        have hP : va_P D vwCl [(hX, .inr (1, [.ref hE, .ref aM, .ref aQ, .ref aD])), (hE, .inr (0, [.ref aO, .ref aK, .ref aL, .ref aR, .int (nI (sn σ)), .int (nI (sc σ))])), (aO, iA cI 10 (so σ)), (aK, dA cD 10 (sk σ)), (aL, iA cI 10 (sl σ)), (aR, iA cI 10 (sr σ)), (aZ, dA cD 3 Zc), (aM, rA cM 3 rw), (mr 0, dA cD 3 (M2 0)), (mr 1, dA cD 3 (M2 1)), (mr 2, dA cD 3 (M2 2))] H := hP
        refine xeqd (y := js σ e0 z i j) (js_ag hn hz) ?_
        refine lv_dmul hx hb dX1_setMatrix_70 ((sm1_bd (i := i) (j := j) hk).nn) ?_
        have hsm := sm_bd (i := i) (j := j) hk
        unfold smG at hsm
        rw [if_pos hij] at hsm
        refine lv_dsub hx hb dX1_setMatrix_71 hsm.nn ?_
        refine xdast hx hb hI hP hd rfl hS (8 + i) 0 (rw3 (a := mr) (M := M2) (Nat.lt_of_lt_of_le h_i hn) rfl rfl rfl) rfl (Nat.lt_of_lt_of_le h_j hn) (by decide) (rq3 (A := fun q => q ∈ ([mr 0, mr 1, mr 2] : List Nat)) (a := mr) (Nat.lt_of_lt_of_le h_i hn) pm0 (pmS pm0) (pmS (pmS pm0))) dX1_setMatrix_72 (fun H locs hP hS => ?_)
        have hP : va_P D vwCl [(hX, .inr (1, [.ref hE, .ref aM, .ref aQ, .ref aD])), (hE, .inr (0, [.ref aO, .ref aK, .ref aL, .ref aR, .int (nI (sn σ)), .int (nI (sc σ))])), (aO, iA cI 10 (so σ)), (aK, dA cD 10 (sk σ)), (aL, iA cI 10 (sl σ)), (aR, iA cI 10 (sr σ)), (aZ, dA cD 3 Zc), (aM, rA cM 3 rw), (mr 0, dA cD 3 ((u2 M2 i j (FP.dsub FP.dconst1 (FP.dmul r (js σ e0 z i j)))) 0)), (mr 1, dA cD 3 ((u2 M2 i j (FP.dsub FP.dconst1 (FP.dmul r (js σ e0 z i j)))) 1)), (mr 2, dA cD 3 ((u2 M2 i j (FP.dsub FP.dconst1 (FP.dmul r (js σ e0 z i j)))) 2))] H := by rcases (show i = 0 ∨ i = 1 ∨ i = 2 by have := (Nat.lt_of_lt_of_le h_i hn); omega) with rfl | rfl | rfl <;> exact hP
        refine lv_iinc (v := nI (j + 1)) (lv' := [(7, .int (nI (j + 1))), (8, .double FP.dconst1), (6, .int (nI i)), (0, .ref hX), (1, .double e0), (3, .double r), (5, .ref aZ)]) hx hb dX1_setMatrix_73 hl (k := 1) rfl (nI_1 j) (by decide) rfl (fun ls hl => ?_)
        refine lv_goto (tgt := 18) hx hb dX1_setMatrix_76 (by decide) ?_
        have hm' : ∀ a b, a < sn σ → b < sn σ → (a < i ∨ a = i ∧ b < j + 1) → u2 M2 i j (FP.dsub FP.dconst1 (FP.dmul r (js σ e0 z i j))) a b = smG σ e0 r z a b := by
          intro a b ha hb h
          by_cases h2 : a = i ∧ b = j
          · obtain ⟨rfl, rfl⟩ := h2
            rw [u2_s]
            unfold smG
            rw [if_pos hij]
          · rw [u2_n h2]
            exact hm2 a b ha hb (by omega)
        exact ih2 _ _ _ ⟨_, hm', hP, hS, lv_sub hl [0, 2, 3, 4, 5, 6] rfl⟩
    ·
      intro H locs ls ⟨M2, hm2, hP, hS, hl⟩
      refine lv_iload hx hb dX1_setMatrix_18 (lv_at hl 0 rfl) ?_
      refine lv_aload_n hx hb dX1_setMatrix_20 rfl (lv_at hl 2 rfl) ?_
      refine gX1 hx hb hg hown hI hP 0 rfl 0 rfl mF_X1_23 rfl dX1_setMatrix_21 ?_
      refine gX0 hx hb hg hown hI hP 1 rfl 4 rfl mF_X1_27 rfl dX1_setMatrix_24 ?_
      refine lv_icmp_ge (tgt := 79) hx hb dX1_setMatrix_27 (by decide) (fun c_27 => ?_) (fun c_27 => absurd (Int32.le_refl _) c_27)
      refine lv_iinc (v := nI (i + 1)) (lv' := [(6, .int (nI (i + 1))), (7, .int (nI (sn σ))), (0, .ref hX), (1, .double e0), (3, .double r), (5, .ref aZ)]) hx hb dX1_setMatrix_79 hl (k := 1) rfl (nI_1 i) (by decide) rfl (fun ls hl => ?_)
      refine xpc (q := 82) rfl ?_
      refine lv_goto (tgt := 3) hx hb dX1_setMatrix_82 (by decide) ?_
      exact ih _ _ _ ⟨_, (fun a b ha hb h => hm2 a b ha hb (by omega)), hP, hS, lv_sub hl [0, 2, 3, 4, 5] rfl⟩
  ·
    intro H locs ls ⟨M1, hm, hP, hS, hl⟩
    refine lv_iload hx hb dX1_setMatrix_3 (lv_at hl 0 rfl) ?_
    refine lv_aload_n hx hb dX1_setMatrix_5 rfl (lv_at hl 1 rfl) ?_
    refine gX1 hx hb hg hown hI hP 0 rfl 0 rfl mF_X1_23 rfl dX1_setMatrix_6 ?_
    refine gX0 hx hb hg hown hI hP 1 rfl 4 rfl mF_X1_27 rfl dX1_setMatrix_9 ?_
    refine lv_icmp_ge (tgt := 85) hx hb dX1_setMatrix_12 (by decide) (fun c_12 => ?_) (fun c_12 => absurd (Int32.le_refl _) c_12)
    exact W.vret hx hb hr (fun tS hTS hWS => ⟨M1, rfl, fun a b ha hb => hm a b ha hb ha, by rw [hTS]; exact hP.sub [8, 9, 10] rfl, hS.F hTS⟩) hS.2.2 dX1_setMatrix_85

set_option maxHeartbeats 4000000 in
set_option maxRecDepth 100000 in
theorem c_eliminate (l : Launch) (D : va_G) (cD cI cM cL : ClassId) (hX hE aM aQ aD : Nat) (mr : Nat → Nat) (rw : Nat → Option Nat) (M Mc : Nat → Nat → UInt64) (R Rc : Nat → UInt64) (n : Nat) (hrw : ∀ i, i < 3 → rw i = some (mr i)) (hn : n ≤ 3) (hM : agM n M Mc) (hR : agV n R Rc) (hbM : bM n 44 73 Mc Rc) : Met l yX1_eliminate (Cond.code yX1_eliminate cX1_eliminate 4 (some .boolean) :: lw_good) { frames := 2, cells := 0, slots := 0, locals := 45 } (xPc D (tyL cD cI cM cL) [.ref hX, .int (nI n)] [(hX, .inr (1, [.ref hE, .ref aM, .ref aQ, .ref aD])), (aM, rA cM 3 rw), (mr 0, dA cD 3 (M 0)), (mr 1, dA cD 3 (M 1)), (mr 2, dA cD 3 (M 2)), (aQ, dA cD 3 R)]) (xQ D [mr 0, mr 1, mr 2, aQ] (fun (u : (Nat → Nat → UInt64) × (Nat → UInt64)) => some (.int (bI (elm n Mc Rc n).isSome))) (fun (u : (Nat → Nat → UInt64) × (Nat → UInt64)) => ∀ q, elm n Mc Rc n = some q → agM n u.1 q.1 ∧ agV n u.2 q.2) (fun (u : (Nat → Nat → UInt64) × (Nat → UInt64)) => [(mr 0, dA cD 3 (u.1 0)), (mr 1, dA cD 3 (u.1 1)), (mr 2, dA cD 3 (u.1 2)), (aQ, dA cD 3 u.2)])) 0 0 (fun q => q ∈ ([mr 0, mr 1, mr 2, aQ] : List Nat)) := by
  refine xofW (adr := [mr 0, mr 1, mr 2, aQ]) (by decide) (Nat.le_of_ble_eq_true rfl) ?_
  intro p e s m below meth c ls hx hb hr hml hg hown hlk hI hP hd hS hl
  have hown : s.vm.findClass RX1 = some m.cls := hown
  have hd : dj [hX, aM, mr 0, mr 1, mr 2, aQ] := hd
  have hl : lv_has ls 4 [(0, .ref hX), (1, .int (nI n))] := hl
  refine lv_iconst (v := nI 0) hx hb dX1_eliminate_0 (by decide) ?_
  refine lv_istore_n (lv' := [(2, .int (nI 0)), (0, .ref hX), (1, .int (nI n))]) hx hb dX1_eliminate_1 rfl hl (by decide) rfl (fun ls hl => ?_)
  refine xfor (I := fun c0 H locs ls => ∃ (q : (Nat → Nat → UInt64) × (Nat → UInt64)) (M1 : Nat → Nat → UInt64) (R1 : Nat → UInt64), (elm n Mc Rc c0 = some q) ∧ (agM n M1 q.1) ∧ (agV n R1 q.2) ∧ va_P D vwCl [(hX, .inr (1, [.ref hE, .ref aM, .ref aQ, .ref aD])), (aM, rA cM 3 rw), (mr 0, dA cD 3 (M1 0)), (mr 1, dA cD 3 (M1 1)), (mr 2, dA cD 3 (M1 2)), (aQ, dA cD 3 R1)] H ∧ va_S (fun q => q ∈ ([mr 0, mr 1, mr 2, aQ] : List Nat)) s.heap H locs ∧ lv_has ls 4 [(2, .int (nI c0)), (0, .ref hX), (1, .int (nI n))]) n 0 ⟨_, _, _, rfl, hM, hR, hP, hS, lv_sub hl [0, 1, 2] rfl⟩ (Nat.zero_le _) ?_ ?_
  ·
    intro c0 h_c0 ih H locs ls ⟨q, M1, R1, hq, hmq, hrq, hP, hS, hl⟩
    refine lv_iload_n hx hb dX1_eliminate_2 rfl (lv_at hl 0 rfl) ?_
    refine lv_iload_n hx hb dX1_eliminate_3 rfl (lv_at hl 2 rfl) ?_
    refine lv_icmp_ge (tgt := 67) hx hb dX1_eliminate_4 (by decide) (fun c_4 => absurd c_4 (nI_ge h_c0 (by omega))) (fun c_4 => ?_)
    have hpv := piv_lt (M := q.1) (c := c0) (n - 1 - c0)
    obtain ⟨hbq, -⟩ := elm_bd hbM hn c0 q (by omega) hq
    refine lv_aload_n hx hb dX1_eliminate_7 rfl (lv_at hl 1 rfl) ?_
    refine lv_iload_n hx hb dX1_eliminate_8 rfl (lv_at hl 0 rfl) ?_
    refine lv_aload_n hx hb dX1_eliminate_9 rfl (lv_at hl 1 rfl) ?_
    refine lv_iload_n hx hb dX1_eliminate_10 rfl (lv_at hl 0 rfl) ?_
    refine lv_iload_n hx hb dX1_eliminate_11 rfl (lv_at hl 2 rfl) ?_
    refine xci (xV (As := [.int (nI c0), .int (nI n)]) (rest := [.int (nI c0), .ref hX]) hx hb hml hown hg (c_pivotRow l D cD cI cM cL hX hE aM aQ aD mr rw M1 q.1 c0 n hrw hn h_c0 hmq) mM_X1_65 ok_X1_pivotRow rfl rfl ⟨Nat.le_of_ble_eq_true rfl, Nat.le_of_ble_eq_true rfl⟩ hI hP hd rfl [0, 1, 2, 3, 4] rfl rfl rfl rfl rfl hl.1 rfl (Nat.le_of_ble_eq_true rfl) dX1_eliminate_12 ⟨Nat.zero_le _, Nat.zero_le _⟩) hP hd hS fa0 [] rfl rfl (fun _ => rfl) (fun _u H locs hu hP hS => ?_)
    have hP : va_P D vwCl [(hX, .inr (1, [.ref hE, .ref aM, .ref aQ, .ref aD])), (aM, rA cM 3 rw), (mr 0, dA cD 3 (M1 0)), (mr 1, dA cD 3 (M1 1)), (mr 2, dA cD 3 (M1 2)), (aQ, dA cD 3 R1)] H := hP
    refine lv_iload_n hx hb dX1_eliminate_15 rfl (lv_at hl 2 rfl) ?_
    refine xcv (xV (As := [.int (nI c0), .int (nI (piv q.1 c0 (n - 1 - c0))), .int (nI n)]) (rest := []) hx hb hml hown hg (c_exchange l D cD cI cM cL hX hE aM aQ aD mr rw M1 q.1 R1 q.2 c0 (piv q.1 c0 (n - 1 - c0)) n hrw hn h_c0 (by omega) hmq hrq) mM_X1_69 ok_X1_exchange rfl rfl ⟨Nat.le_of_ble_eq_true rfl, Nat.le_of_ble_eq_true rfl⟩ hI hP hd rfl [0, 1, 2, 3, 4, 5] rfl rfl rfl rfl rfl hl.1 rfl (Nat.le_of_ble_eq_true rfl) dX1_eliminate_16 ⟨Nat.zero_le _, Nat.zero_le _⟩) hP hd hS (fa1 pm0 (fa1 (pmS pm0) (fa1 (pmS (pmS pm0)) (fa1 (pmS (pmS (pmS pm0))) fa0)))) [2, 3, 4, 5] rfl rfl (fun _ => rfl) (fun u H locs hu hP hS => ?_)
    obtain ⟨hu1, hu2⟩ := hu
    have hP : va_P D vwCl [(hX, .inr (1, [.ref hE, .ref aM, .ref aQ, .ref aD])), (aM, rA cM 3 rw), (mr 0, dA cD 3 (u.1 0)), (mr 1, dA cD 3 (u.1 1)), (mr 2, dA cD 3 (u.1 2)), (aQ, dA cD 3 u.2)] H := hP
    refine lv_aload_n hx hb dX1_eliminate_19 rfl (lv_at hl 1 rfl) ?_
    refine gX1 hx hb hg hown hI hP 0 rfl 1 rfl mF_X1_11 rfl dX1_eliminate_20 ?_
    refine lv_iload_n hx hb dX1_eliminate_23 rfl (lv_at hl 0 rfl) ?_
    refine xpc (q := 24) rfl ?_
    refine xaald hx hb hI hP 1 2 rfl rfl (by omega) (by decide) (hrw c0 (by omega)) dX1_eliminate_24 ?_
    refine lv_iload_n hx hb dX1_eliminate_25 rfl (lv_at hl 0 rfl) ?_
    refine xdald hx hb hI hP (2 + c0) 0 (rw3 (a := mr) (M := u.1) (by omega) rfl rfl rfl) rfl (by omega) (by decide) dX1_eliminate_26 ?_
    refine xeqd (y := q.1 (piv q.1 c0 (n - 1 - c0)) c0) (show u.1 c0 c0 = q.1 (piv q.1 c0 (n - 1 - c0)) c0 by rw [hu1 c0 c0 h_c0 h_c0]; simp [exM]) ?_
    refine xcd (xN (As := [.double (q.1 (piv q.1 c0 (n - 1 - c0)) c0)]) (rest := []) hx hb hml hown hg (c_sizeOf l D cD cI cM cL (q.1 (piv q.1 c0 (n - 1 - c0)) c0)) hI.2.2.2.2.1 ok_X6_sizeOf rfl rfl ⟨Nat.le_of_ble_eq_true rfl, Nat.le_of_ble_eq_true rfl⟩ hI hP hd rfl [] rfl rfl rfl hl.1 rfl (Nat.le_of_ble_eq_true rfl) dX1_eliminate_27 ⟨Nat.zero_le _, Nat.zero_le _⟩) hP hd hS fa0 [] rfl rfl (fun _ => rfl) (fun _u H locs hu hP hS => ?_)
    have hP : va_P D vwCl [(hX, .inr (1, [.ref hE, .ref aM, .ref aQ, .ref aD])), (aM, rA cM 3 rw), (mr 0, dA cD 3 (u.1 0)), (mr 1, dA cD 3 (u.1 1)), (mr 2, dA cD 3 (u.1 2)), (aQ, dA cD 3 u.2)] H := hP
    refine lv_ldc2d (v := k1em09) hx hb hown (hg _ mD_X1_53) dX1_eliminate_30 ?_
    refine xg_ge (tgt := 39) hx hb dX1_eliminate_33 dX1_eliminate_34 (by decide) (fun c_33 => ?_) (fun c_33 => ?_)
    ·
      have hlb : lbd 1044 ((exM q.1 c0 (piv q.1 c0 (n - 1 - c0))) c0 c0) := by rw [show (exM q.1 c0 (piv q.1 c0 (n - 1 - c0))) c0 c0 = q.1 (piv q.1 c0 (n - 1 - c0)) c0 by simp [exM]]; exact lb_of (hbq.1 _ c0 (by omega) h_c0).1 c_33
      have hexb := ex_bd hbq h_c0 (show piv q.1 c0 (n - 1 - c0) < n by omega)
      refine lv_iload_n hx hb dX1_eliminate_39 rfl (lv_at hl 0 rfl) ?_
      refine lv_iconst (v := nI 1) hx hb dX1_eliminate_40 (by decide) ?_
      refine lv_iadd hx hb dX1_eliminate_41 ?_
      refine xeqi (y := nI (c0 + 1)) (nI_add c0 1) ?_
      refine lv_istore_n (lv' := [(3, .int (nI (c0 + 1))), (2, .int (nI c0)), (0, .ref hX), (1, .int (nI n))]) hx hb dX1_eliminate_42 rfl hl (by decide) rfl (fun ls hl => ?_)
      refine xfor (I := fun x1 H locs ls => ∃ (M2 : Nat → Nat → UInt64) (R2 : Nat → UInt64), (agM n M2 (tks (exM q.1 c0 (piv q.1 c0 (n - 1 - c0))) (exR q.2 c0 (piv q.1 c0 (n - 1 - c0))) c0 x1).1) ∧ (agV n R2 (tks (exM q.1 c0 (piv q.1 c0 (n - 1 - c0))) (exR q.2 c0 (piv q.1 c0 (n - 1 - c0))) c0 x1).2) ∧ va_P D vwCl [(hX, .inr (1, [.ref hE, .ref aM, .ref aQ, .ref aD])), (aM, rA cM 3 rw), (mr 0, dA cD 3 (M2 0)), (mr 1, dA cD 3 (M2 1)), (mr 2, dA cD 3 (M2 2)), (aQ, dA cD 3 R2)] H ∧ va_S (fun q => q ∈ ([mr 0, mr 1, mr 2, aQ] : List Nat)) s.heap H locs ∧ lv_has ls 4 [(3, .int (nI (c0 + 1 + x1))), (2, .int (nI c0)), (0, .ref hX), (1, .int (nI n))]) (n - 1 - c0) 0 ⟨_, _, hu1, hu2, hP, hS, lv_sub hl [0, 1, 2, 3] rfl⟩ (Nat.zero_le _) ?_ ?_
      ·
        intro x1 h_x1 ih2 H locs ls ⟨M2, R2, hm2, hr2, hP, hS, hl⟩
        refine lv_iload_n hx hb dX1_eliminate_43 rfl (lv_at hl 0 rfl) ?_
        refine lv_iload_n hx hb dX1_eliminate_44 rfl (lv_at hl 3 rfl) ?_
        refine lv_icmp_ge (tgt := 61) hx hb dX1_eliminate_45 (by decide) (fun c_45 => absurd c_45 (nI_ge (show c0 + 1 + x1 < n by omega) (by omega))) (fun c_45 => ?_)
        have hcb : 2 * mb c0 + 31 ≤ 1000 ∧ mb c0 + rb c0 + 31 ≤ 1000 := by rcases (show c0 = 0 ∨ c0 = 1 by omega) with rfl | rfl <;> decide
        obtain ⟨ht1, ht2⟩ := tks_bd hexb h_c0 hlb hcb.1 hcb.2 x1 (by omega)
        refine lv_aload_n hx hb dX1_eliminate_48 rfl (lv_at hl 2 rfl) ?_
        refine lv_iload_n hx hb dX1_eliminate_49 rfl (lv_at hl 1 rfl) ?_
        refine lv_iload_n hx hb dX1_eliminate_50 rfl (lv_at hl 0 rfl) ?_
        refine lv_iload_n hx hb dX1_eliminate_51 rfl (lv_at hl 3 rfl) ?_
        refine xcv (xV (As := [.int (nI c0), .int (nI (c0 + 1 + x1)), .int (nI n)]) (rest := []) hx hb hml hown hg (c_takeAway l D cD cI cM cL hX hE aM aQ aD mr rw M2 (tks (exM q.1 c0 (piv q.1 c0 (n - 1 - c0))) (exR q.2 c0 (piv q.1 c0 (n - 1 - c0))) c0 x1).1 R2 (tks (exM q.1 c0 (piv q.1 c0 (n - 1 - c0))) (exR q.2 c0 (piv q.1 c0 (n - 1 - c0))) c0 x1).2 c0 (c0 + 1 + x1) n (mb c0) (rb c0) hrw hn (by omega) (by omega) hm2 hr2 (bM_rows hexb ht1 h_c0 (by omega)) (by rw [(ht1 c0 (Or.inl (Nat.le_refl _))).1]; exact hlb) hcb.1 hcb.2) mM_X1_77 ok_X1_takeAway rfl rfl ⟨Nat.le_of_ble_eq_true rfl, Nat.le_of_ble_eq_true rfl⟩ hI hP hd rfl [0, 1, 2, 3, 4, 5] rfl rfl rfl rfl rfl hl.1 rfl (Nat.le_of_ble_eq_true rfl) dX1_eliminate_52 ⟨Nat.zero_le _, Nat.zero_le _⟩) hP hd hS (fa1 pm0 (fa1 (pmS pm0) (fa1 (pmS (pmS pm0)) (fa1 (pmS (pmS (pmS pm0))) fa0)))) [2, 3, 4, 5] rfl rfl (fun _ => rfl) (fun u2 H locs hu hP hS => ?_)
        obtain ⟨hv1, hv2⟩ := hu
        have hP : va_P D vwCl [(hX, .inr (1, [.ref hE, .ref aM, .ref aQ, .ref aD])), (aM, rA cM 3 rw), (mr 0, dA cD 3 (u2.1 0)), (mr 1, dA cD 3 (u2.1 1)), (mr 2, dA cD 3 (u2.1 2)), (aQ, dA cD 3 u2.2)] H := hP
        refine lv_iinc (v := nI (c0 + 1 + x1 + 1)) (lv' := [(3, .int (nI (c0 + 1 + x1 + 1))), (2, .int (nI c0)), (0, .ref hX), (1, .int (nI n))]) hx hb dX1_eliminate_55 hl (k := 0) rfl (nI_1 (c0 + 1 + x1)) (by decide) rfl (fun ls hl => ?_)
        refine lv_goto (tgt := 43) hx hb dX1_eliminate_58 (by decide) ?_
        exact ih2 _ _ _ ⟨_, _, hv1, hv2, hP, hS, lv_sub hl [0, 1, 2, 3] rfl⟩
      ·
        intro H locs ls ⟨M2, R2, hm2, hr2, hP, hS, hl⟩
        refine lv_iload_n hx hb dX1_eliminate_43 rfl (lv_at hl 0 rfl) ?_
        refine lv_iload_n hx hb dX1_eliminate_44 rfl (lv_at hl 3 rfl) ?_
        refine lv_icmp_ge (tgt := 61) hx hb dX1_eliminate_45 (by decide) (fun c_45 => ?_) (fun c_45 => absurd (nI_le (by omega) (by omega)) c_45)
        refine lv_iinc (v := nI (c0 + 1)) (lv' := [(2, .int (nI (c0 + 1))), (3, .int (nI (c0 + 1 + (n - 1 - c0)))), (0, .ref hX), (1, .int (nI n))]) hx hb dX1_eliminate_61 hl (k := 1) rfl (nI_1 c0) (by decide) rfl (fun ls hl => ?_)
        refine lv_goto (tgt := 2) hx hb dX1_eliminate_64 (by decide) ?_
        have hq2 : elm n Mc Rc (c0 + 1) = some (tks (exM q.1 c0 (piv q.1 c0 (n - 1 - c0))) (exR q.2 c0 (piv q.1 c0 (n - 1 - c0))) c0 (n - 1 - c0)) := by unfold elm; rw [hq]; exact if_neg c_33
        exact ih _ _ _ ⟨_, _, _, hq2, hm2, hr2, hP, hS, lv_sub hl [0, 2, 3] rfl⟩
    ·
      have hno : elm n Mc Rc n = none := elm_none (c := c0 + 1) (by unfold elm; rw [hq]; exact if_pos c_33) (by omega)
      refine lv_iconst (v := nI 0) hx hb dX1_eliminate_37 (by decide) ?_
      refine xeqi (y := bI (elm n Mc Rc n).isSome) (bI0 (by rw [hno]; rfl)) ?_
      exact W.zret hx hb hr (bI_n _) (fun tS hTS hWS => ⟨(u.1, u.2), rfl, (fun q hq => by rw [hno] at hq; cases hq), by rw [hTS]; exact hP.sub [2, 3, 4, 5] rfl, hS.F hTS⟩) hS.2.2 dX1_eliminate_38
  ·
    intro H locs ls ⟨q, M1, R1, hq, hmq, hrq, hP, hS, hl⟩
    refine lv_iload_n hx hb dX1_eliminate_2 rfl (lv_at hl 0 rfl) ?_
    refine lv_iload_n hx hb dX1_eliminate_3 rfl (lv_at hl 2 rfl) ?_
    refine lv_icmp_ge (tgt := 67) hx hb dX1_eliminate_4 (by decide) (fun c_4 => ?_) (fun c_4 => absurd (Int32.le_refl _) c_4)
    refine lv_iconst (v := nI 1) hx hb dX1_eliminate_67 (by decide) ?_
    refine xeqi (y := bI (elm n Mc Rc n).isSome) (bI1 (by rw [hq]; rfl)) ?_
    exact W.zret hx hb hr (bI_n _) (fun tS hTS hWS => ⟨(M1, R1), rfl, (fun q' hq' => by rw [hq] at hq'; cases hq'; exact ⟨hmq, hrq⟩), by rw [hTS]; exact hP.sub [2, 3, 4, 5] rfl, hS.F hTS⟩) hS.2.2 dX1_eliminate_68
