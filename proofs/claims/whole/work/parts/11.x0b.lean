theorem ok_X6_sizeOf : okS yX6_sizeOf RX6 cX6_sizeOf 2 (some .double) 1 := ⟨mT_X6_sizeOf, mN_X6, mC_X6_sizeOf, by decide +kernel⟩
theorem ok_X6_greatest : okS yX6_greatest RX6 cX6_greatest 7 (some .double) 2 := ⟨mT_X6_greatest, mN_X6, mC_X6_greatest, by decide +kernel⟩
theorem ok_X6_isMethod : okS yX6_isMethod RX6 cX6_isMethod 1 (some .boolean) 1 := ⟨mT_X6_isMethod, mN_X6, mC_X6_isMethod, by decide +kernel⟩
theorem ok_X6_isWithin : okS yX6_isWithin RX6 cX6_isWithin 4 (some .boolean) 2 := ⟨mT_X6_isWithin, mN_X6, mC_X6_isWithin, by decide +kernel⟩
theorem ok_X6_isSize : okS yX6_isSize RX6 cX6_isSize 2 (some .boolean) 1 := ⟨mT_X6_isSize, mN_X6, mC_X6_isSize, by decide +kernel⟩
set_option maxHeartbeats 4000000 in
set_option maxRecDepth 100000 in
theorem c_isFull (l : Launch) (D : va_G) (cD cI cM cL : ClassId) (hE aO aK aL aR : Nat) (σ : Sys) (hc : sc σ ≤ 10) : Met l yX0_isFull (Cond.code yX0_isFull cX0_isFull 1 (some .boolean) :: lw_good) { frames := 0, cells := 0, slots := 0, locals := 0 } (xPc D (tyL cD cI cM cL) [.ref hE] [(hE, .inr (0, [.ref aO, .ref aK, .ref aL, .ref aR, .int (nI (sn σ)), .int (nI (sc σ))]))]) (xQ D [] (fun (_ : Unit) => some (.int (bI (decide (10 ≤ sc σ))))) (fun (_ : Unit) => True) (fun (_ : Unit) => [])) 0 0 (fun q => q ∈ ([] : List Nat)) := by
  refine xofW (adr := []) (by decide) (Nat.le_of_ble_eq_true rfl) ?_
  intro p e s m below meth c ls hx hb hr hml hg hown hlk hI hP hd hS hl
  have hown : s.vm.findClass RX0 = some m.cls := hown
  have hd : dj [hE] := hd
  have hl : lv_has ls 1 [(0, .ref hE)] := hl
  refine lv_aload_n hx hb dX0_isFull_0 rfl (lv_at hl 0 rfl) ?_
  refine gX0 hx hb hg hown hI hP 0 rfl 5 rfl mF_X0_27 rfl dX0_isFull_1 ?_
  refine lv_bipush (v := nI 10) hx hb dX0_isFull_4 (by decide) ?_
  refine lv_icmp_lt (tgt := 13) hx hb dX0_isFull_6 (by decide) (fun c_6 => ?_) (fun c_6 => ?_)
  ·
    refine lv_iconst (v := nI 0) hx hb dX0_isFull_13 (by decide) ?_
    refine xeqi (y := bI (decide (10 ≤ sc σ))) (bI0 (df (fun h => (nI_nlt h (by omega)) c_6))) ?_
    exact W.zret hx hb hr (bI_n _) (fun tS hTS hWS => ⟨(), rfl, trivial, by rw [hTS]; exact hP.sub [] rfl, hS.F hTS⟩) hS.2.2 dX0_isFull_14
  ·
    refine lv_iconst (v := nI 1) hx hb dX0_isFull_9 (by decide) ?_
    refine lv_goto (tgt := 14) hx hb dX0_isFull_10 (by decide) ?_
    refine xeqi (y := bI (decide (10 ≤ sc σ))) (bI1 (dt (Nat.le_of_not_lt fun h => c_6 (nI_lt h (by omega))))) ?_
    exact W.zret hx hb hr (bI_n _) (fun tS hTS hWS => ⟨(), rfl, trivial, by rw [hTS]; exact hP.sub [] rfl, hS.F hTS⟩) hS.2.2 dX0_isFull_14

set_option maxHeartbeats 4000000 in
set_option maxRecDepth 100000 in
theorem c_hasFactor (l : Launch) (D : va_G) (cD cI cM cL : ClassId) (hE aO aK aL aR : Nat) (σ : Sys) (k : Int32)  : Met l yX0_hasFactor (Cond.code yX0_hasFactor cX0_hasFactor 2 (some .boolean) :: lw_good) { frames := 1, cells := 0, slots := 0, locals := 21 } (xPc D (tyL cD cI cM cL) [.ref hE, .int k] [(hE, .inr (0, [.ref aO, .ref aK, .ref aL, .ref aR, .int (nI (sn σ)), .int (nI (sc σ))]))]) (xQ D [] (fun (_ : Unit) => some (.int (bI (decide ((nI 0 ≤ k ∧ k < nI (sn σ)) ∨ k = nI 3 ∨ k = nI 4))))) (fun (_ : Unit) => True) (fun (_ : Unit) => [])) 0 0 (fun q => q ∈ ([] : List Nat)) := by
  refine xofW (adr := []) (by decide) (Nat.le_of_ble_eq_true rfl) ?_
  intro p e s m below meth c ls hx hb hr hml hg hown hlk hI hP hd hS hl
  have hown : s.vm.findClass RX0 = some m.cls := hown
  have hd : dj [hE] := hd
  have hl : lv_has ls 2 [(0, .ref hE), (1, .int k)] := hl
  refine lv_aload_n hx hb dX0_hasFactor_0 rfl (lv_at hl 0 rfl) ?_
  refine lv_iload_n hx hb dX0_hasFactor_1 rfl (lv_at hl 1 rfl) ?_
  refine xci (xV (As := [.int k]) (rest := []) hx hb hml hown hg (c_hasValue l D cD cI cM cL hE aO aK aL aR σ k) mM_X0_30 ok_X0_hasValue rfl rfl ⟨Nat.le_of_ble_eq_true rfl, Nat.le_of_ble_eq_true rfl⟩ hI hP hd rfl [0] rfl rfl rfl rfl rfl hl.1 rfl (Nat.le_of_ble_eq_true rfl) dX0_hasFactor_2 ⟨Nat.zero_le _, Nat.zero_le _⟩) hP hd hS fa0 [] rfl rfl (fun _ => rfl) (fun _u H locs hu hP hS => ?_)
  have hP : va_P D vwCl [(hE, .inr (0, [.ref aO, .ref aK, .ref aL, .ref aR, .int (nI (sn σ)), .int (nI (sc σ))]))] H := hP
  refine lv_if_ne (tgt := 18) hx hb dX0_hasFactor_5 (by decide) (fun c_5 => ?_) (fun c_5 => ?_)
  ·
    refine lv_iconst (v := nI 1) hx hb dX0_hasFactor_18 (by decide) ?_
    refine lv_goto (tgt := 23) hx hb dX0_hasFactor_19 (by decide) ?_
    refine xeqi (y := bI (decide ((nI 0 ≤ k ∧ k < nI (sn σ)) ∨ k = nI 3 ∨ k = nI 4))) (bI1 (dt (Or.inl (td (bI_ne0.mp c_5))))) ?_
    exact W.zret hx hb hr (bI_n _) (fun tS hTS hWS => ⟨(), rfl, trivial, by rw [hTS]; exact hP.sub [] rfl, hS.F hTS⟩) hS.2.2 dX0_hasFactor_23
  ·
    refine lv_iload_n hx hb dX0_hasFactor_8 rfl (lv_at hl 1 rfl) ?_
    refine lv_iconst (v := nI 3) hx hb dX0_hasFactor_9 (by decide) ?_
    refine lv_icmp_eq (tgt := 18) hx hb dX0_hasFactor_10 (by decide) (fun c_10 => ?_) (fun c_10 => ?_)
    ·
      refine lv_iconst (v := nI 1) hx hb dX0_hasFactor_18 (by decide) ?_
      refine lv_goto (tgt := 23) hx hb dX0_hasFactor_19 (by decide) ?_
      refine xeqi (y := bI (decide ((nI 0 ≤ k ∧ k < nI (sn σ)) ∨ k = nI 3 ∨ k = nI 4))) (bI1 (dt (Or.inr (Or.inl c_10)))) ?_
      exact W.zret hx hb hr (bI_n _) (fun tS hTS hWS => ⟨(), rfl, trivial, by rw [hTS]; exact hP.sub [] rfl, hS.F hTS⟩) hS.2.2 dX0_hasFactor_23
    ·
      refine lv_iload_n hx hb dX0_hasFactor_13 rfl (lv_at hl 1 rfl) ?_
      refine lv_iconst (v := nI 4) hx hb dX0_hasFactor_14 (by decide) ?_
      refine lv_icmp_ne (tgt := 22) hx hb dX0_hasFactor_15 (by decide) (fun c_15 => ?_) (fun c_15 => ?_)
      ·
        refine lv_iconst (v := nI 0) hx hb dX0_hasFactor_22 (by decide) ?_
        refine xeqi (y := bI (decide ((nI 0 ≤ k ∧ k < nI (sn σ)) ∨ k = nI 3 ∨ k = nI 4))) (bI0 (df (fun h => h.elim (fd (bI_eq0.mp c_5)) (fun h => h.elim c_10 c_15)))) ?_
        exact W.zret hx hb hr (bI_n _) (fun tS hTS hWS => ⟨(), rfl, trivial, by rw [hTS]; exact hP.sub [] rfl, hS.F hTS⟩) hS.2.2 dX0_hasFactor_23
      ·
        refine lv_iconst (v := nI 1) hx hb dX0_hasFactor_18 (by decide) ?_
        refine lv_goto (tgt := 23) hx hb dX0_hasFactor_19 (by decide) ?_
        refine xeqi (y := bI (decide ((nI 0 ≤ k ∧ k < nI (sn σ)) ∨ k = nI 3 ∨ k = nI 4))) (bI1 (dt (Or.inr (Or.inr c_15)))) ?_
        exact W.zret hx hb hr (bI_n _) (fun tS hTS hWS => ⟨(), rfl, trivial, by rw [hTS]; exact hP.sub [] rfl, hS.F hTS⟩) hS.2.2 dX0_hasFactor_23

set_option maxHeartbeats 4000000 in
set_option maxRecDepth 100000 in
theorem c_clear (l : Launch) (D : va_G) (cD cI cM cL : ClassId) (hE aO aK aL aR : Nat) (n0 c0 : Int32) (n : Int32)  : Met l yX0_clear (Cond.code yX0_clear cX0_clear 2 none :: lw_good) { frames := 0, cells := 0, slots := 0, locals := 0 } (xPc D (tyL cD cI cM cL) [.ref hE, .int n] [(hE, .inr (0, [.ref aO, .ref aK, .ref aL, .ref aR, .int n0, .int c0]))]) (xQ D [hE] (fun (_ : Unit) => none) (fun (_ : Unit) => True) (fun (_ : Unit) => [(hE, .inr (0, [.ref aO, .ref aK, .ref aL, .ref aR, .int n, .int (nI 0)]))])) 0 0 (fun q => q ∈ ([hE] : List Nat)) := by
  refine xofW (adr := [hE]) (by decide) (Nat.le_of_ble_eq_true rfl) ?_
  intro p e s m below meth c ls hx hb hr hml hg hown hlk hI hP hd hS hl
  have hown : s.vm.findClass RX0 = some m.cls := hown
  have hd : dj [hE] := hd
  have hl : lv_has ls 2 [(0, .ref hE), (1, .int n)] := hl
  refine lv_aload_n hx hb dX0_clear_0 rfl (lv_at hl 0 rfl) ?_
  refine lv_iload_n hx hb dX0_clear_1 rfl (lv_at hl 1 rfl) ?_
  refine pX0 hx hb hg hown hI hP hd rfl hS 0 rfl 4 rfl mF_X0_23 rfl rfl rfl (Nat.le_of_ble_eq_true rfl) pm0 dX0_clear_2 (fun H locs hP hS => ?_)
  have hP : va_P D vwCl [(hE, .inr (0, [.ref aO, .ref aK, .ref aL, .ref aR, .int n, .int c0]))] H := hP
  refine lv_aload_n hx hb dX0_clear_5 rfl (lv_at hl 0 rfl) ?_
  refine lv_iconst (v := nI 0) hx hb dX0_clear_6 (by decide) ?_
  refine pX0 hx hb hg hown hI hP hd rfl hS 0 rfl 5 rfl mF_X0_27 rfl rfl rfl (Nat.le_of_ble_eq_true rfl) pm0 dX0_clear_7 (fun H locs hP hS => ?_)
  have hP : va_P D vwCl [(hE, .inr (0, [.ref aO, .ref aK, .ref aL, .ref aR, .int n, .int (nI 0)]))] H := hP
  exact W.vret hx hb hr (fun tS hTS hWS => ⟨(), rfl, trivial, by rw [hTS]; exact hP.sub [0] rfl, hS.F hTS⟩) hS.2.2 dX0_clear_10

set_option maxHeartbeats 4000000 in
set_option maxRecDepth 100000 in
theorem c_add (l : Launch) (D : va_G) (cD cI cM cL : ClassId) (hE aO aK aL aR : Nat) (σ : Sys) (i : Int32) (k : UInt64) (a b : Int32) (hc : sc σ < 10) : Met l yX0_add (Cond.code yX0_add cX0_add 6 none :: lw_good) { frames := 0, cells := 0, slots := 0, locals := 0 } (xPc D (tyL cD cI cM cL) [.ref hE, .int i, .double k, .int a, .int b] [(hE, .inr (0, [.ref aO, .ref aK, .ref aL, .ref aR, .int (nI (sn σ)), .int (nI (sc σ))])), (aO, iA cI 10 (so σ)), (aK, dA cD 10 (sk σ)), (aL, iA cI 10 (sl σ)), (aR, iA cI 10 (sr σ))]) (xQ D [hE, aO, aK, aL, aR] (fun (_ : Unit) => none) (fun (_ : Unit) => True) (fun (_ : Unit) => [(hE, .inr (0, [.ref aO, .ref aK, .ref aL, .ref aR, .int (nI (sn σ)), .int (nI (sc σ + 1))])), (aO, iA cI 10 (upd (so σ) (sc σ) i)), (aK, dA cD 10 (vf_upd (sk σ) (sc σ) k)), (aL, iA cI 10 (upd (sl σ) (sc σ) a)), (aR, iA cI 10 (upd (sr σ) (sc σ) b))])) 0 0 (fun q => q ∈ ([hE, aO, aK, aL, aR] : List Nat)) := by
  refine xofW (adr := [hE, aO, aK, aL, aR]) (by decide) (Nat.le_of_ble_eq_true rfl) ?_
  intro p e s m below meth c ls hx hb hr hml hg hown hlk hI hP hd hS hl
  have hown : s.vm.findClass RX0 = some m.cls := hown
  have hd : dj [hE, aO, aK, aL, aR] := hd
  have hl : lv_has ls 6 [(0, .ref hE), (1, .int i), (2, .double k), (4, .int a), (5, .int b)] := hl
  refine lv_aload_n hx hb dX0_add_0 rfl (lv_at hl 0 rfl) ?_
  refine gX0 hx hb hg hown hI hP 0 rfl 0 rfl mF_X0_9 rfl dX0_add_1 ?_
  refine lv_aload_n hx hb dX0_add_4 rfl (lv_at hl 0 rfl) ?_
  refine gX0 hx hb hg hown hI hP 0 rfl 5 rfl mF_X0_27 rfl dX0_add_5 ?_
  refine lv_iload_n hx hb dX0_add_8 rfl (lv_at hl 1 rfl) ?_
  refine xiast hx hb hI hP hd rfl hS 1 1 rfl rfl hc (by decide) (pmS pm0) dX0_add_9 (fun H locs hP hS => ?_)
  have hP : va_P D vwCl [(hE, .inr (0, [.ref aO, .ref aK, .ref aL, .ref aR, .int (nI (sn σ)), .int (nI (sc σ))])), (aO, iA cI 10 (upd (so σ) (sc σ) i)), (aK, dA cD 10 (sk σ)), (aL, iA cI 10 (sl σ)), (aR, iA cI 10 (sr σ))] H := hP
  refine lv_aload_n hx hb dX0_add_10 rfl (lv_at hl 0 rfl) ?_
  refine gX0 hx hb hg hown hI hP 0 rfl 1 rfl mF_X0_13 rfl dX0_add_11 ?_
  refine lv_aload_n hx hb dX0_add_14 rfl (lv_at hl 0 rfl) ?_
  refine gX0 hx hb hg hown hI hP 0 rfl 5 rfl mF_X0_27 rfl dX0_add_15 ?_
  refine lv_dload_n hx hb dX0_add_18 rfl (lv_at hl 2 rfl) ?_
  refine xdast hx hb hI hP hd rfl hS 2 0 rfl rfl hc (by decide) (pmS (pmS pm0)) dX0_add_19 (fun H locs hP hS => ?_)
  have hP : va_P D vwCl [(hE, .inr (0, [.ref aO, .ref aK, .ref aL, .ref aR, .int (nI (sn σ)), .int (nI (sc σ))])), (aO, iA cI 10 (upd (so σ) (sc σ) i)), (aK, dA cD 10 (vf_upd (sk σ) (sc σ) k)), (aL, iA cI 10 (sl σ)), (aR, iA cI 10 (sr σ))] H := hP
  refine lv_aload_n hx hb dX0_add_20 rfl (lv_at hl 0 rfl) ?_
  refine xpc (q := 21) rfl ?_
  refine gX0 hx hb hg hown hI hP 0 rfl 2 rfl mF_X0_17 rfl dX0_add_21 ?_
  refine lv_aload_n hx hb dX0_add_24 rfl (lv_at hl 0 rfl) ?_
  refine gX0 hx hb hg hown hI hP 0 rfl 5 rfl mF_X0_27 rfl dX0_add_25 ?_
  refine lv_iload hx hb dX0_add_28 (lv_at hl 3 rfl) ?_
  refine xiast hx hb hI hP hd rfl hS 3 1 rfl rfl hc (by decide) (pmS (pmS (pmS pm0))) dX0_add_30 (fun H locs hP hS => ?_)
  have hP : va_P D vwCl [(hE, .inr (0, [.ref aO, .ref aK, .ref aL, .ref aR, .int (nI (sn σ)), .int (nI (sc σ))])), (aO, iA cI 10 (upd (so σ) (sc σ) i)), (aK, dA cD 10 (vf_upd (sk σ) (sc σ) k)), (aL, iA cI 10 (upd (sl σ) (sc σ) a)), (aR, iA cI 10 (sr σ))] H := hP
  refine lv_aload_n hx hb dX0_add_31 rfl (lv_at hl 0 rfl) ?_
  refine gX0 hx hb hg hown hI hP 0 rfl 3 rfl mF_X0_20 rfl dX0_add_32 ?_
  refine lv_aload_n hx hb dX0_add_35 rfl (lv_at hl 0 rfl) ?_
  refine gX0 hx hb hg hown hI hP 0 rfl 5 rfl mF_X0_27 rfl dX0_add_36 ?_
  refine lv_iload hx hb dX0_add_39 (lv_at hl 4 rfl) ?_
  refine xiast hx hb hI hP hd rfl hS 4 1 rfl rfl hc (by decide) (pmS (pmS (pmS (pmS pm0)))) dX0_add_41 (fun H locs hP hS => ?_)
  have hP : va_P D vwCl [(hE, .inr (0, [.ref aO, .ref aK, .ref aL, .ref aR, .int (nI (sn σ)), .int (nI (sc σ))])), (aO, iA cI 10 (upd (so σ) (sc σ) i)), (aK, dA cD 10 (vf_upd (sk σ) (sc σ) k)), (aL, iA cI 10 (upd (sl σ) (sc σ) a)), (aR, iA cI 10 (upd (sr σ) (sc σ) b))] H := hP
  refine lv_aload_n hx hb dX0_add_42 rfl (lv_at hl 0 rfl) ?_
  refine lv_dup hx hb dX0_add_43 rfl ?_
  refine gX0 hx hb hg hown hI hP 0 rfl 5 rfl mF_X0_27 rfl dX0_add_44 ?_
  refine xpc (q := 47) rfl ?_
  refine lv_iconst (v := nI 1) hx hb dX0_add_47 (by decide) ?_
  refine lv_iadd hx hb dX0_add_48 ?_
  refine xeqi (y := nI ((sc σ) + 1)) (nI_add (sc σ) 1) ?_
  refine pX0 hx hb hg hown hI hP hd rfl hS 0 rfl 5 rfl mF_X0_27 rfl rfl rfl (Nat.le_of_ble_eq_true rfl) pm0 dX0_add_49 (fun H locs hP hS => ?_)
  have hP : va_P D vwCl [(hE, .inr (0, [.ref aO, .ref aK, .ref aL, .ref aR, .int (nI (sn σ)), .int (nI ((sc σ) + 1))])), (aO, iA cI 10 (upd (so σ) (sc σ) i)), (aK, dA cD 10 (vf_upd (sk σ) (sc σ) k)), (aL, iA cI 10 (upd (sl σ) (sc σ) a)), (aR, iA cI 10 (upd (sr σ) (sc σ) b))] H := hP
  exact W.vret hx hb hr (fun tS hTS hWS => ⟨(), rfl, trivial, by rw [hTS]; exact hP.sub [0, 1, 2, 3, 4] rfl, hS.F hTS⟩) hS.2.2 dX0_add_52

set_option maxHeartbeats 4000000 in
set_option maxRecDepth 100000 in
theorem c_slopeBy (l : Launch) (D : va_G) (cD cI cM cL : ClassId) (hE aO aK aL aR : Nat) (σ : Sys) (aY : Nat) (i j : Nat) (t : UInt64) (y : Nat → UInt64) (K : Nat) (hσ : oks σ) (ht : bd 1 K t) (hy : ∀ j, j < sn σ → bd 1 K (y j)) (hK : K + 11 ≤ 1000) : Met l yX0_slopeBy (Cond.code yX0_slopeBy cX0_slopeBy 9 (some .double) :: lw_good) { frames := 1, cells := 0, slots := 0, locals := 24 } (xPc D (tyL cD cI cM cL) [.ref hE, .int (nI i), .int (nI j), .double t, .ref aY] [(hE, .inr (0, [.ref aO, .ref aK, .ref aL, .ref aR, .int (nI (sn σ)), .int (nI (sc σ))])), (aO, iA cI 10 (so σ)), (aK, dA cD 10 (sk σ)), (aL, iA cI 10 (sl σ)), (aR, iA cI 10 (sr σ)), (aY, dA cD 3 y)]) (xQ D [] (fun (_ : Unit) => some (.double (js σ t y i j))) (fun (_ : Unit) => True) (fun (_ : Unit) => [])) 0 0 (fun q => q ∈ ([] : List Nat)) := by
  refine xofW (adr := []) (by decide) (Nat.le_of_ble_eq_true rfl) ?_
  intro p e s m below meth c ls hx hb hr hml hg hown hlk hI hP hd hS hl
  have hown : s.vm.findClass RX0 = some m.cls := hown
  have hd : dj [hE, aO, aK, aL, aR, aY] := hd
  have hl : lv_has ls 9 [(0, .ref hE), (1, .int (nI i)), (2, .int (nI j)), (3, .double t), (5, .ref aY)] := hl
  have hn : sn σ ≤ 3 := hσ.2.1
  have hc : sc σ ≤ 10 := hσ.2.2.1
  refine lv_dconst0 hx hb dX0_slopeBy_0 ?_
  refine lv_dstore (lv' := [(6, .double FP.dconst0), (0, .ref hE), (1, .int (nI i)), (2, .int (nI j)), (3, .double t), (5, .ref aY)]) hx hb dX0_slopeBy_1 hl (by decide) rfl (fun ls hl => ?_)
  refine lv_iconst (v := nI 0) hx hb dX0_slopeBy_3 (by decide) ?_
  refine lv_istore (lv' := [(8, .int (nI 0)), (6, .double FP.dconst0), (0, .ref hE), (1, .int (nI i)), (2, .int (nI j)), (3, .double t), (5, .ref aY)]) hx hb dX0_slopeBy_4 hl (by decide) rfl (fun ls hl => ?_)
  refine xfor (I := fun k H locs ls => ∃ (a : UInt64), (a = jsum σ t y i j k) ∧ va_P D vwCl [(hE, .inr (0, [.ref aO, .ref aK, .ref aL, .ref aR, .int (nI (sn σ)), .int (nI (sc σ))])), (aO, iA cI 10 (so σ)), (aK, dA cD 10 (sk σ)), (aL, iA cI 10 (sl σ)), (aR, iA cI 10 (sr σ)), (aY, dA cD 3 y)] H ∧ va_S (fun q => q ∈ ([] : List Nat)) s.heap H locs ∧ lv_has ls 9 [(8, .int (nI k)), (6, .double a), (0, .ref hE), (1, .int (nI i)), (2, .int (nI j)), (3, .double t), (5, .ref aY)]) (sc σ) 0 ⟨_, rfl, hP, hS, lv_sub hl [0, 1, 2, 3, 4, 5, 6] rfl⟩ (Nat.zero_le _) ?_ ?_
  ·
    intro k h_k ih H locs ls ⟨a, ha, hP, hS, hl⟩
    have hba := jsum_bd (i := i) (j := j) hσ ht hy hK k (by omega)
    rw [← ha] at hba
    refine lv_iload hx hb dX0_slopeBy_6 (lv_at hl 0 rfl) ?_
    refine lv_aload_n hx hb dX0_slopeBy_8 rfl (lv_at hl 2 rfl) ?_
    refine gX0 hx hb hg hown hI hP 0 rfl 5 rfl mF_X0_27 rfl dX0_slopeBy_9 ?_
    refine lv_icmp_ge (tgt := 119) hx hb dX0_slopeBy_12 (by decide) (fun c_12 => absurd c_12 (nI_ge h_k (by omega))) (fun c_12 => ?_)
    refine xcut (I := fun H locs ls => ∃ (a2 : UInt64), (a2 = jmid σ t y i j k a) ∧ va_P D vwCl [(hE, .inr (0, [.ref aO, .ref aK, .ref aL, .ref aR, .int (nI (sn σ)), .int (nI (sc σ))])), (aO, iA cI 10 (so σ)), (aK, dA cD 10 (sk σ)), (aL, iA cI 10 (sl σ)), (aR, iA cI 10 (sr σ)), (aY, dA cD 3 y)] H ∧ va_S (fun q => q ∈ ([] : List Nat)) s.heap H locs ∧ lv_has ls 9 [(6, .double a2), (8, .int (nI k)), (0, .ref hE), (1, .int (nI i)), (2, .int (nI j)), (3, .double t), (5, .ref aY)]) (pc2 := 64) (rest2 := []) (fun H locs ls hh => ?_) (fun K1 => ?_)
    ·
      obtain ⟨a2, ha2, hP, hS, hl⟩ := hh
      have hba2 := jmid_bd (i := i) (j := j) hσ h_k ht hy hK hba (by omega)
      rw [← ha2] at hba2
      refine lv_aload_n hx hb dX0_slopeBy_64 rfl (lv_at hl 2 rfl) ?_
      refine gX0 hx hb hg hown hI hP 0 rfl 0 rfl mF_X0_9 rfl dX0_slopeBy_65 ?_
      refine lv_iload hx hb dX0_slopeBy_68 (lv_at hl 1 rfl) ?_
      refine xiald hx hb hI hP 1 1 rfl rfl (Nat.lt_of_lt_of_le h_k hc) (by decide) dX0_slopeBy_70 ?_
      refine lv_iload_n hx hb dX0_slopeBy_71 rfl (lv_at hl 3 rfl) ?_
      refine lv_icmp_ne (tgt := 113) hx hb dX0_slopeBy_72 (by decide) (fun c_72 => ?_) (fun c_72 => ?_)
      ·
        refine lv_iinc (v := nI (k + 1)) (lv' := [(8, .int (nI (k + 1))), (6, .double a2), (0, .ref hE), (1, .int (nI i)), (2, .int (nI j)), (3, .double t), (5, .ref aY)]) hx hb dX0_slopeBy_113 hl (k := 1) rfl (nI_1 k) (by decide) rfl (fun ls hl => ?_)
        refine lv_goto (tgt := 6) hx hb dX0_slopeBy_116 (by decide) ?_
        exact ih _ _ _ ⟨_, show a2 = jend σ t y i j k (jmid σ t y i j k (jsum σ t y i j k)) by rw [← ha, ← ha2]; unfold jend; rw [if_neg (fun h => c_72 h.1)], hP, hS, lv_sub hl [0, 1, 2, 3, 4, 5, 6] rfl⟩
      ·
        refine lv_aload_n hx hb dX0_slopeBy_75 rfl (lv_at hl 2 rfl) ?_
        refine xpc (q := 76) rfl ?_
        refine gX0 hx hb hg hown hI hP 0 rfl 3 rfl mF_X0_20 rfl dX0_slopeBy_76 ?_
        refine lv_iload hx hb dX0_slopeBy_79 (lv_at hl 1 rfl) ?_
        refine xiald hx hb hI hP 4 1 rfl rfl (Nat.lt_of_lt_of_le h_k hc) (by decide) dX0_slopeBy_81 ?_
        refine lv_iload_n hx hb dX0_slopeBy_82 rfl (lv_at hl 4 rfl) ?_
        refine lv_icmp_ne (tgt := 113) hx hb dX0_slopeBy_83 (by decide) (fun c_83 => ?_) (fun c_83 => ?_)
        ·
          refine lv_iinc (v := nI (k + 1)) (lv' := [(8, .int (nI (k + 1))), (6, .double a2), (0, .ref hE), (1, .int (nI i)), (2, .int (nI j)), (3, .double t), (5, .ref aY)]) hx hb dX0_slopeBy_113 hl (k := 1) rfl (nI_1 k) (by decide) rfl (fun ls hl => ?_)
          refine lv_goto (tgt := 6) hx hb dX0_slopeBy_116 (by decide) ?_
          exact ih _ _ _ ⟨_, show a2 = jend σ t y i j k (jmid σ t y i j k (jsum σ t y i j k)) by rw [← ha, ← ha2]; unfold jend; rw [if_neg (fun h => c_83 h.2)], hP, hS, lv_sub hl [0, 1, 2, 3, 4, 5, 6] rfl⟩
        ·
          refine lv_dload hx hb dX0_slopeBy_86 (lv_at hl 0 rfl) ?_
          refine lv_aload_n hx hb dX0_slopeBy_88 rfl (lv_at hl 2 rfl) ?_
          refine gX0 hx hb hg hown hI hP 0 rfl 1 rfl mF_X0_13 rfl dX0_slopeBy_89 ?_
          refine lv_iload hx hb dX0_slopeBy_92 (lv_at hl 1 rfl) ?_
          refine xdald hx hb hI hP 2 0 rfl rfl (Nat.lt_of_lt_of_le h_k hc) (by decide) dX0_slopeBy_94 ?_
          refine lv_aload_n hx hb dX0_slopeBy_95 rfl (lv_at hl 2 rfl) ?_
          refine lv_aload_n hx hb dX0_slopeBy_96 rfl (lv_at hl 2 rfl) ?_
          refine gX0 hx hb hg hown hI hP 0 rfl 2 rfl mF_X0_17 rfl dX0_slopeBy_97 ?_
          refine lv_iload hx hb dX0_slopeBy_100 (lv_at hl 1 rfl) ?_
          refine xiald hx hb hI hP 3 1 rfl rfl (Nat.lt_of_lt_of_le h_k hc) (by decide) dX0_slopeBy_102 ?_
          refine xpc (q := 103) rfl ?_
          refine lv_dload_n hx hb dX0_slopeBy_103 rfl (lv_at hl 5 rfl) ?_
          refine lv_aload hx hb dX0_slopeBy_104 (lv_at hl 6 rfl) ?_
          refine xcd (xV (As := [.int ((sl σ) k), .double t, .ref aY]) (rest := [.double ((sk σ) k), .double a2]) hx hb hml hown hg (c_factor l D cD cI cM cL hE aO aK aL aR σ aY (sl σ k) t y hn) mM_X0_34 ok_X0_factor rfl rfl ⟨Nat.le_of_ble_eq_true rfl, Nat.le_of_ble_eq_true rfl⟩ hI hP hd rfl [0, 5] rfl rfl rfl rfl rfl hl.1 rfl (Nat.le_of_ble_eq_true rfl) dX0_slopeBy_106 ⟨Nat.zero_le _, Nat.zero_le _⟩) hP hd hS fa0 [] rfl rfl (fun _ => rfl) (fun _u H locs hu hP hS => ?_)
          have hP : va_P D vwCl [(hE, .inr (0, [.ref aO, .ref aK, .ref aL, .ref aR, .int (nI (sn σ)), .int (nI (sc σ))])), (aO, iA cI 10 (so σ)), (aK, dA cD 10 (sk σ)), (aL, iA cI 10 (sl σ)), (aR, iA cI 10 (sr σ)), (aY, dA cD 3 y)] H := hP
          refine lv_dmul hx hb dX0_slopeBy_109 ((js1_bd hσ h_k ht hy hK).2).nn ?_
          refine lv_dadd hx hb dX0_slopeBy_110 (jadd_bd hba2 (js1_bd hσ h_k ht hy hK).2 (by omega) hK).nn ?_
          refine lv_dstore (lv' := [(6, .double (FP.dadd a2 (FP.dmul ((sk σ) k) (vv (sn σ) t y (sl σ k))))), (8, .int (nI k)), (0, .ref hE), (1, .int (nI i)), (2, .int (nI j)), (3, .double t), (5, .ref aY)]) hx hb dX0_slopeBy_111 hl (by decide) rfl (fun ls hl => ?_)
          refine lv_iinc (v := nI (k + 1)) (lv' := [(8, .int (nI (k + 1))), (6, .double (FP.dadd a2 (FP.dmul ((sk σ) k) (vv (sn σ) t y (sl σ k))))), (0, .ref hE), (1, .int (nI i)), (2, .int (nI j)), (3, .double t), (5, .ref aY)]) hx hb dX0_slopeBy_113 hl (k := 1) rfl (nI_1 k) (by decide) rfl (fun ls hl => ?_)
          refine lv_goto (tgt := 6) hx hb dX0_slopeBy_116 (by decide) ?_
          exact ih _ _ _ ⟨_, show FP.dadd a2 _ = jend σ t y i j k (jmid σ t y i j k (jsum σ t y i j k)) by rw [← ha, ← ha2]; unfold jend; rw [if_pos ⟨c_72, c_83⟩], hP, hS, lv_sub hl [0, 1, 2, 3, 4, 5, 6] rfl⟩
    ·
      refine lv_aload_n hx hb dX0_slopeBy_15 rfl (lv_at hl 2 rfl) ?_
      refine gX0 hx hb hg hown hI hP 0 rfl 0 rfl mF_X0_9 rfl dX0_slopeBy_16 ?_
      refine lv_iload hx hb dX0_slopeBy_19 (lv_at hl 0 rfl) ?_
      refine xiald hx hb hI hP 1 1 rfl rfl (Nat.lt_of_lt_of_le h_k hc) (by decide) dX0_slopeBy_21 ?_
      refine lv_iload_n hx hb dX0_slopeBy_22 rfl (lv_at hl 3 rfl) ?_
      refine lv_icmp_ne (tgt := 64) hx hb dX0_slopeBy_23 (by decide) (fun c_23 => ?_) (fun c_23 => ?_)
      ·
        exact K1 _ _ _ ⟨_, show a = jmid σ t y i j k a by unfold jmid; rw [if_neg (fun h => c_23 h.1)], hP, hS, lv_sub hl [1, 0, 2, 3, 4, 5, 6] rfl⟩
      ·
        refine lv_aload_n hx hb dX0_slopeBy_26 rfl (lv_at hl 2 rfl) ?_
        refine xpc (q := 27) rfl ?_
        refine gX0 hx hb hg hown hI hP 0 rfl 2 rfl mF_X0_17 rfl dX0_slopeBy_27 ?_
        refine lv_iload hx hb dX0_slopeBy_30 (lv_at hl 0 rfl) ?_
        refine xiald hx hb hI hP 3 1 rfl rfl (Nat.lt_of_lt_of_le h_k hc) (by decide) dX0_slopeBy_32 ?_
        refine lv_iload_n hx hb dX0_slopeBy_33 rfl (lv_at hl 4 rfl) ?_
        refine lv_icmp_ne (tgt := 64) hx hb dX0_slopeBy_34 (by decide) (fun c_34 => ?_) (fun c_34 => ?_)
        ·
          exact K1 _ _ _ ⟨_, show a = jmid σ t y i j k a by unfold jmid; rw [if_neg (fun h => c_34 h.2)], hP, hS, lv_sub hl [1, 0, 2, 3, 4, 5, 6] rfl⟩
        ·
          refine lv_dload hx hb dX0_slopeBy_37 (lv_at hl 1 rfl) ?_
          refine lv_aload_n hx hb dX0_slopeBy_39 rfl (lv_at hl 2 rfl) ?_
          refine gX0 hx hb hg hown hI hP 0 rfl 1 rfl mF_X0_13 rfl dX0_slopeBy_40 ?_
          refine lv_iload hx hb dX0_slopeBy_43 (lv_at hl 0 rfl) ?_
          refine xdald hx hb hI hP 2 0 rfl rfl (Nat.lt_of_lt_of_le h_k hc) (by decide) dX0_slopeBy_45 ?_
          refine lv_aload_n hx hb dX0_slopeBy_46 rfl (lv_at hl 2 rfl) ?_
          refine lv_aload_n hx hb dX0_slopeBy_47 rfl (lv_at hl 2 rfl) ?_
          refine gX0 hx hb hg hown hI hP 0 rfl 3 rfl mF_X0_20 rfl dX0_slopeBy_48 ?_
          refine lv_iload hx hb dX0_slopeBy_51 (lv_at hl 0 rfl) ?_
          refine xiald hx hb hI hP 4 1 rfl rfl (Nat.lt_of_lt_of_le h_k hc) (by decide) dX0_slopeBy_53 ?_
          refine xpc (q := 54) rfl ?_
          refine lv_dload_n hx hb dX0_slopeBy_54 rfl (lv_at hl 5 rfl) ?_
          refine lv_aload hx hb dX0_slopeBy_55 (lv_at hl 6 rfl) ?_
          refine xcd (xV (As := [.int ((sr σ) k), .double t, .ref aY]) (rest := [.double ((sk σ) k), .double a]) hx hb hml hown hg (c_factor l D cD cI cM cL hE aO aK aL aR σ aY (sr σ k) t y hn) mM_X0_34 ok_X0_factor rfl rfl ⟨Nat.le_of_ble_eq_true rfl, Nat.le_of_ble_eq_true rfl⟩ hI hP hd rfl [0, 5] rfl rfl rfl rfl rfl hl.1 rfl (Nat.le_of_ble_eq_true rfl) dX0_slopeBy_57 ⟨Nat.zero_le _, Nat.zero_le _⟩) hP hd hS fa0 [] rfl rfl (fun _ => rfl) (fun _u H locs hu hP hS => ?_)
          have hP : va_P D vwCl [(hE, .inr (0, [.ref aO, .ref aK, .ref aL, .ref aR, .int (nI (sn σ)), .int (nI (sc σ))])), (aO, iA cI 10 (so σ)), (aK, dA cD 10 (sk σ)), (aL, iA cI 10 (sl σ)), (aR, iA cI 10 (sr σ)), (aY, dA cD 3 y)] H := hP
          refine lv_dmul hx hb dX0_slopeBy_60 ((js1_bd hσ h_k ht hy hK).1).nn ?_
          refine lv_dadd hx hb dX0_slopeBy_61 (jadd_bd hba (js1_bd hσ h_k ht hy hK).1 (by omega) hK).nn ?_
          refine lv_dstore (lv' := [(6, .double (FP.dadd a (FP.dmul ((sk σ) k) (vv (sn σ) t y (sr σ k))))), (8, .int (nI k)), (0, .ref hE), (1, .int (nI i)), (2, .int (nI j)), (3, .double t), (5, .ref aY)]) hx hb dX0_slopeBy_62 hl (by decide) rfl (fun ls hl => ?_)
          exact K1 _ _ _ ⟨_, show FP.dadd a _ = jmid σ t y i j k a by unfold jmid; rw [if_pos ⟨c_23, c_34⟩], hP, hS, lv_sub hl [0, 1, 2, 3, 4, 5, 6] rfl⟩
  ·
    intro H locs ls ⟨a, ha, hP, hS, hl⟩
    refine lv_iload hx hb dX0_slopeBy_6 (lv_at hl 0 rfl) ?_
    refine lv_aload_n hx hb dX0_slopeBy_8 rfl (lv_at hl 2 rfl) ?_
    refine gX0 hx hb hg hown hI hP 0 rfl 5 rfl mF_X0_27 rfl dX0_slopeBy_9 ?_
    refine lv_icmp_ge (tgt := 119) hx hb dX0_slopeBy_12 (by decide) (fun c_12 => ?_) (fun c_12 => absurd (Int32.le_refl _) c_12)
    refine lv_dload hx hb dX0_slopeBy_119 (lv_at hl 1 rfl) ?_
    refine xeqd (y := js σ t y i j) ha ?_
    exact W.dret hx hb hr (fun tS hTS hWS => ⟨(), rfl, trivial, by rw [hTS]; exact hP.sub [] rfl, hS.F hTS⟩) hS.2.2 dX0_slopeBy_121

set_option maxHeartbeats 4000000 in
set_option maxRecDepth 100000 in
theorem c_sizeOf (l : Launch) (D : va_G) (cD cI cM cL : ClassId) (x : UInt64)  : Met l yX6_sizeOf (Cond.code yX6_sizeOf cX6_sizeOf 2 (some .double) :: lw_good) { frames := 0, cells := 0, slots := 0, locals := 0 } (xPc D (tyL cD cI cM cL) [.double x] []) (xQ D [] (fun (_ : Unit) => some (.double (sz x))) (fun (_ : Unit) => True) (fun (_ : Unit) => [])) 0 0 (fun q => q ∈ ([] : List Nat)) := by
  refine xofW (adr := []) (by decide) (Nat.le_of_ble_eq_true rfl) ?_
  intro p e s m below meth c ls hx hb hr hml hg hown hlk hI hP hd hS hl
  have hown : s.vm.findClass RX6 = some m.cls := hown
  have hd : dj [] := hd
  have hl : lv_has ls 2 [(0, .double x)] := hl
  refine lv_dload_n hx hb dX6_sizeOf_0 rfl (lv_at hl 0 rfl) ?_
  refine lv_dconst0 hx hb dX6_sizeOf_1 ?_
  refine xg_ge (tgt := 11) hx hb dX6_sizeOf_2 dX6_sizeOf_3 (by decide) (fun c_2 => ?_) (fun c_2 => ?_)
  ·
    refine lv_dload_n hx hb dX6_sizeOf_11 rfl (lv_at hl 0 rfl) ?_
    refine xeqd (y := sz x) (show x = sz x by unfold sz; rw [if_neg c_2]) ?_
    exact W.dret hx hb hr (fun tS hTS hWS => ⟨(), rfl, trivial, by rw [hTS]; exact hP.sub [] rfl, hS.F hTS⟩) hS.2.2 dX6_sizeOf_12
  ·
    refine lv_dload_n hx hb dX6_sizeOf_6 rfl (lv_at hl 0 rfl) ?_
    refine lv_dneg hx hb dX6_sizeOf_7 ?_
    refine lv_goto (tgt := 12) hx hb dX6_sizeOf_8 (by decide) ?_
    refine xeqd (y := sz x) (show FP.dneg x = sz x by unfold sz; rw [if_pos c_2]) ?_
    exact W.dret hx hb hr (fun tS hTS hWS => ⟨(), rfl, trivial, by rw [hTS]; exact hP.sub [] rfl, hS.F hTS⟩) hS.2.2 dX6_sizeOf_12

set_option maxHeartbeats 4000000 in
set_option maxRecDepth 100000 in
theorem c_greatest (l : Launch) (D : va_G) (cD cI cM cL : ClassId) (aV : Nat) (v : Nat → UInt64) (n : Nat) (hn : n ≤ 3) : Met l yX6_greatest (Cond.code yX6_greatest cX6_greatest 7 (some .double) :: lw_good) { frames := 1, cells := 0, slots := 0, locals := 21 } (xPc D (tyL cD cI cM cL) [.ref aV, .int (nI n)] [(aV, dA cD 3 v)]) (xQ D [] (fun (_ : Unit) => some (.double (mxv v n))) (fun (_ : Unit) => True) (fun (_ : Unit) => [])) 0 0 (fun q => q ∈ ([] : List Nat)) := by
  refine xofW (adr := []) (by decide) (Nat.le_of_ble_eq_true rfl) ?_
  intro p e s m below meth c ls hx hb hr hml hg hown hlk hI hP hd hS hl
  have hown : s.vm.findClass RX6 = some m.cls := hown
  have hd : dj [aV] := hd
  have hl : lv_has ls 7 [(0, .ref aV), (1, .int (nI n))] := hl
  refine lv_dconst0 hx hb dX6_greatest_0 ?_
  refine lv_dstore_n (lv' := [(2, .double FP.dconst0), (0, .ref aV), (1, .int (nI n))]) hx hb dX6_greatest_1 rfl hl (by decide) rfl (fun ls hl => ?_)
  refine lv_iconst (v := nI 0) hx hb dX6_greatest_2 (by decide) ?_
  refine lv_istore (lv' := [(4, .int (nI 0)), (2, .double FP.dconst0), (0, .ref aV), (1, .int (nI n))]) hx hb dX6_greatest_3 hl (by decide) rfl (fun ls hl => ?_)
  refine xfor (I := fun i H locs ls => ∃ (a : UInt64), (a = mxv v i) ∧ va_P D vwCl [(aV, dA cD 3 v)] H ∧ va_S (fun q => q ∈ ([] : List Nat)) s.heap H locs ∧ lv_has ls 7 [(4, .int (nI i)), (2, .double a), (0, .ref aV), (1, .int (nI n))]) n 0 ⟨_, rfl, hP, hS, lv_sub hl [0, 1, 2, 3] rfl⟩ (Nat.zero_le _) ?_ ?_
  ·
    intro i h_i ih H locs ls ⟨a, ha, hP, hS, hl⟩
    refine lv_iload hx hb dX6_greatest_5 (lv_at hl 0 rfl) ?_
    refine lv_iload_n hx hb dX6_greatest_7 rfl (lv_at hl 3 rfl) ?_
    refine lv_icmp_ge (tgt := 40) hx hb dX6_greatest_8 (by decide) (fun c_8 => absurd c_8 (nI_ge h_i (by omega))) (fun c_8 => ?_)
    refine lv_aload_n hx hb dX6_greatest_11 rfl (lv_at hl 2 rfl) ?_
    refine lv_iload hx hb dX6_greatest_12 (lv_at hl 0 rfl) ?_
    refine xdald hx hb hI hP 0 0 rfl rfl (Nat.lt_of_lt_of_le h_i hn) (by decide) dX6_greatest_14 ?_
    refine xcd (xS (As := [.double (v i)]) (rest := []) hx hb hml hown hg (c_sizeOf l D cD cI cM cL (v i)) mM_X6_241 ok_X6_sizeOf rfl rfl ⟨Nat.le_of_ble_eq_true rfl, Nat.le_of_ble_eq_true rfl⟩ hI hP hd rfl [] rfl rfl rfl hl.1 rfl (Nat.le_of_ble_eq_true rfl) dX6_greatest_15 ⟨Nat.zero_le _, Nat.zero_le _⟩) hP hd hS fa0 [] rfl rfl (fun _ => rfl) (fun _u H locs hu hP hS => ?_)
    have hP : va_P D vwCl [(aV, dA cD 3 v)] H := hP
    refine lv_dstore (lv' := [(5, .double (sz (v i))), (4, .int (nI i)), (2, .double a), (0, .ref aV), (1, .int (nI n))]) hx hb dX6_greatest_18 hl (by decide) rfl (fun ls hl => ?_)
    refine lv_dload hx hb dX6_greatest_20 (lv_at hl 0 rfl) ?_
    refine lv_dload_n hx hb dX6_greatest_22 rfl (lv_at hl 2 rfl) ?_
    refine xl_le (tgt := 32) hx hb dX6_greatest_23 dX6_greatest_24 (by decide) (fun c_23 => ?_) (fun c_23 => ?_)
    ·
      refine lv_dload_n hx hb dX6_greatest_32 rfl (lv_at hl 2 rfl) ?_
      refine lv_dstore_n (lv' := [(2, .double a), (5, .double (sz (v i))), (4, .int (nI i)), (0, .ref aV), (1, .int (nI n))]) hx hb dX6_greatest_33 rfl hl (by decide) rfl (fun ls hl => ?_)
      refine lv_iinc (v := nI (i + 1)) (lv' := [(4, .int (nI (i + 1))), (2, .double a), (5, .double (sz (v i))), (0, .ref aV), (1, .int (nI n))]) hx hb dX6_greatest_34 hl (k := 2) rfl (nI_1 i) (by decide) rfl (fun ls hl => ?_)
      refine lv_goto (tgt := 5) hx hb dX6_greatest_37 (by decide) ?_
      exact ih _ _ _ ⟨_, show a = mxv v (i + 1) by unfold mxv; rw [← ha, if_neg c_23], hP, hS, lv_sub hl [0, 1, 3, 4] rfl⟩
    ·
      refine lv_dload hx hb dX6_greatest_27 (lv_at hl 0 rfl) ?_
      refine xpc (q := 29) rfl ?_
      refine lv_goto (tgt := 33) hx hb dX6_greatest_29 (by decide) ?_
      refine lv_dstore_n (lv' := [(2, .double (sz (v i))), (5, .double (sz (v i))), (4, .int (nI i)), (0, .ref aV), (1, .int (nI n))]) hx hb dX6_greatest_33 rfl hl (by decide) rfl (fun ls hl => ?_)
      refine lv_iinc (v := nI (i + 1)) (lv' := [(4, .int (nI (i + 1))), (2, .double (sz (v i))), (5, .double (sz (v i))), (0, .ref aV), (1, .int (nI n))]) hx hb dX6_greatest_34 hl (k := 2) rfl (nI_1 i) (by decide) rfl (fun ls hl => ?_)
      refine lv_goto (tgt := 5) hx hb dX6_greatest_37 (by decide) ?_
      exact ih _ _ _ ⟨_, show sz (v i) = mxv v (i + 1) by unfold mxv; rw [← ha, if_pos c_23], hP, hS, lv_sub hl [0, 1, 3, 4] rfl⟩
  ·
    intro H locs ls ⟨a, ha, hP, hS, hl⟩
    refine lv_iload hx hb dX6_greatest_5 (lv_at hl 0 rfl) ?_
    refine lv_iload_n hx hb dX6_greatest_7 rfl (lv_at hl 3 rfl) ?_
    refine lv_icmp_ge (tgt := 40) hx hb dX6_greatest_8 (by decide) (fun c_8 => ?_) (fun c_8 => absurd (Int32.le_refl _) c_8)
    refine lv_dload_n hx hb dX6_greatest_40 rfl (lv_at hl 1 rfl) ?_
    refine xeqd (y := mxv v n) ha ?_
    exact W.dret hx hb hr (fun tS hTS hWS => ⟨(), rfl, trivial, by rw [hTS]; exact hP.sub [] rfl, hS.F hTS⟩) hS.2.2 dX6_greatest_41

set_option maxHeartbeats 4000000 in
set_option maxRecDepth 100000 in
theorem c_isMethod (l : Launch) (D : va_G) (cD cI cM cL : ClassId) (m0 : Int32)  : Met l yX6_isMethod (Cond.code yX6_isMethod cX6_isMethod 1 (some .boolean) :: lw_good) { frames := 0, cells := 0, slots := 0, locals := 0 } (xPc D (tyL cD cI cM cL) [.int m0] []) (xQ D [] (fun (_ : Unit) => some (.int (bI (decide (nI 0 ≤ m0 ∧ m0 ≤ nI 5))))) (fun (_ : Unit) => True) (fun (_ : Unit) => [])) 0 0 (fun q => q ∈ ([] : List Nat)) := by
  refine xofW (adr := []) (by decide) (Nat.le_of_ble_eq_true rfl) ?_
  intro p e s m below meth c ls hx hb hr hml hg hown hlk hI hP hd hS hl
  have hown : s.vm.findClass RX6 = some m.cls := hown
  have hd : dj [] := hd
  have hl : lv_has ls 1 [(0, .int m0)] := hl
  refine lv_iload_n hx hb dX6_isMethod_0 rfl (lv_at hl 0 rfl) ?_
  refine lv_if_lt (tgt := 13) hx hb dX6_isMethod_1 (by decide) (fun c_1 => ?_) (fun c_1 => ?_)
  ·
    refine lv_iconst (v := nI 0) hx hb dX6_isMethod_13 (by decide) ?_
    refine xeqi (y := bI (decide (nI 0 ≤ m0 ∧ m0 ≤ nI 5))) (bI0 (df (fun h => (Int32.not_lt.mpr h.1) c_1))) ?_
    exact W.zret hx hb hr (bI_n _) (fun tS hTS hWS => ⟨(), rfl, trivial, by rw [hTS]; exact hP.sub [] rfl, hS.F hTS⟩) hS.2.2 dX6_isMethod_14
  ·
    refine lv_iload_n hx hb dX6_isMethod_4 rfl (lv_at hl 0 rfl) ?_
    refine lv_iconst (v := nI 5) hx hb dX6_isMethod_5 (by decide) ?_
    refine lv_icmp_gt (tgt := 13) hx hb dX6_isMethod_6 (by decide) (fun c_6 => ?_) (fun c_6 => ?_)
    ·
      refine lv_iconst (v := nI 0) hx hb dX6_isMethod_13 (by decide) ?_
      refine xeqi (y := bI (decide (nI 0 ≤ m0 ∧ m0 ≤ nI 5))) (bI0 (df (fun h => (Int32.not_lt.mpr h.2) c_6))) ?_
      exact W.zret hx hb hr (bI_n _) (fun tS hTS hWS => ⟨(), rfl, trivial, by rw [hTS]; exact hP.sub [] rfl, hS.F hTS⟩) hS.2.2 dX6_isMethod_14
    ·
      refine lv_iconst (v := nI 1) hx hb dX6_isMethod_9 (by decide) ?_
      refine lv_goto (tgt := 14) hx hb dX6_isMethod_10 (by decide) ?_
      refine xeqi (y := bI (decide (nI 0 ≤ m0 ∧ m0 ≤ nI 5))) (bI1 (dt ⟨Int32.not_lt.mp c_1, Int32.not_lt.mp c_6⟩)) ?_
      exact W.zret hx hb hr (bI_n _) (fun tS hTS hWS => ⟨(), rfl, trivial, by rw [hTS]; exact hP.sub [] rfl, hS.F hTS⟩) hS.2.2 dX6_isMethod_14

set_option maxHeartbeats 4000000 in
set_option maxRecDepth 100000 in
theorem c_isWithin (l : Launch) (D : va_G) (cD cI cM cL : ClassId) (x b : UInt64)  : Met l yX6_isWithin (Cond.code yX6_isWithin cX6_isWithin 4 (some .boolean) :: lw_good) { frames := 0, cells := 0, slots := 0, locals := 0 } (xPc D (tyL cD cI cM cL) [.double x, .double b] []) (xQ D [] (fun (_ : Unit) => some (.int (bI (decide ((dgt x (FP.dneg b) ∨ deq x (FP.dneg b)) ∧ (dlt x b ∨ deq x b)))))) (fun (_ : Unit) => True) (fun (_ : Unit) => [])) 0 0 (fun q => q ∈ ([] : List Nat)) := by
  refine xofW (adr := []) (by decide) (Nat.le_of_ble_eq_true rfl) ?_
  intro p e s m below meth c ls hx hb hr hml hg hown hlk hI hP hd hS hl
  have hown : s.vm.findClass RX6 = some m.cls := hown
  have hd : dj [] := hd
  have hl : lv_has ls 4 [(0, .double x), (2, .double b)] := hl
  refine lv_dload_n hx hb dX6_isWithin_0 rfl (lv_at hl 0 rfl) ?_
  refine lv_dload_n hx hb dX6_isWithin_1 rfl (lv_at hl 1 rfl) ?_
  refine lv_dneg hx hb dX6_isWithin_2 ?_
  refine xl_lt (tgt := 17) hx hb dX6_isWithin_3 dX6_isWithin_4 (by decide) (fun c_3 => ?_) (fun c_3 => ?_)
  ·
    refine lv_iconst (v := nI 0) hx hb dX6_isWithin_17 (by decide) ?_
    refine xeqi (y := bI (decide ((dgt x (FP.dneg b) ∨ deq x (FP.dneg b)) ∧ (dlt x b ∨ deq x b)))) (bI0 (df (fun h => c_3 h.1))) ?_
    exact W.zret hx hb hr (bI_n _) (fun tS hTS hWS => ⟨(), rfl, trivial, by rw [hTS]; exact hP.sub [] rfl, hS.F hTS⟩) hS.2.2 dX6_isWithin_18
  ·
    refine lv_dload_n hx hb dX6_isWithin_7 rfl (lv_at hl 0 rfl) ?_
    refine lv_dload_n hx hb dX6_isWithin_8 rfl (lv_at hl 1 rfl) ?_
    refine xg_gt (tgt := 17) hx hb dX6_isWithin_9 dX6_isWithin_10 (by decide) (fun c_9 => ?_) (fun c_9 => ?_)
    ·
      refine lv_iconst (v := nI 0) hx hb dX6_isWithin_17 (by decide) ?_
      refine xeqi (y := bI (decide ((dgt x (FP.dneg b) ∨ deq x (FP.dneg b)) ∧ (dlt x b ∨ deq x b)))) (bI0 (df (fun h => c_9 h.2))) ?_
      exact W.zret hx hb hr (bI_n _) (fun tS hTS hWS => ⟨(), rfl, trivial, by rw [hTS]; exact hP.sub [] rfl, hS.F hTS⟩) hS.2.2 dX6_isWithin_18
    ·
      refine lv_iconst (v := nI 1) hx hb dX6_isWithin_13 (by decide) ?_
      refine lv_goto (tgt := 18) hx hb dX6_isWithin_14 (by decide) ?_
      refine xeqi (y := bI (decide ((dgt x (FP.dneg b) ∨ deq x (FP.dneg b)) ∧ (dlt x b ∨ deq x b)))) (bI1 (dt ⟨c_3, c_9⟩)) ?_
      exact W.zret hx hb hr (bI_n _) (fun tS hTS hWS => ⟨(), rfl, trivial, by rw [hTS]; exact hP.sub [] rfl, hS.F hTS⟩) hS.2.2 dX6_isWithin_18

set_option maxHeartbeats 4000000 in
set_option maxRecDepth 100000 in
theorem c_isSize (l : Launch) (D : va_G) (cD cI cM cL : ClassId) (x : UInt64)  : Met l yX6_isSize (Cond.code yX6_isSize cX6_isSize 2 (some .boolean) :: lw_good) { frames := 0, cells := 0, slots := 0, locals := 0 } (xPc D (tyL cD cI cM cL) [.double x] []) (xQ D [] (fun (_ : Unit) => some (.int (bI (decide ((dgt x FP.dconst0) ∧ (dlt x k4 ∨ deq x k4)))))) (fun (_ : Unit) => True) (fun (_ : Unit) => [])) 0 0 (fun q => q ∈ ([] : List Nat)) := by
  refine xofW (adr := []) (by decide) (Nat.le_of_ble_eq_true rfl) ?_
  intro p e s m below meth c ls hx hb hr hml hg hown hlk hI hP hd hS hl
  have hown : s.vm.findClass RX6 = some m.cls := hown
  have hd : dj [] := hd
  have hl : lv_has ls 2 [(0, .double x)] := hl
  refine lv_dload_n hx hb dX6_isSize_0 rfl (lv_at hl 0 rfl) ?_
  refine lv_dconst0 hx hb dX6_isSize_1 ?_
  refine xl_le (tgt := 18) hx hb dX6_isSize_2 dX6_isSize_3 (by decide) (fun c_2 => ?_) (fun c_2 => ?_)
  ·
    refine lv_iconst (v := nI 0) hx hb dX6_isSize_18 (by decide) ?_
    refine xeqi (y := bI (decide ((dgt x FP.dconst0) ∧ (dlt x k4 ∨ deq x k4)))) (bI0 (df (fun h => c_2 h.1))) ?_
    exact W.zret hx hb hr (bI_n _) (fun tS hTS hWS => ⟨(), rfl, trivial, by rw [hTS]; exact hP.sub [] rfl, hS.F hTS⟩) hS.2.2 dX6_isSize_19
  ·
    refine lv_dload_n hx hb dX6_isSize_6 rfl (lv_at hl 0 rfl) ?_
    refine lv_ldc2d (v := k4) hx hb hown (hg _ mD_X6_239) dX6_isSize_7 ?_
    refine xg_gt (tgt := 18) hx hb dX6_isSize_10 dX6_isSize_11 (by decide) (fun c_10 => ?_) (fun c_10 => ?_)
    ·
      refine lv_iconst (v := nI 0) hx hb dX6_isSize_18 (by decide) ?_
      refine xeqi (y := bI (decide ((dgt x FP.dconst0) ∧ (dlt x k4 ∨ deq x k4)))) (bI0 (df (fun h => c_10 h.2))) ?_
      exact W.zret hx hb hr (bI_n _) (fun tS hTS hWS => ⟨(), rfl, trivial, by rw [hTS]; exact hP.sub [] rfl, hS.F hTS⟩) hS.2.2 dX6_isSize_19
    ·
      refine lv_iconst (v := nI 1) hx hb dX6_isSize_14 (by decide) ?_
      refine lv_goto (tgt := 19) hx hb dX6_isSize_15 (by decide) ?_
      refine xeqi (y := bI (decide ((dgt x FP.dconst0) ∧ (dlt x k4 ∨ deq x k4)))) (bI1 (dt ⟨c_2, c_10⟩)) ?_
      exact W.zret hx hb hr (bI_n _) (fun tS hTS hWS => ⟨(), rfl, trivial, by rw [hTS]; exact hP.sub [] rfl, hS.F hTS⟩) hS.2.2 dX6_isSize_19
