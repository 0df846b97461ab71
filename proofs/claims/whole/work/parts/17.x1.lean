theorem ok_X1_setRest : okV yX1_setRest RX1 cX1_setRest 8 none 4 := ⟨mI_X1_setRest, mS_X1_setRest, mN_X1, mC_X1_setRest, by decide +kernel⟩
theorem ok_X1_setMatrix : okV yX1_setMatrix RX1 cX1_setMatrix 10 none 3 := ⟨mI_X1_setMatrix, mS_X1_setMatrix, mN_X1, mC_X1_setMatrix, by decide +kernel⟩
theorem ok_X1_pivotRow : okV yX1_pivotRow RX1 cX1_pivotRow 5 (some .int) 2 := ⟨mI_X1_pivotRow, mS_X1_pivotRow, mN_X1, mC_X1_pivotRow, by decide +kernel⟩
theorem ok_X1_exchange : okV yX1_exchange RX1 cX1_exchange 7 none 3 := ⟨mI_X1_exchange, mS_X1_exchange, mN_X1, mC_X1_exchange, by decide +kernel⟩
theorem ok_X1_takeAway : okV yX1_takeAway RX1 cX1_takeAway 7 none 3 := ⟨mI_X1_takeAway, mS_X1_takeAway, mN_X1, mC_X1_takeAway, by decide +kernel⟩
theorem ok_X1_eliminate : okV yX1_eliminate RX1 cX1_eliminate 4 (some .boolean) 1 := ⟨mI_X1_eliminate, mS_X1_eliminate, mN_X1, mC_X1_eliminate, by decide +kernel⟩
theorem ok_X1_substitute : okV yX1_substitute RX1 cX1_substitute 6 none 1 := ⟨mI_X1_substitute, mS_X1_substitute, mN_X1, mC_X1_substitute, by decide +kernel⟩
theorem ok_X1_solve : okV yX1_solve RX1 cX1_solve 10 (some .boolean) 4 := ⟨mI_X1_solve, mS_X1_solve, mN_X1, mC_X1_solve, by decide +kernel⟩
set_option maxHeartbeats 4000000 in
set_option maxRecDepth 100000 in
theorem c_pivotRow (l : Launch) (D : va_G) (cD cI cM cL : ClassId) (hX hE aM aQ aD : Nat) (mr : Nat → Nat) (rw : Nat → Option Nat) (M Mc : Nat → Nat → UInt64) (k n : Nat) (hrw : ∀ i, i < 3 → rw i = some (mr i)) (hn : n ≤ 3) (hkn : k < n) (hM : agM n M Mc) : Met l yX1_pivotRow (Cond.code yX1_pivotRow cX1_pivotRow 5 (some .int) :: lw_good) { frames := 1, cells := 0, slots := 0, locals := 21 } (xPc D (tyL cD cI cM cL) [.ref hX, .int (nI k), .int (nI n)] [(hX, .inr (1, [.ref hE, .ref aM, .ref aQ, .ref aD])), (aM, rA cM 3 rw), (mr 0, dA cD 3 (M 0)), (mr 1, dA cD 3 (M 1)), (mr 2, dA cD 3 (M 2))]) (xQ D [] (fun (_ : Unit) => some (.int (nI (piv Mc k (n - 1 - k))))) (fun (_ : Unit) => True) (fun (_ : Unit) => [])) 0 0 (fun q => q ∈ ([] : List Nat)) := by
  refine xofW (adr := []) (by decide) (Nat.le_of_ble_eq_true rfl) ?_
  intro p e s m below meth c ls hx hb hr hml hg hown hlk hI hP hd hS hl
  have hown : s.vm.findClass RX1 = some m.cls := hown
  have hd : dj [hX, aM, mr 0, mr 1, mr 2] := hd
  have hl : lv_has ls 5 [(0, .ref hX), (1, .int (nI k)), (2, .int (nI n))] := hl
  refine lv_iload_n hx hb dX1_pivotRow_0 rfl (lv_at hl 1 rfl) ?_
  refine lv_istore_n (lv' := [(3, .int (nI k)), (0, .ref hX), (1, .int (nI k)), (2, .int (nI n))]) hx hb dX1_pivotRow_1 rfl hl (by decide) rfl (fun ls hl => ?_)
  refine lv_iload_n hx hb dX1_pivotRow_2 rfl (lv_at hl 2 rfl) ?_
  refine lv_iconst (v := nI 1) hx hb dX1_pivotRow_3 (by decide) ?_
  refine lv_iadd hx hb dX1_pivotRow_4 ?_
  refine xeqi (y := nI (k + 1)) (nI_add k 1) ?_
  refine lv_istore (lv' := [(4, .int (nI (k + 1))), (3, .int (nI k)), (0, .ref hX), (1, .int (nI k)), (2, .int (nI n))]) hx hb dX1_pivotRow_5 hl (by decide) rfl (fun ls hl => ?_)
  refine xfor (I := fun x1 H locs ls => (True) ∧ va_P D vwCl [(hX, .inr (1, [.ref hE, .ref aM, .ref aQ, .ref aD])), (aM, rA cM 3 rw), (mr 0, dA cD 3 (M 0)), (mr 1, dA cD 3 (M 1)), (mr 2, dA cD 3 (M 2))] H ∧ va_S (fun q => q ∈ ([] : List Nat)) s.heap H locs ∧ lv_has ls 5 [(4, .int (nI (k + 1 + x1))), (3, .int (nI (piv Mc k x1))), (0, .ref hX), (1, .int (nI k)), (2, .int (nI n))]) (n - 1 - k) 0 ⟨trivial, hP, hS, lv_sub hl [0, 1, 2, 3, 4] rfl⟩ (Nat.zero_le _) ?_ ?_
  ·
    intro x1 h_x1 ih H locs ls ⟨_hv, hP, hS, hl⟩
    have hp := piv_lt (M := Mc) (c := k) x1
    refine lv_iload hx hb dX1_pivotRow_7 (lv_at hl 0 rfl) ?_
    refine lv_iload_n hx hb dX1_pivotRow_9 rfl (lv_at hl 4 rfl) ?_
    refine lv_icmp_ge (tgt := 49) hx hb dX1_pivotRow_10 (by decide) (fun c_10 => absurd c_10 (nI_ge (show k + 1 + x1 < n by omega) (by omega))) (fun c_10 => ?_)
    refine lv_aload_n hx hb dX1_pivotRow_13 rfl (lv_at hl 2 rfl) ?_
    refine gX1 hx hb hg hown hI hP 0 rfl 1 rfl mF_X1_11 rfl dX1_pivotRow_14 ?_
    refine lv_iload hx hb dX1_pivotRow_17 (lv_at hl 0 rfl) ?_
    refine xaald hx hb hI hP 1 2 rfl rfl (by omega) (by decide) (hrw (k + 1 + x1) (by omega)) dX1_pivotRow_19 ?_
    refine lv_iload_n hx hb dX1_pivotRow_20 rfl (lv_at hl 3 rfl) ?_
    refine xpc (q := 21) rfl ?_
    refine xdald hx hb hI hP (2 + (k + 1 + x1)) 0 (rw3 (a := mr) (M := M) (by omega) rfl rfl rfl) rfl (by omega) (by decide) dX1_pivotRow_21 ?_
    refine xeqd (y := Mc (k + 1 + x1) k) (hM (k + 1 + x1) k (by omega) (by omega)) ?_
    refine xcd (xN (As := [.double (Mc (k + 1 + x1) k)]) (rest := []) hx hb hml hown hg (c_sizeOf l D cD cI cM cL (Mc (k + 1 + x1) k)) hI.2.2.2.2.1 ok_X6_sizeOf rfl rfl ⟨Nat.le_of_ble_eq_true rfl, Nat.le_of_ble_eq_true rfl⟩ hI hP hd rfl [] rfl rfl rfl hl.1 rfl (Nat.le_of_ble_eq_true rfl) dX1_pivotRow_22 ⟨Nat.zero_le _, Nat.zero_le _⟩) hP hd hS fa0 [] rfl rfl (fun _ => rfl) (fun _u H locs hu hP hS => ?_)
    have hP : va_P D vwCl [(hX, .inr (1, [.ref hE, .ref aM, .ref aQ, .ref aD])), (aM, rA cM 3 rw), (mr 0, dA cD 3 (M 0)), (mr 1, dA cD 3 (M 1)), (mr 2, dA cD 3 (M 2))] H := hP
    refine lv_aload_n hx hb dX1_pivotRow_25 rfl (lv_at hl 2 rfl) ?_
    refine gX1 hx hb hg hown hI hP 0 rfl 1 rfl mF_X1_11 rfl dX1_pivotRow_26 ?_
    refine lv_iload_n hx hb dX1_pivotRow_29 rfl (lv_at hl 1 rfl) ?_
    refine xaald hx hb hI hP 1 2 rfl rfl (by omega) (by decide) (hrw (piv Mc k x1) (by omega)) dX1_pivotRow_30 ?_
    refine lv_iload_n hx hb dX1_pivotRow_31 rfl (lv_at hl 3 rfl) ?_
    refine xdald hx hb hI hP (2 + (piv Mc k x1)) 0 (rw3 (a := mr) (M := M) (by omega) rfl rfl rfl) rfl (by omega) (by decide) dX1_pivotRow_32 ?_
    refine xeqd (y := Mc (piv Mc k x1) k) (hM (piv Mc k x1) k (by omega) (by omega)) ?_
    refine xcd (xN (As := [.double (Mc (piv Mc k x1) k)]) (rest := [.double (sz (Mc (k + 1 + x1) k))]) hx hb hml hown hg (c_sizeOf l D cD cI cM cL (Mc (piv Mc k x1) k)) hI.2.2.2.2.1 ok_X6_sizeOf rfl rfl ⟨Nat.le_of_ble_eq_true rfl, Nat.le_of_ble_eq_true rfl⟩ hI hP hd rfl [] rfl rfl rfl hl.1 rfl (Nat.le_of_ble_eq_true rfl) dX1_pivotRow_33 ⟨Nat.zero_le _, Nat.zero_le _⟩) hP hd hS fa0 [] rfl rfl (fun _ => rfl) (fun _u H locs hu hP hS => ?_)
    have hP : va_P D vwCl [(hX, .inr (1, [.ref hE, .ref aM, .ref aQ, .ref aD])), (aM, rA cM 3 rw), (mr 0, dA cD 3 (M 0)), (mr 1, dA cD 3 (M 1)), (mr 2, dA cD 3 (M 2))] H := hP
    refine xl_le (tgt := 43) hx hb dX1_pivotRow_36 dX1_pivotRow_37 (by decide) (fun c_36 => ?_) (fun c_36 => ?_)
    ·
      have hpe : piv Mc k x1 = piv Mc k (x1 + 1) := by show _ = (if _ then _ else _); rw [if_neg c_36]
      refine lv_iinc (v := nI (k + 1 + x1 + 1)) (lv' := [(4, .int (nI (k + 1 + x1 + 1))), (3, .int (nI (piv Mc k x1))), (0, .ref hX), (1, .int (nI k)), (2, .int (nI n))]) hx hb dX1_pivotRow_43 hl (k := 0) rfl (nI_1 (k + 1 + x1)) (by decide) rfl (fun ls hl => ?_)
      refine lv_goto (tgt := 7) hx hb dX1_pivotRow_46 (by decide) ?_
      rw [hpe] at hl
      exact ih _ _ _ ⟨trivial, hP, hS, lv_sub hl [0, 1, 2, 3, 4] rfl⟩
    ·
      have hpe : k + 1 + x1 = piv Mc k (x1 + 1) := by show _ = (if _ then _ else _); rw [if_pos c_36]
      refine lv_iload hx hb dX1_pivotRow_40 (lv_at hl 0 rfl) ?_
      refine lv_istore_n (lv' := [(3, .int (nI (k + 1 + x1))), (4, .int (nI (k + 1 + x1))), (0, .ref hX), (1, .int (nI k)), (2, .int (nI n))]) hx hb dX1_pivotRow_42 rfl hl (by decide) rfl (fun ls hl => ?_)
      refine lv_iinc (v := nI (k + 1 + x1 + 1)) (lv' := [(4, .int (nI (k + 1 + x1 + 1))), (3, .int (nI (k + 1 + x1))), (0, .ref hX), (1, .int (nI k)), (2, .int (nI n))]) hx hb dX1_pivotRow_43 hl (k := 1) rfl (nI_1 (k + 1 + x1)) (by decide) rfl (fun ls hl => ?_)
      refine lv_goto (tgt := 7) hx hb dX1_pivotRow_46 (by decide) ?_
      have hl : lv_has ls 5 [(4, .int (nI (k + 1 + x1 + 1))), (3, .int (nI (piv Mc k (x1 + 1)))), (0, .ref hX), (1, .int (nI k)), (2, .int (nI n))] := by rw [← hpe]; exact hl
      exact ih _ _ _ ⟨trivial, hP, hS, lv_sub hl [0, 1, 2, 3, 4] rfl⟩
  ·
    intro H locs ls ⟨_hv, hP, hS, hl⟩
    refine lv_iload hx hb dX1_pivotRow_7 (lv_at hl 0 rfl) ?_
    refine lv_iload_n hx hb dX1_pivotRow_9 rfl (lv_at hl 4 rfl) ?_
    refine lv_icmp_ge (tgt := 49) hx hb dX1_pivotRow_10 (by decide) (fun c_10 => ?_) (fun c_10 => absurd (nI_le (by omega) (by omega)) c_10)
    refine lv_iload_n hx hb dX1_pivotRow_49 rfl (lv_at hl 1 rfl) ?_
    exact W.iret hx hb hr (fun tS hTS hWS => ⟨(), rfl, trivial, by rw [hTS]; exact hP.sub [] rfl, hS.F hTS⟩) hS.2.2 dX1_pivotRow_50

set_option maxHeartbeats 4000000 in
set_option maxRecDepth 100000 in
theorem c_exchange (l : Launch) (D : va_G) (cD cI cM cL : ClassId) (hX hE aM aQ aD : Nat) (mr : Nat → Nat) (rw : Nat → Option Nat) (M Mc : Nat → Nat → UInt64) (R Rc : Nat → UInt64) (a b n : Nat) (hrw : ∀ i, i < 3 → rw i = some (mr i)) (hn : n ≤ 3) (ha : a < n) (hbn : b < n) (hM : agM n M Mc) (hR : agV n R Rc) : Met l yX1_exchange (Cond.code yX1_exchange cX1_exchange 7 none :: lw_good) { frames := 0, cells := 0, slots := 0, locals := 0 } (xPc D (tyL cD cI cM cL) [.ref hX, .int (nI a), .int (nI b), .int (nI n)] [(hX, .inr (1, [.ref hE, .ref aM, .ref aQ, .ref aD])), (aM, rA cM 3 rw), (mr 0, dA cD 3 (M 0)), (mr 1, dA cD 3 (M 1)), (mr 2, dA cD 3 (M 2)), (aQ, dA cD 3 R)]) (xQ D [mr 0, mr 1, mr 2, aQ] (fun (u : (Nat → Nat → UInt64) × (Nat → UInt64)) => none) (fun (u : (Nat → Nat → UInt64) × (Nat → UInt64)) => agM n u.1 (exM Mc a b) ∧ agV n u.2 (exR Rc a b)) (fun (u : (Nat → Nat → UInt64) × (Nat → UInt64)) => [(mr 0, dA cD 3 (u.1 0)), (mr 1, dA cD 3 (u.1 1)), (mr 2, dA cD 3 (u.1 2)), (aQ, dA cD 3 u.2)])) 0 0 (fun q => q ∈ ([mr 0, mr 1, mr 2, aQ] : List Nat)) := by
  refine xofW (adr := [mr 0, mr 1, mr 2, aQ]) (by decide) (Nat.le_of_ble_eq_true rfl) ?_
  intro p e s m below meth c ls hx hb hr hml hg hown hlk hI hP hd hS hl
  have hown : s.vm.findClass RX1 = some m.cls := hown
  have hd : dj [hX, aM, mr 0, mr 1, mr 2, aQ] := hd
  have hl : lv_has ls 7 [(0, .ref hX), (1, .int (nI a)), (2, .int (nI b)), (3, .int (nI n))] := hl
  refine lv_iconst (v := nI 0) hx hb dX1_exchange_0 (by decide) ?_
  refine lv_istore (lv' := [(4, .int (nI 0)), (0, .ref hX), (1, .int (nI a)), (2, .int (nI b)), (3, .int (nI n))]) hx hb dX1_exchange_1 hl (by decide) rfl (fun ls hl => ?_)
  refine xfor (I := fun j H locs ls => ∃ (M1 : Nat → Nat → UInt64), (∀ i q, i < n → q < n → M1 i q = if q < j then exM Mc a b i q else Mc i q) ∧ va_P D vwCl [(hX, .inr (1, [.ref hE, .ref aM, .ref aQ, .ref aD])), (aM, rA cM 3 rw), (mr 0, dA cD 3 (M1 0)), (mr 1, dA cD 3 (M1 1)), (mr 2, dA cD 3 (M1 2)), (aQ, dA cD 3 R)] H ∧ va_S (fun q => q ∈ ([mr 0, mr 1, mr 2, aQ] : List Nat)) s.heap H locs ∧ lv_has ls 7 [(4, .int (nI j)), (0, .ref hX), (1, .int (nI a)), (2, .int (nI b)), (3, .int (nI n))]) n 0 ⟨_, (fun i j hi hj => by rw [if_neg (Nat.not_lt_zero _)]; exact hM i j hi hj), hP, hS, lv_sub hl [0, 1, 2, 3, 4] rfl⟩ (Nat.zero_le _) ?_ ?_
  ·
    intro j h_j ih H locs ls ⟨M1, hm, hP, hS, hl⟩
    refine lv_iload hx hb dX1_exchange_3 (lv_at hl 0 rfl) ?_
    refine lv_iload_n hx hb dX1_exchange_5 rfl (lv_at hl 4 rfl) ?_
    refine lv_icmp_ge (tgt := 55) hx hb dX1_exchange_6 (by decide) (fun c_6 => absurd c_6 (nI_ge h_j (by omega))) (fun c_6 => ?_)
    have ea : M1 a j = Mc a j := by rw [hm a j ha h_j, if_neg (Nat.lt_irrefl _)]
    have eb : M1 b j = Mc b j := by rw [hm b j hbn h_j, if_neg (Nat.lt_irrefl _)]
    refine lv_aload_n hx hb dX1_exchange_9 rfl (lv_at hl 1 rfl) ?_
    refine gX1 hx hb hg hown hI hP 0 rfl 1 rfl mF_X1_11 rfl dX1_exchange_10 ?_
    refine lv_iload_n hx hb dX1_exchange_13 rfl (lv_at hl 2 rfl) ?_
    refine xaald hx hb hI hP 1 2 rfl rfl (by omega) (by decide) (hrw a (by omega)) dX1_exchange_14 ?_
    refine lv_iload hx hb dX1_exchange_15 (lv_at hl 0 rfl) ?_
    refine xdald hx hb hI hP (2 + a) 0 (rw3 (a := mr) (M := M1) (by omega) rfl rfl rfl) rfl (by omega) (by decide) dX1_exchange_17 ?_
    refine xeqd (y := Mc a j) ea ?_
    refine lv_dstore (lv' := [(5, .double (Mc a j)), (4, .int (nI j)), (0, .ref hX), (1, .int (nI a)), (2, .int (nI b)), (3, .int (nI n))]) hx hb dX1_exchange_18 hl (by decide) rfl (fun ls hl => ?_)
    refine lv_aload_n hx hb dX1_exchange_20 rfl (lv_at hl 2 rfl) ?_
    refine gX1 hx hb hg hown hI hP 0 rfl 1 rfl mF_X1_11 rfl dX1_exchange_21 ?_
    refine xpc (q := 24) rfl ?_
    refine lv_iload_n hx hb dX1_exchange_24 rfl (lv_at hl 3 rfl) ?_
    refine xaald hx hb hI hP 1 2 rfl rfl (by omega) (by decide) (hrw a (by omega)) dX1_exchange_25 ?_
    refine lv_iload hx hb dX1_exchange_26 (lv_at hl 1 rfl) ?_
    refine lv_aload_n hx hb dX1_exchange_28 rfl (lv_at hl 2 rfl) ?_
    refine gX1 hx hb hg hown hI hP 0 rfl 1 rfl mF_X1_11 rfl dX1_exchange_29 ?_
    refine lv_iload_n hx hb dX1_exchange_32 rfl (lv_at hl 4 rfl) ?_
    refine xaald hx hb hI hP 1 2 rfl rfl (by omega) (by decide) (hrw b (by omega)) dX1_exchange_33 ?_
    refine lv_iload hx hb dX1_exchange_34 (lv_at hl 1 rfl) ?_
    refine xdald hx hb hI hP (2 + b) 0 (rw3 (a := mr) (M := M1) (by omega) rfl rfl rfl) rfl (by omega) (by decide) dX1_exchange_36 ?_
    refine xeqd (y := Mc b j) eb ?_
    refine xdast hx hb hI hP hd rfl hS (2 + a) 0 (rw3 (a := mr) (M := M1) (by omega) rfl rfl rfl) rfl (by omega) (by decide) (rq3 (A := fun q => q ∈ ([mr 0, mr 1, mr 2, aQ] : List Nat)) (a := mr) (by omega) pm0 (pmS pm0) (pmS (pmS pm0))) dX1_exchange_37 (fun H locs hP hS => ?_)
    have hP : va_P D vwCl [(hX, .inr (1, [.ref hE, .ref aM, .ref aQ, .ref aD])), (aM, rA cM 3 rw), (mr 0, dA cD 3 ((u2 M1 a j (Mc b j)) 0)), (mr 1, dA cD 3 ((u2 M1 a j (Mc b j)) 1)), (mr 2, dA cD 3 ((u2 M1 a j (Mc b j)) 2)), (aQ, dA cD 3 R)] H := by rcases (show a = 0 ∨ a = 1 ∨ a = 2 by have := (by omega); omega) with rfl | rfl | rfl <;> exact hP
    refine lv_aload_n hx hb dX1_exchange_38 rfl (lv_at hl 2 rfl) ?_
    refine gX1 hx hb hg hown hI hP 0 rfl 1 rfl mF_X1_11 rfl dX1_exchange_39 ?_
    refine lv_iload_n hx hb dX1_exchange_42 rfl (lv_at hl 4 rfl) ?_
    refine xaald hx hb hI hP 1 2 rfl rfl (by omega) (by decide) (hrw b (by omega)) dX1_exchange_43 ?_
    refine xpc (q := 44) rfl ?_
    refine lv_iload hx hb dX1_exchange_44 (lv_at hl 1 rfl) ?_
    refine lv_dload hx hb dX1_exchange_46 (lv_at hl 0 rfl) ?_
    refine xdast hx hb hI hP hd rfl hS (2 + b) 0 (rw3 (a := mr) (M := u2 M1 a j (Mc b j)) (by omega) rfl rfl rfl) rfl (by omega) (by decide) (rq3 (A := fun q => q ∈ ([mr 0, mr 1, mr 2, aQ] : List Nat)) (a := mr) (by omega) pm0 (pmS pm0) (pmS (pmS pm0))) dX1_exchange_48 (fun H locs hP hS => ?_)
    have hP : va_P D vwCl [(hX, .inr (1, [.ref hE, .ref aM, .ref aQ, .ref aD])), (aM, rA cM 3 rw), (mr 0, dA cD 3 ((u2 (u2 M1 a j (Mc b j)) b j (Mc a j)) 0)), (mr 1, dA cD 3 ((u2 (u2 M1 a j (Mc b j)) b j (Mc a j)) 1)), (mr 2, dA cD 3 ((u2 (u2 M1 a j (Mc b j)) b j (Mc a j)) 2)), (aQ, dA cD 3 R)] H := by rcases (show b = 0 ∨ b = 1 ∨ b = 2 by have := (by omega); omega) with rfl | rfl | rfl <;> exact hP
    refine lv_iinc (v := nI (j + 1)) (lv' := [(4, .int (nI (j + 1))), (5, .double (Mc a j)), (0, .ref hX), (1, .int (nI a)), (2, .int (nI b)), (3, .int (nI n))]) hx hb dX1_exchange_49 hl (k := 1) rfl (nI_1 j) (by decide) rfl (fun ls hl => ?_)
    refine lv_goto (tgt := 3) hx hb dX1_exchange_52 (by decide) ?_
    have hm' : ∀ i q, i < n → q < n → (u2 (u2 M1 a j (Mc b j)) b j (Mc a j)) i q = if q < j + 1 then exM Mc a b i q else Mc i q := by
      intro i q hi hq
      by_cases hqj : q = j
      · subst hqj
        rw [if_pos (Nat.lt_succ_self _)]
        by_cases hib : i = b
        · subst hib
          rw [u2_s]
          unfold exM
          by_cases hia : i = a
          · subst hia; rw [if_pos rfl]
          · rw [if_neg hia, if_pos rfl]
        · rw [u2_n (fun z => hib z.1)]
          by_cases hia : i = a
          · subst hia; rw [u2_s]; unfold exM; rw [if_pos rfl]
          · rw [u2_n (fun z => hia z.1), hm i q hi hq, if_neg (Nat.lt_irrefl _)]; unfold exM; rw [if_neg hia, if_neg hib]
      · rw [u2_n (fun z => hqj z.2), u2_n (fun z => hqj z.2), hm i q hi hq]
        by_cases hlt : q < j
        · rw [if_pos hlt, if_pos (by omega)]
        · rw [if_neg hlt, if_neg (by omega)]
    exact ih _ _ _ ⟨_, hm', hP, hS, lv_sub hl [0, 2, 3, 4, 5] rfl⟩
  ·
    intro H locs ls ⟨M1, hm, hP, hS, hl⟩
    refine lv_iload hx hb dX1_exchange_3 (lv_at hl 0 rfl) ?_
    refine lv_iload_n hx hb dX1_exchange_5 rfl (lv_at hl 4 rfl) ?_
    refine lv_icmp_ge (tgt := 55) hx hb dX1_exchange_6 (by decide) (fun c_6 => ?_) (fun c_6 => absurd (Int32.le_refl _) c_6)
    refine lv_aload_n hx hb dX1_exchange_55 rfl (lv_at hl 1 rfl) ?_
    refine gX1 hx hb hg hown hI hP 0 rfl 2 rfl mF_X1_16 rfl dX1_exchange_56 ?_
    refine lv_iload_n hx hb dX1_exchange_59 rfl (lv_at hl 2 rfl) ?_
    refine xdald hx hb hI hP 5 0 rfl rfl (by omega) (by decide) dX1_exchange_60 ?_
    refine lv_dstore (lv' := [(4, .double (R a)), (0, .ref hX), (1, .int (nI a)), (2, .int (nI b)), (3, .int (nI n))]) hx hb dX1_exchange_61 hl (by decide) rfl (fun ls hl => ?_)
    refine lv_aload_n hx hb dX1_exchange_63 rfl (lv_at hl 1 rfl) ?_
    refine gX1 hx hb hg hown hI hP 0 rfl 2 rfl mF_X1_16 rfl dX1_exchange_64 ?_
    refine lv_iload_n hx hb dX1_exchange_67 rfl (lv_at hl 2 rfl) ?_
    refine lv_aload_n hx hb dX1_exchange_68 rfl (lv_at hl 1 rfl) ?_
    refine xpc (q := 69) rfl ?_
    refine gX1 hx hb hg hown hI hP 0 rfl 2 rfl mF_X1_16 rfl dX1_exchange_69 ?_
    refine lv_iload_n hx hb dX1_exchange_72 rfl (lv_at hl 3 rfl) ?_
    refine xdald hx hb hI hP 5 0 rfl rfl (by omega) (by decide) dX1_exchange_73 ?_
    refine xdast hx hb hI hP hd rfl hS 5 0 rfl rfl (by omega) (by decide) (pmS (pmS (pmS pm0))) dX1_exchange_74 (fun H locs hP hS => ?_)
    have hP : va_P D vwCl [(hX, .inr (1, [.ref hE, .ref aM, .ref aQ, .ref aD])), (aM, rA cM 3 rw), (mr 0, dA cD 3 (M1 0)), (mr 1, dA cD 3 (M1 1)), (mr 2, dA cD 3 (M1 2)), (aQ, dA cD 3 (vf_upd R a (R b)))] H := hP
    refine lv_aload_n hx hb dX1_exchange_75 rfl (lv_at hl 1 rfl) ?_
    refine gX1 hx hb hg hown hI hP 0 rfl 2 rfl mF_X1_16 rfl dX1_exchange_76 ?_
    refine lv_iload_n hx hb dX1_exchange_79 rfl (lv_at hl 3 rfl) ?_
    refine lv_dload hx hb dX1_exchange_80 (lv_at hl 0 rfl) ?_
    refine xdast hx hb hI hP hd rfl hS 5 0 rfl rfl (by omega) (by decide) (pmS (pmS (pmS pm0))) dX1_exchange_82 (fun H locs hP hS => ?_)
    have hP : va_P D vwCl [(hX, .inr (1, [.ref hE, .ref aM, .ref aQ, .ref aD])), (aM, rA cM 3 rw), (mr 0, dA cD 3 (M1 0)), (mr 1, dA cD 3 (M1 1)), (mr 2, dA cD 3 (M1 2)), (aQ, dA cD 3 (vf_upd (vf_upd R a (R b)) b (R a)))] H := hP
    have hr1 : agV n (vf_upd (vf_upd R a (R b)) b (R a)) (exR Rc a b) := by
      intro i hi
      unfold exR
      by_cases hib : i = b
      · subst hib
        rw [vu_s]
        by_cases hia : i = a
        · subst hia; rw [if_pos rfl]; exact hR i hi
        · rw [if_neg hia, if_pos rfl]; exact hR a ha
      · rw [vu_n hib]
        by_cases hia : i = a
        · subst hia; rw [vu_s, if_pos rfl]; exact hR b hbn
        · rw [vu_n hia, if_neg hia, if_neg hib]; exact hR i hi
    exact W.vret hx hb hr (fun tS hTS hWS => ⟨(M1, vf_upd (vf_upd R a (R b)) b (R a)), rfl, ⟨fun i j hi hj => by show M1 i j = _; rw [hm i j hi hj, if_pos hj], hr1⟩, by rw [hTS]; exact hP.sub [2, 3, 4, 5] rfl, hS.F hTS⟩) hS.2.2 dX1_exchange_83

set_option maxHeartbeats 4000000 in
set_option maxRecDepth 100000 in
theorem c_takeAway (l : Launch) (D : va_G) (cD cI cM cL : ClassId) (hX hE aM aQ aD : Nat) (mr : Nat → Nat) (rw : Nat → Option Nat) (M Mc : Nat → Nat → UInt64) (R Rc : Nat → UInt64) (k0 k n B RB : Nat) (hrw : ∀ i, i < 3 → rw i = some (mr i)) (hn : n ≤ 3) (hc : k0 < k) (hkn : k < n) (hM : agM n M Mc) (hR : agV n R Rc) (hbM : bR n B RB k0 k Mc Rc) (hlb : lbd 1044 (Mc k0 k0)) (hB : 2 * B + 31 ≤ 1000) (hRB : B + RB + 31 ≤ 1000) : Met l yX1_takeAway (Cond.code yX1_takeAway cX1_takeAway 7 none :: lw_good) { frames := 0, cells := 0, slots := 0, locals := 0 } (xPc D (tyL cD cI cM cL) [.ref hX, .int (nI k0), .int (nI k), .int (nI n)] [(hX, .inr (1, [.ref hE, .ref aM, .ref aQ, .ref aD])), (aM, rA cM 3 rw), (mr 0, dA cD 3 (M 0)), (mr 1, dA cD 3 (M 1)), (mr 2, dA cD 3 (M 2)), (aQ, dA cD 3 R)]) (xQ D [mr 0, mr 1, mr 2, aQ] (fun (u : (Nat → Nat → UInt64) × (Nat → UInt64)) => none) (fun (u : (Nat → Nat → UInt64) × (Nat → UInt64)) => agM n u.1 (tkM Mc k0 k) ∧ agV n u.2 (tkR Mc Rc k0 k)) (fun (u : (Nat → Nat → UInt64) × (Nat → UInt64)) => [(mr 0, dA cD 3 (u.1 0)), (mr 1, dA cD 3 (u.1 1)), (mr 2, dA cD 3 (u.1 2)), (aQ, dA cD 3 u.2)])) 0 0 (fun q => q ∈ ([mr 0, mr 1, mr 2, aQ] : List Nat)) := by
  refine xofW (adr := [mr 0, mr 1, mr 2, aQ]) (by decide) (Nat.le_of_ble_eq_true rfl) ?_
  intro p e s m below meth c ls hx hb hr hml hg hown hlk hI hP hd hS hl
  have hown : s.vm.findClass RX1 = some m.cls := hown
  have hd : dj [hX, aM, mr 0, mr 1, mr 2, aQ] := hd
  have hl : lv_has ls 7 [(0, .ref hX), (1, .int (nI k0)), (2, .int (nI k)), (3, .int (nI n))] := hl
  refine lv_aload_n hx hb dX1_takeAway_0 rfl (lv_at hl 0 rfl) ?_
  refine gX1 hx hb hg hown hI hP 0 rfl 1 rfl mF_X1_11 rfl dX1_takeAway_1 ?_
  refine lv_iload_n hx hb dX1_takeAway_4 rfl (lv_at hl 2 rfl) ?_
  refine xaald hx hb hI hP 1 2 rfl rfl (by omega) (by decide) (hrw k (by omega)) dX1_takeAway_5 ?_
  refine lv_iload_n hx hb dX1_takeAway_6 rfl (lv_at hl 1 rfl) ?_
  refine xdald hx hb hI hP (2 + k) 0 (rw3 (a := mr) (M := M) (by omega) rfl rfl rfl) rfl (by omega) (by decide) dX1_takeAway_7 ?_
  refine xeqd (y := Mc k k0) (hM k k0 (by omega) (by omega)) ?_
  refine lv_aload_n hx hb dX1_takeAway_8 rfl (lv_at hl 0 rfl) ?_
  refine gX1 hx hb hg hown hI hP 0 rfl 1 rfl mF_X1_11 rfl dX1_takeAway_9 ?_
  refine lv_iload_n hx hb dX1_takeAway_12 rfl (lv_at hl 1 rfl) ?_
  refine xaald hx hb hI hP 1 2 rfl rfl (by omega) (by decide) (hrw k0 (by omega)) dX1_takeAway_13 ?_
  refine lv_iload_n hx hb dX1_takeAway_14 rfl (lv_at hl 1 rfl) ?_
  refine xdald hx hb hI hP (2 + k0) 0 (rw3 (a := mr) (M := M) (by omega) rfl rfl rfl) rfl (by omega) (by decide) dX1_takeAway_15 ?_
  refine xeqd (y := Mc k0 k0) (hM k0 k0 (by omega) (by omega)) ?_
  refine lv_ddiv hx hb dX1_takeAway_16 ((tq_bd hbM (show k0 < n by omega) hkn hlb (by omega)).nn) ?_
  refine lv_dstore (lv' := [(4, .double (FP.ddiv (Mc k k0) (Mc k0 k0))), (0, .ref hX), (1, .int (nI k0)), (2, .int (nI k)), (3, .int (nI n))]) hx hb dX1_takeAway_17 hl (by decide) rfl (fun ls hl => ?_)
  refine xpc (q := 19) rfl ?_
  refine lv_iload_n hx hb dX1_takeAway_19 rfl (lv_at hl 2 rfl) ?_
  refine lv_istore (lv' := [(6, .int (nI k0)), (4, .double (FP.ddiv (Mc k k0) (Mc k0 k0))), (0, .ref hX), (1, .int (nI k0)), (2, .int (nI k)), (3, .int (nI n))]) hx hb dX1_takeAway_20 hl (by decide) rfl (fun ls hl => ?_)
  refine xfor (I := fun x1 H locs ls => ∃ (M1 : Nat → Nat → UInt64), (∀ i q, i < n → q < n → M1 i q = if i = k ∧ k0 ≤ q ∧ q < k0 + x1 then tkM Mc k0 k i q else Mc i q) ∧ va_P D vwCl [(hX, .inr (1, [.ref hE, .ref aM, .ref aQ, .ref aD])), (aM, rA cM 3 rw), (mr 0, dA cD 3 (M1 0)), (mr 1, dA cD 3 (M1 1)), (mr 2, dA cD 3 (M1 2)), (aQ, dA cD 3 R)] H ∧ va_S (fun q => q ∈ ([mr 0, mr 1, mr 2, aQ] : List Nat)) s.heap H locs ∧ lv_has ls 7 [(6, .int (nI (k0 + x1))), (4, .double (FP.ddiv (Mc k k0) (Mc k0 k0))), (0, .ref hX), (1, .int (nI k0)), (2, .int (nI k)), (3, .int (nI n))]) (n - k0) 0 ⟨_, (fun i j hi hj => by rw [if_neg (by omega)]; exact hM i j hi hj), hP, hS, lv_sub hl [0, 1, 2, 3, 4, 5] rfl⟩ (Nat.zero_le _) ?_ ?_
  ·
    intro x1 h_x1 ih H locs ls ⟨M1, hm, hP, hS, hl⟩
    refine lv_iload hx hb dX1_takeAway_22 (lv_at hl 0 rfl) ?_
    refine lv_iload_n hx hb dX1_takeAway_24 rfl (lv_at hl 5 rfl) ?_
    refine lv_icmp_ge (tgt := 65) hx hb dX1_takeAway_25 (by decide) (fun c_25 => absurd c_25 (nI_ge (show k0 + x1 < n by omega) (by omega))) (fun c_25 => ?_)
    have ek : M1 k (k0 + x1) = Mc k (k0 + x1) := by rw [hm k _ hkn (by omega), if_neg (by omega)]
    have ek0 : M1 k0 (k0 + x1) = Mc k0 (k0 + x1) := by rw [hm k0 _ (by omega) (by omega), if_neg (by omega)]
    refine lv_aload_n hx hb dX1_takeAway_28 rfl (lv_at hl 2 rfl) ?_
    refine gX1 hx hb hg hown hI hP 0 rfl 1 rfl mF_X1_11 rfl dX1_takeAway_29 ?_
    refine lv_iload_n hx hb dX1_takeAway_32 rfl (lv_at hl 4 rfl) ?_
    refine xaald hx hb hI hP 1 2 rfl rfl (by omega) (by decide) (hrw k (by omega)) dX1_takeAway_33 ?_
    refine lv_iload hx hb dX1_takeAway_34 (lv_at hl 0 rfl) ?_
    refine lv_aload_n hx hb dX1_takeAway_36 rfl (lv_at hl 2 rfl) ?_
    refine gX1 hx hb hg hown hI hP 0 rfl 1 rfl mF_X1_11 rfl dX1_takeAway_37 ?_
    refine lv_iload_n hx hb dX1_takeAway_40 rfl (lv_at hl 4 rfl) ?_
    refine xaald hx hb hI hP 1 2 rfl rfl (by omega) (by decide) (hrw k (by omega)) dX1_takeAway_41 ?_
    refine lv_iload hx hb dX1_takeAway_42 (lv_at hl 0 rfl) ?_
    refine xpc (q := 44) rfl ?_
    refine xdald hx hb hI hP (2 + k) 0 (rw3 (a := mr) (M := M1) (by omega) rfl rfl rfl) rfl (by omega) (by decide) dX1_takeAway_44 ?_
    refine xeqd (y := Mc k (k0 + x1)) ek ?_
    refine lv_dload hx hb dX1_takeAway_45 (lv_at hl 1 rfl) ?_
    refine lv_aload_n hx hb dX1_takeAway_47 rfl (lv_at hl 2 rfl) ?_
    refine gX1 hx hb hg hown hI hP 0 rfl 1 rfl mF_X1_11 rfl dX1_takeAway_48 ?_
    refine lv_iload_n hx hb dX1_takeAway_51 rfl (lv_at hl 3 rfl) ?_
    refine xaald hx hb hI hP 1 2 rfl rfl (by omega) (by decide) (hrw k0 (by omega)) dX1_takeAway_52 ?_
    refine lv_iload hx hb dX1_takeAway_53 (lv_at hl 0 rfl) ?_
    refine xdald hx hb hI hP (2 + k0) 0 (rw3 (a := mr) (M := M1) (by omega) rfl rfl rfl) rfl (by omega) (by decide) dX1_takeAway_55 ?_
    refine xeqd (y := Mc k0 (k0 + x1)) ek0 ?_
    refine lv_dmul hx hb dX1_takeAway_56 ((tm_bd (j := k0 + x1) hbM (show k0 < n by omega) hkn (by omega) hlb hB).1.nn) ?_
    refine lv_dsub hx hb dX1_takeAway_57 ((tm_bd (j := k0 + x1) hbM (show k0 < n by omega) hkn (by omega) hlb hB).2.nn) ?_
    refine xdast hx hb hI hP hd rfl hS (2 + k) 0 (rw3 (a := mr) (M := M1) (by omega) rfl rfl rfl) rfl (by omega) (by decide) (rq3 (A := fun q => q ∈ ([mr 0, mr 1, mr 2, aQ] : List Nat)) (a := mr) (by omega) pm0 (pmS pm0) (pmS (pmS pm0))) dX1_takeAway_58 (fun H locs hP hS => ?_)
    have hP : va_P D vwCl [(hX, .inr (1, [.ref hE, .ref aM, .ref aQ, .ref aD])), (aM, rA cM 3 rw), (mr 0, dA cD 3 ((u2 M1 k (k0 + x1) (FP.dsub (Mc k (k0 + x1)) (FP.dmul (FP.ddiv (Mc k k0) (Mc k0 k0)) (Mc k0 (k0 + x1))))) 0)), (mr 1, dA cD 3 ((u2 M1 k (k0 + x1) (FP.dsub (Mc k (k0 + x1)) (FP.dmul (FP.ddiv (Mc k k0) (Mc k0 k0)) (Mc k0 (k0 + x1))))) 1)), (mr 2, dA cD 3 ((u2 M1 k (k0 + x1) (FP.dsub (Mc k (k0 + x1)) (FP.dmul (FP.ddiv (Mc k k0) (Mc k0 k0)) (Mc k0 (k0 + x1))))) 2)), (aQ, dA cD 3 R)] H := by rcases (show k = 0 ∨ k = 1 ∨ k = 2 by have := (by omega); omega) with rfl | rfl | rfl <;> exact hP
    refine lv_iinc (v := nI (k0 + x1 + 1)) (lv' := [(6, .int (nI (k0 + x1 + 1))), (4, .double (FP.ddiv (Mc k k0) (Mc k0 k0))), (0, .ref hX), (1, .int (nI k0)), (2, .int (nI k)), (3, .int (nI n))]) hx hb dX1_takeAway_59 hl (k := 0) rfl (nI_1 (k0 + x1)) (by decide) rfl (fun ls hl => ?_)
    refine lv_goto (tgt := 22) hx hb dX1_takeAway_62 (by decide) ?_
    have hm' : ∀ i q, i < n → q < n → (u2 M1 k (k0 + x1) (FP.dsub (Mc k (k0 + x1)) (FP.dmul (FP.ddiv (Mc k k0) (Mc k0 k0)) (Mc k0 (k0 + x1))))) i q = if i = k ∧ k0 ≤ q ∧ q < k0 + (x1 + 1) then tkM Mc k0 k i q else Mc i q := by
      intro i q hi hq
      by_cases h : i = k ∧ q = k0 + x1
      · obtain ⟨rfl, rfl⟩ := h
        rw [u2_s, if_pos ⟨rfl, by omega, by omega⟩]
        unfold tkM
        rw [if_pos ⟨rfl, by omega⟩]
      · rw [u2_n h, hm i q hi hq]
        by_cases h2 : i = k ∧ k0 ≤ q ∧ q < k0 + x1
        · rw [if_pos h2, if_pos ⟨h2.1, h2.2.1, by omega⟩]
        · rw [if_neg h2, if_neg (fun z => h2 ⟨z.1, z.2.1, by have := z.2.2; have : ¬ q = k0 + x1 := fun e => h ⟨z.1, e⟩; omega⟩)]
    exact ih _ _ _ ⟨_, hm', hP, hS, lv_sub hl [0, 1, 2, 3, 4, 5] rfl⟩
  ·
    intro H locs ls ⟨M1, hm, hP, hS, hl⟩
    refine lv_iload hx hb dX1_takeAway_22 (lv_at hl 0 rfl) ?_
    refine lv_iload_n hx hb dX1_takeAway_24 rfl (lv_at hl 5 rfl) ?_
    refine lv_icmp_ge (tgt := 65) hx hb dX1_takeAway_25 (by decide) (fun c_25 => ?_) (fun c_25 => absurd (nI_le (by omega) (by omega)) c_25)
    refine lv_aload_n hx hb dX1_takeAway_65 rfl (lv_at hl 2 rfl) ?_
    refine gX1 hx hb hg hown hI hP 0 rfl 2 rfl mF_X1_16 rfl dX1_takeAway_66 ?_
    refine lv_iload_n hx hb dX1_takeAway_69 rfl (lv_at hl 4 rfl) ?_
    refine lv_aload_n hx hb dX1_takeAway_70 rfl (lv_at hl 2 rfl) ?_
    refine gX1 hx hb hg hown hI hP 0 rfl 2 rfl mF_X1_16 rfl dX1_takeAway_71 ?_
    refine lv_iload_n hx hb dX1_takeAway_74 rfl (lv_at hl 4 rfl) ?_
    refine xdald hx hb hI hP 5 0 rfl rfl (by omega) (by decide) dX1_takeAway_75 ?_
    refine xeqd (y := Rc k) (hR k (by omega)) ?_
    refine lv_dload hx hb dX1_takeAway_76 (lv_at hl 1 rfl) ?_
    refine lv_aload_n hx hb dX1_takeAway_78 rfl (lv_at hl 2 rfl) ?_
    refine gX1 hx hb hg hown hI hP 0 rfl 2 rfl mF_X1_16 rfl dX1_takeAway_79 ?_
    refine xpc (q := 82) rfl ?_
    refine lv_iload_n hx hb dX1_takeAway_82 rfl (lv_at hl 3 rfl) ?_
    refine xdald hx hb hI hP 5 0 rfl rfl (by omega) (by decide) dX1_takeAway_83 ?_
    refine xeqd (y := Rc k0) (hR k0 (by omega)) ?_
    refine lv_dmul hx hb dX1_takeAway_84 ((tr_bd hbM (show k0 < n by omega) hkn hlb hRB).1.nn) ?_
    refine lv_dsub hx hb dX1_takeAway_85 ((tr_bd hbM (show k0 < n by omega) hkn hlb hRB).2.nn) ?_
    refine xdast hx hb hI hP hd rfl hS 5 0 rfl rfl (by omega) (by decide) (pmS (pmS (pmS pm0))) dX1_takeAway_86 (fun H locs hP hS => ?_)
    have hP : va_P D vwCl [(hX, .inr (1, [.ref hE, .ref aM, .ref aQ, .ref aD])), (aM, rA cM 3 rw), (mr 0, dA cD 3 (M1 0)), (mr 1, dA cD 3 (M1 1)), (mr 2, dA cD 3 (M1 2)), (aQ, dA cD 3 (vf_upd R k (FP.dsub (Rc k) (FP.dmul (FP.ddiv (Mc k k0) (Mc k0 k0)) (Rc k0)))))] H := hP
    have hr1 : agV n (vf_upd R k (FP.dsub (Rc k) (FP.dmul (FP.ddiv (Mc k k0) (Mc k0 k0)) (Rc k0)))) (tkR Mc Rc k0 k) := by
      intro i hi
      unfold tkR
      by_cases h : i = k
      · subst h; rw [vu_s, if_pos rfl]
      · rw [vu_n h, if_neg h]; exact hR i hi
    have hpost : agM n M1 (tkM Mc k0 k) := by
      intro i j hi hj
      rw [hm i j hi hj]
      by_cases h : i = k ∧ k0 ≤ j
      · rw [if_pos ⟨h.1, h.2, by omega⟩]
      · rw [if_neg (fun z => h ⟨z.1, z.2.1⟩)]
        unfold tkM
        rw [if_neg h]
    exact W.vret hx hb hr (fun tS hTS hWS => ⟨(M1, vf_upd R k (FP.dsub (Rc k) (FP.dmul (FP.ddiv (Mc k k0) (Mc k0 k0)) (Rc k0)))), rfl, ⟨hpost, hr1⟩, by rw [hTS]; exact hP.sub [2, 3, 4, 5] rfl, hS.F hTS⟩) hS.2.2 dX1_takeAway_87
