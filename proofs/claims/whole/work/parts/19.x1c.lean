set_option maxHeartbeats 4000000 in
set_option maxRecDepth 100000 in
theorem c_substitute (l : Launch) (D : va_G) (cD cI cM cL : ClassId) (hX hE aM aQ aD : Nat) (mr : Nat → Nat) (rw : Nat → Option Nat) (M Mc : Nat → Nat → UInt64) (R Rc d0 : Nat → UInt64) (n : Nat) (hrw : ∀ i, i < 3 → rw i = some (mr i)) (hn : n ≤ 3) (hM : agM n M Mc) (hR : agV n R Rc) (hbM : bM n 269 298 Mc Rc) (hlb : ∀ i, i < n → lbd 1044 (Mc i i)) : Met l yX1_substitute (Cond.code yX1_substitute cX1_substitute 6 none :: lw_good) { frames := 0, cells := 0, slots := 0, locals := 0 } (xPc D (tyL cD cI cM cL) [.ref hX, .int (nI n)] [(hX, .inr (1, [.ref hE, .ref aM, .ref aQ, .ref aD])), (aM, rA cM 3 rw), (mr 0, dA cD 3 (M 0)), (mr 1, dA cD 3 (M 1)), (mr 2, dA cD 3 (M 2)), (aQ, dA cD 3 R), (aD, dA cD 3 d0)]) (xQ D [aD] (fun (u : Nat → UInt64) => none) (fun (u : Nat → UInt64) => agV n u (sbd Mc Rc n n)) (fun (u : Nat → UInt64) => [(aD, dA cD 3 u)])) 0 0 (fun q => q ∈ ([aD] : List Nat)) := by
  refine xofW (adr := [aD]) (by decide) (Nat.le_of_ble_eq_true rfl) ?_
  intro p e s m below meth c ls hx hb hr hml hg hown hlk hI hP hd hS hl
  have hown : s.vm.findClass RX1 = some m.cls := hown
  have hd : dj [hX, aM, mr 0, mr 1, mr 2, aQ, aD] := hd
  have hl : lv_has ls 6 [(0, .ref hX), (1, .int (nI n))] := hl
  refine lv_iload_n hx hb dX1_substitute_0 rfl (lv_at hl 1 rfl) ?_
  refine lv_iconst (v := nI 1) hx hb dX1_substitute_1 (by decide) ?_
  refine lv_isub hx hb dX1_substitute_2 ?_
  refine lv_istore_n (lv' := [(2, .int ((nI n) - (nI 1))), (0, .ref hX), (1, .int (nI n))]) hx hb dX1_substitute_3 rfl hl (by decide) rfl (fun ls hl => ?_)
  refine xfor (I := fun q H locs ls => ∃ (d1 : Nat → UInt64), (∀ i, n - q ≤ i → i < n → d1 i = sbd Mc Rc n q i) ∧ va_P D vwCl [(hX, .inr (1, [.ref hE, .ref aM, .ref aQ, .ref aD])), (aM, rA cM 3 rw), (mr 0, dA cD 3 (M 0)), (mr 1, dA cD 3 (M 1)), (mr 2, dA cD 3 (M 2)), (aQ, dA cD 3 R), (aD, dA cD 3 d1)] H ∧ va_S (fun q => q ∈ ([aD] : List Nat)) s.heap H locs ∧ lv_has ls 6 [(2, .int (nI (n - q) - nI 1)), (0, .ref hX), (1, .int (nI n))]) n 0 ⟨_, (fun i h1 h2 => by omega), hP, hS, lv_sub hl [0, 1, 2] rfl⟩ (Nat.zero_le _) ?_ ?_
  ·
    intro q h_q ih H locs ls ⟨d1, hd1, hP, hS, hl⟩
    have e2 : nI (n - q) - nI 1 = nI (n - 1 - q) := by rw [show n - q = (n - 1 - q) + 1 by omega]; exact nI_pred _
    rw [e2] at hl
    have hin : n - 1 - q < n := by omega
    refine lv_iload_n hx hb dX1_substitute_4 rfl (lv_at hl 0 rfl) ?_
    refine lv_if_lt (tgt := 74) hx hb dX1_substitute_5 (by decide) (fun c_5 => absurd c_5 (nI_pos (show n - 1 - q < 2 ^ 31 by omega))) (fun c_5 => ?_)
    refine lv_aload_n hx hb dX1_substitute_8 rfl (lv_at hl 1 rfl) ?_
    refine gX1 hx hb hg hown hI hP 0 rfl 2 rfl mF_X1_16 rfl dX1_substitute_9 ?_
    refine lv_iload_n hx hb dX1_substitute_12 rfl (lv_at hl 0 rfl) ?_
    refine xdald hx hb hI hP 5 0 rfl rfl (by omega) (by decide) dX1_substitute_13 ?_
    refine xeqd (y := Rc (n - 1 - q)) (hR (n - 1 - q) (by omega)) ?_
    refine lv_dstore_n (lv' := [(3, .double (Rc (n - 1 - q))), (2, .int (nI (n - 1 - q))), (0, .ref hX), (1, .int (nI n))]) hx hb dX1_substitute_14 rfl hl (by decide) rfl (fun ls hl => ?_)
    refine lv_iload_n hx hb dX1_substitute_15 rfl (lv_at hl 1 rfl) ?_
    refine lv_iconst (v := nI 1) hx hb dX1_substitute_16 (by decide) ?_
    refine lv_iadd hx hb dX1_substitute_17 ?_
    refine xeqi (y := nI ((n - 1 - q) + 1)) (nI_add (n - 1 - q) 1) ?_
    refine xpc (q := 18) rfl ?_
    refine lv_istore (lv' := [(5, .int (nI ((n - 1 - q) + 1))), (3, .double (Rc (n - 1 - q))), (2, .int (nI (n - 1 - q))), (0, .ref hX), (1, .int (nI n))]) hx hb dX1_substitute_18 hl (by decide) rfl (fun ls hl => ?_)
    have hsb := (sbd_bd hbM hlb hn q (by omega)).1
    refine xfor (I := fun x1 H locs ls => ∃ (a : UInt64), (a = lfd Mc (sbd Mc Rc n q) Rc (n - 1 - q) x1) ∧ va_P D vwCl [(hX, .inr (1, [.ref hE, .ref aM, .ref aQ, .ref aD])), (aM, rA cM 3 rw), (mr 0, dA cD 3 (M 0)), (mr 1, dA cD 3 (M 1)), (mr 2, dA cD 3 (M 2)), (aQ, dA cD 3 R), (aD, dA cD 3 d1)] H ∧ va_S (fun q => q ∈ ([aD] : List Nat)) s.heap H locs ∧ lv_has ls 6 [(5, .int (nI (n - 1 - q + 1 + x1))), (3, .double a), (2, .int (nI (n - 1 - q))), (0, .ref hX), (1, .int (nI n))]) q 0 ⟨_, rfl, hP, hS, lv_sub hl [0, 1, 2, 3, 4] rfl⟩ (Nat.zero_le _) ?_ ?_
    ·
      intro x1 h_x1 ih2 H locs ls ⟨a, ha, hP, hS, hl⟩
      refine lv_iload hx hb dX1_substitute_20 (lv_at hl 0 rfl) ?_
      refine lv_iload_n hx hb dX1_substitute_22 rfl (lv_at hl 4 rfl) ?_
      refine lv_icmp_ge (tgt := 52) hx hb dX1_substitute_23 (by decide) (fun c_23 => absurd c_23 (nI_ge (show n - 1 - q + 1 + x1 < n by omega) (by omega))) (fun c_23 => ?_)
      have hql : 1 ≤ q ∧ q ≤ 2 := by omega
      have hDB : 28 ≤ db (q - 1) ∧ db (q - 1) ≤ 629 := by rcases (show q = 1 ∨ q = 2 by omega) with rfl | rfl <;> decide
      obtain ⟨hf1, hf2⟩ := lfd_bd (i := n - 1 - q) (d := sbd Mc Rc n q) hbM hin hDB (x1 + 1) (by omega) (by omega) (fun a ha => hsb _ (by omega) (by omega))
      refine lv_dload_n hx hb dX1_substitute_26 rfl (lv_at hl 1 rfl) ?_
      refine lv_aload_n hx hb dX1_substitute_27 rfl (lv_at hl 3 rfl) ?_
      refine gX1 hx hb hg hown hI hP 0 rfl 1 rfl mF_X1_11 rfl dX1_substitute_28 ?_
      refine lv_iload_n hx hb dX1_substitute_31 rfl (lv_at hl 2 rfl) ?_
      refine xaald hx hb hI hP 1 2 rfl rfl (by omega) (by decide) (hrw (n - 1 - q) (by omega)) dX1_substitute_32 ?_
      refine lv_iload hx hb dX1_substitute_33 (lv_at hl 0 rfl) ?_
      refine xdald hx hb hI hP (2 + (n - 1 - q)) 0 (rw3 (a := mr) (M := M) (by omega) rfl rfl rfl) rfl (by omega) (by decide) dX1_substitute_35 ?_
      refine xeqd (y := Mc (n - 1 - q) (n - 1 - q + 1 + x1)) (hM (n - 1 - q) (n - 1 - q + 1 + x1) (by omega) (by omega)) ?_
      refine lv_aload_n hx hb dX1_substitute_36 rfl (lv_at hl 3 rfl) ?_
      refine gX1 hx hb hg hown hI hP 0 rfl 3 rfl mF_X1_20 rfl dX1_substitute_37 ?_
      refine lv_iload hx hb dX1_substitute_40 (lv_at hl 0 rfl) ?_
      refine xdald hx hb hI hP 6 0 rfl rfl (by omega) (by decide) dX1_substitute_42 ?_
      refine xeqd (y := (sbd Mc Rc n q) (n - 1 - q + 1 + x1)) (hd1 (n - 1 - q + 1 + x1) (by omega) (by omega)) ?_
      refine lv_dmul hx hb dX1_substitute_43 ((hf2 x1 (by omega)).nn) ?_
      subst ha
      refine lv_dsub hx hb dX1_substitute_44 hf1.nn ?_
      refine xpc (q := 45) rfl ?_
      refine lv_dstore_n (lv' := [(3, .double (FP.dsub (lfd Mc (sbd Mc Rc n q) Rc (n - 1 - q) x1) (FP.dmul (Mc (n - 1 - q) (n - 1 - q + 1 + x1)) ((sbd Mc Rc n q) (n - 1 - q + 1 + x1))))), (5, .int (nI (n - 1 - q + 1 + x1))), (2, .int (nI (n - 1 - q))), (0, .ref hX), (1, .int (nI n))]) hx hb dX1_substitute_45 rfl hl (by decide) rfl (fun ls hl => ?_)
      refine lv_iinc (v := nI (n - 1 - q + 1 + x1 + 1)) (lv' := [(5, .int (nI (n - 1 - q + 1 + x1 + 1))), (3, .double (FP.dsub (lfd Mc (sbd Mc Rc n q) Rc (n - 1 - q) x1) (FP.dmul (Mc (n - 1 - q) (n - 1 - q + 1 + x1)) ((sbd Mc Rc n q) (n - 1 - q + 1 + x1))))), (2, .int (nI (n - 1 - q))), (0, .ref hX), (1, .int (nI n))]) hx hb dX1_substitute_46 hl (k := 1) rfl (nI_1 (n - 1 - q + 1 + x1)) (by decide) rfl (fun ls hl => ?_)
      refine lv_goto (tgt := 20) hx hb dX1_substitute_49 (by decide) ?_
      exact ih2 _ _ _ ⟨_, rfl, hP, hS, lv_sub hl [0, 1, 2, 3, 4] rfl⟩
    ·
      intro H locs ls ⟨a, ha, hP, hS, hl⟩
      refine lv_iload hx hb dX1_substitute_20 (lv_at hl 0 rfl) ?_
      refine lv_iload_n hx hb dX1_substitute_22 rfl (lv_at hl 4 rfl) ?_
      refine lv_icmp_ge (tgt := 52) hx hb dX1_substitute_23 (by decide) (fun c_23 => ?_) (fun c_23 => absurd (nI_le (by omega) (by omega)) c_23)
      subst ha
      refine lv_aload_n hx hb dX1_substitute_52 rfl (lv_at hl 3 rfl) ?_
      refine gX1 hx hb hg hown hI hP 0 rfl 3 rfl mF_X1_20 rfl dX1_substitute_53 ?_
      refine lv_iload_n hx hb dX1_substitute_56 rfl (lv_at hl 2 rfl) ?_
      refine lv_dload_n hx hb dX1_substitute_57 rfl (lv_at hl 1 rfl) ?_
      refine lv_aload_n hx hb dX1_substitute_58 rfl (lv_at hl 3 rfl) ?_
      refine gX1 hx hb hg hown hI hP 0 rfl 1 rfl mF_X1_11 rfl dX1_substitute_59 ?_
      refine lv_iload_n hx hb dX1_substitute_62 rfl (lv_at hl 2 rfl) ?_
      refine xaald hx hb hI hP 1 2 rfl rfl (by omega) (by decide) (hrw (n - 1 - q) (by omega)) dX1_substitute_63 ?_
      refine lv_iload_n hx hb dX1_substitute_64 rfl (lv_at hl 2 rfl) ?_
      refine xdald hx hb hI hP (2 + (n - 1 - q)) 0 (rw3 (a := mr) (M := M) (by omega) rfl rfl rfl) rfl (by omega) (by decide) dX1_substitute_65 ?_
      refine xeqd (y := Mc (n - 1 - q) (n - 1 - q)) (hM (n - 1 - q) (n - 1 - q) (by omega) (by omega)) ?_
      refine lv_ddiv hx hb dX1_substitute_66 (((sbd_bd hbM hlb hn q (by omega)).2 (by omega)).nn) ?_
      refine xdast hx hb hI hP hd rfl hS 6 0 rfl rfl (by omega) (by decide) pm0 dX1_substitute_67 (fun H locs hP hS => ?_)
      have hP : va_P D vwCl [(hX, .inr (1, [.ref hE, .ref aM, .ref aQ, .ref aD])), (aM, rA cM 3 rw), (mr 0, dA cD 3 (M 0)), (mr 1, dA cD 3 (M 1)), (mr 2, dA cD 3 (M 2)), (aQ, dA cD 3 R), (aD, dA cD 3 (vf_upd d1 (n - 1 - q) (FP.ddiv (lfd Mc (sbd Mc Rc n q) Rc (n - 1 - q) q) (Mc (n - 1 - q) (n - 1 - q)))))] H := hP
      refine lv_iinc (v := nI (n - (q + 1)) - nI 1) (lv' := [(2, .int (nI (n - (q + 1)) - nI 1)), (5, .int (nI (n - 1 - q + 1 + q))), (3, .double (lfd Mc (sbd Mc Rc n q) Rc (n - 1 - q) q)), (0, .ref hX), (1, .int (nI n))]) hx hb dX1_substitute_68 hl (k := 2) rfl (by rw [show n - (q + 1) = n - 1 - q by omega]; exact i32_dec _) (by decide) rfl (fun ls hl => ?_)
      refine xpc (q := 71) rfl ?_
      refine lv_goto (tgt := 4) hx hb dX1_substitute_71 (by decide) ?_
      have hd2 : ∀ i, n - (q + 1) ≤ i → i < n → vf_upd d1 (n - 1 - q) (FP.ddiv (lfd Mc (sbd Mc Rc n q) Rc (n - 1 - q) q) (Mc (n - 1 - q) (n - 1 - q))) i = sbd Mc Rc n (q + 1) i := by
        intro i h1 h2
        show _ = vf_upd (sbd Mc Rc n q) (n - 1 - q) _ i
        by_cases hi : i = n - 1 - q
        · subst hi; rw [vu_s, vu_s]
        · rw [vu_n hi, vu_n hi]; exact hd1 i (by omega) h2
      exact ih _ _ _ ⟨_, hd2, hP, hS, lv_sub hl [0, 3, 4] rfl⟩
  ·
    intro H locs ls ⟨d1, hd1, hP, hS, hl⟩
    refine lv_iload_n hx hb dX1_substitute_4 rfl (lv_at hl 0 rfl) ?_
    refine lv_if_lt (tgt := 74) hx hb dX1_substitute_5 (by decide) (fun c_5 => ?_) (fun c_5 => absurd (by rw [Nat.sub_self]; decide) c_5)
    exact W.vret hx hb hr (fun tS hTS hWS => ⟨d1, rfl, fun i hi => hd1 i (by omega) hi, by rw [hTS]; exact hP.sub [6] rfl, hS.F hTS⟩) hS.2.2 dX1_substitute_74

set_option maxHeartbeats 4000000 in
set_option maxRecDepth 100000 in
theorem c_solve (l : Launch) (D : va_G) (cD cI cM cL : ClassId) (hX hE aM aQ aD : Nat) (mr : Nat → Nat) (rw : Nat → Option Nat) (aO aK aL aR aY aZ : Nat) (σ : Sys) (e0 r : UInt64) (y vZ R d0 : Nat → UInt64) (M : Nat → Nat → UInt64) (hrw : ∀ i, i < 3 → rw i = some (mr i)) (hσ : oks σ) (he0 : bd 1 17 e0) (hr0 : bd 1 2 r) (hy : ∀ i, i < sn σ → bd 1 20 (y i)) : Met l yX1_solve (Cond.code yX1_solve cX1_solve 10 (some .boolean) :: lw_good) { frames := 3, cells := 0, slots := 0, locals := 81 } (xPc D (tyL cD cI cM cL) [.ref hX, .double e0, .double r, .ref aY, .ref aZ] [(hX, .inr (1, [.ref hE, .ref aM, .ref aQ, .ref aD])), (hE, .inr (0, [.ref aO, .ref aK, .ref aL, .ref aR, .int (nI (sn σ)), .int (nI (sc σ))])), (aO, iA cI 10 (so σ)), (aK, dA cD 10 (sk σ)), (aL, iA cI 10 (sl σ)), (aR, iA cI 10 (sr σ)), (aY, dA cD 3 y), (aZ, dA cD 3 vZ), (aM, rA cM 3 rw), (mr 0, dA cD 3 (M 0)), (mr 1, dA cD 3 (M 1)), (mr 2, dA cD 3 (M 2)), (aQ, dA cD 3 R), (aD, dA cD 3 d0)]) (xQ D [aZ, mr 0, mr 1, mr 2, aQ, aD] (fun (u : (Nat → UInt64) × (Nat → Nat → UInt64) × (Nat → UInt64) × (Nat → UInt64)) => some (.int (bI (imp σ e0 r y 8 y).isSome))) (fun (u : (Nat → UInt64) × (Nat → Nat → UInt64) × (Nat → UInt64) × (Nat → UInt64)) => ∀ z, imp σ e0 r y 8 y = some z → agV (sn σ) u.1 z) (fun (u : (Nat → UInt64) × (Nat → Nat → UInt64) × (Nat → UInt64) × (Nat → UInt64)) => [(aZ, dA cD 3 u.1), (mr 0, dA cD 3 (u.2.1 0)), (mr 1, dA cD 3 (u.2.1 1)), (mr 2, dA cD 3 (u.2.1 2)), (aQ, dA cD 3 u.2.2.1), (aD, dA cD 3 u.2.2.2)])) 0 0 (fun q => q ∈ ([aZ, mr 0, mr 1, mr 2, aQ, aD] : List Nat)) := by
  refine xofW (adr := [aZ, mr 0, mr 1, mr 2, aQ, aD]) (by decide) (Nat.le_of_ble_eq_true rfl) ?_
  intro p e s m below meth c ls hx hb hr hml hg hown hlk hI hP hd hS hl
  have hown : s.vm.findClass RX1 = some m.cls := hown
  have hd : dj [hX, hE, aO, aK, aL, aR, aY, aZ, aM, mr 0, mr 1, mr 2, aQ, aD] := hd
  have hl : lv_has ls 10 [(0, .ref hX), (1, .double e0), (3, .double r), (5, .ref aY), (6, .ref aZ)] := hl
  have hn : sn σ ≤ 3 := hσ.2.1
  refine lv_aload_n hx hb dX1_solve_0 rfl (lv_at hl 0 rfl) ?_
  refine gX1 hx hb hg hown hI hP 0 rfl 0 rfl mF_X1_23 rfl dX1_solve_1 ?_
  refine gX0 hx hb hg hown hI hP 1 rfl 4 rfl mF_X1_27 rfl dX1_solve_4 ?_
  refine lv_istore (lv' := [(7, .int (nI (sn σ))), (0, .ref hX), (1, .double e0), (3, .double r), (5, .ref aY), (6, .ref aZ)]) hx hb dX1_solve_7 hl (by decide) rfl (fun ls hl => ?_)
  refine lv_iconst (v := nI 0) hx hb dX1_solve_9 (by decide) ?_
  refine lv_istore (lv' := [(8, .int (nI 0)), (7, .int (nI (sn σ))), (0, .ref hX), (1, .double e0), (3, .double r), (5, .ref aY), (6, .ref aZ)]) hx hb dX1_solve_10 hl (by decide) rfl (fun ls hl => ?_)
  refine xfor (I := fun i H locs ls => ∃ (f' : Nat → UInt64), (f' = mix i y vZ) ∧ va_P D vwCl [(hX, .inr (1, [.ref hE, .ref aM, .ref aQ, .ref aD])), (hE, .inr (0, [.ref aO, .ref aK, .ref aL, .ref aR, .int (nI (sn σ)), .int (nI (sc σ))])), (aO, iA cI 10 (so σ)), (aK, dA cD 10 (sk σ)), (aL, iA cI 10 (sl σ)), (aR, iA cI 10 (sr σ)), (aY, dA cD 3 y), (aZ, dA cD 3 f'), (aM, rA cM 3 rw), (mr 0, dA cD 3 (M 0)), (mr 1, dA cD 3 (M 1)), (mr 2, dA cD 3 (M 2)), (aQ, dA cD 3 R), (aD, dA cD 3 d0)] H ∧ va_S (fun q => q ∈ ([aZ, mr 0, mr 1, mr 2, aQ, aD] : List Nat)) s.heap H locs ∧ lv_has ls 10 [(8, .int (nI i)), (7, .int (nI (sn σ))), (0, .ref hX), (1, .double e0), (3, .double r), (5, .ref aY), (6, .ref aZ)]) (sn σ) 0 ⟨_, (mix_0 _ _).symm, hP, hS, lv_sub hl [0, 1, 2, 3, 4, 5, 6] rfl⟩ (Nat.zero_le _) ?_ ?_
  ·
    intro i h_i ih H locs ls ⟨f', hf, hP, hS, hl⟩
    refine lv_iload hx hb dX1_solve_12 (lv_at hl 0 rfl) ?_
    refine lv_iload hx hb dX1_solve_14 (lv_at hl 1 rfl) ?_
    refine lv_icmp_ge (tgt := 35) hx hb dX1_solve_16 (by decide) (fun c_16 => absurd c_16 (nI_ge h_i (by omega))) (fun c_16 => ?_)
    refine lv_aload hx hb dX1_solve_19 (lv_at hl 6 rfl) ?_
    refine lv_iload hx hb dX1_solve_21 (lv_at hl 0 rfl) ?_
    refine lv_aload hx hb dX1_solve_23 (lv_at hl 5 rfl) ?_
    refine lv_iload hx hb dX1_solve_25 (lv_at hl 0 rfl) ?_
    refine xdald hx hb hI hP 6 0 rfl rfl (Nat.lt_of_lt_of_le h_i hn) (by decide) dX1_solve_27 ?_
    refine xpc (q := 28) rfl ?_
    refine xdast hx hb hI hP hd rfl hS 7 0 rfl rfl (Nat.lt_of_lt_of_le h_i hn) (by decide) pm0 dX1_solve_28 (fun H locs hP hS => ?_)
    have hP : va_P D vwCl [(hX, .inr (1, [.ref hE, .ref aM, .ref aQ, .ref aD])), (hE, .inr (0, [.ref aO, .ref aK, .ref aL, .ref aR, .int (nI (sn σ)), .int (nI (sc σ))])), (aO, iA cI 10 (so σ)), (aK, dA cD 10 (sk σ)), (aL, iA cI 10 (sl σ)), (aR, iA cI 10 (sr σ)), (aY, dA cD 3 y), (aZ, dA cD 3 (vf_upd f' i (y i))), (aM, rA cM 3 rw), (mr 0, dA cD 3 (M 0)), (mr 1, dA cD 3 (M 1)), (mr 2, dA cD 3 (M 2)), (aQ, dA cD 3 R), (aD, dA cD 3 d0)] H := hP
    refine lv_iinc (v := nI (i + 1)) (lv' := [(8, .int (nI (i + 1))), (7, .int (nI (sn σ))), (0, .ref hX), (1, .double e0), (3, .double r), (5, .ref aY), (6, .ref aZ)]) hx hb dX1_solve_29 hl (k := 0) rfl (nI_1 i) (by decide) rfl (fun ls hl => ?_)
    refine lv_goto (tgt := 12) hx hb dX1_solve_32 (by decide) ?_
    exact ih _ _ _ ⟨_, mix_s hf rfl, hP, hS, lv_sub hl [0, 1, 2, 3, 4, 5, 6] rfl⟩
  ·
    intro H locs ls ⟨f', hf, hP, hS, hl⟩
    refine lv_iload hx hb dX1_solve_12 (lv_at hl 0 rfl) ?_
    refine lv_iload hx hb dX1_solve_14 (lv_at hl 1 rfl) ?_
    refine lv_icmp_ge (tgt := 35) hx hb dX1_solve_16 (by decide) (fun c_16 => ?_) (fun c_16 => absurd (Int32.le_refl _) c_16)
    subst hf
    refine lv_iconst (v := nI 0) hx hb dX1_solve_35 (by decide) ?_
    refine lv_istore (lv' := [(8, .int (nI 0)), (7, .int (nI (sn σ))), (0, .ref hX), (1, .double e0), (3, .double r), (5, .ref aY), (6, .ref aZ)]) hx hb dX1_solve_36 hl (by decide) rfl (fun ls hl => ?_)
    refine xfor (I := fun f H locs ls => ∃ (z : Nat → UInt64) (Z1 : Nat → UInt64) (M1 : Nat → Nat → UInt64) (R1 : Nat → UInt64) (D1 : Nat → UInt64), (imp σ e0 r y (8 - f) z = imp σ e0 r y 8 y) ∧ (agV (sn σ) Z1 z) ∧ (∀ i, i < sn σ → bd 1 30 (z i)) ∧ (True) ∧ (True) ∧ va_P D vwCl [(hX, .inr (1, [.ref hE, .ref aM, .ref aQ, .ref aD])), (hE, .inr (0, [.ref aO, .ref aK, .ref aL, .ref aR, .int (nI (sn σ)), .int (nI (sc σ))])), (aO, iA cI 10 (so σ)), (aK, dA cD 10 (sk σ)), (aL, iA cI 10 (sl σ)), (aR, iA cI 10 (sr σ)), (aY, dA cD 3 y), (aZ, dA cD 3 Z1), (aM, rA cM 3 rw), (mr 0, dA cD 3 (M1 0)), (mr 1, dA cD 3 (M1 1)), (mr 2, dA cD 3 (M1 2)), (aQ, dA cD 3 R1), (aD, dA cD 3 D1)] H ∧ va_S (fun q => q ∈ ([aZ, mr 0, mr 1, mr 2, aQ, aD] : List Nat)) s.heap H locs ∧ lv_has ls 10 [(8, .int (nI f)), (7, .int (nI (sn σ))), (0, .ref hX), (1, .double e0), (3, .double r), (5, .ref aY), (6, .ref aZ)]) 8 0 ⟨_, _, _, _, _, rfl, (fun i hi => mix_lt hi), (fun i hi => (hy i hi).up (by decide)), trivial, trivial, hP, hS, lv_sub hl [0, 1, 2, 3, 4, 5, 6] rfl⟩ (Nat.zero_le _) ?_ ?_
    ·
      intro f h_f ih H locs ls ⟨z, Z1, M1, R1, D1, himp, hz, hzb, _h1, _h2, hP, hS, hl⟩
      refine lv_iload hx hb dX1_solve_38 (lv_at hl 0 rfl) ?_
      refine lv_bipush (v := nI 8) hx hb dX1_solve_40 (by decide) ?_
      refine lv_icmp_ge (tgt := 154) hx hb dX1_solve_42 (by decide) (fun c_42 => absurd c_42 (nI_ge h_f (by omega))) (fun c_42 => ?_)
      have hk : okim σ e0 r y z := ⟨hσ, he0, hr0, hy, hzb⟩
      refine lv_aload_n hx hb dX1_solve_45 rfl (lv_at hl 2 rfl) ?_
      refine xpc (q := 46) rfl ?_
      refine lv_dload_n hx hb dX1_solve_46 rfl (lv_at hl 3 rfl) ?_
      refine lv_dload_n hx hb dX1_solve_47 rfl (lv_at hl 4 rfl) ?_
      refine lv_aload hx hb dX1_solve_48 (lv_at hl 5 rfl) ?_
      refine lv_aload hx hb dX1_solve_50 (lv_at hl 6 rfl) ?_
      refine xcv (xV (As := [.double e0, .double r, .ref aY, .ref aZ]) (rest := []) hx hb hml hown hg (c_setRest l D cD cI cM cL hX hE aM aQ aD mr rw aO aK aL aR aY aZ σ e0 r y Z1 z R1 hk hz) mM_X1_33 ok_X1_setRest rfl rfl ⟨Nat.le_of_ble_eq_true rfl, Nat.le_of_ble_eq_true rfl⟩ hI hP hd rfl [0, 1, 2, 3, 4, 5, 6, 7, 12] rfl rfl rfl rfl rfl hl.1 rfl (Nat.le_of_ble_eq_true rfl) dX1_solve_52 ⟨Nat.zero_le _, Nat.zero_le _⟩) hP hd hS (fa1 (pmS (pmS (pmS (pmS pm0)))) fa0) [12] rfl rfl (fun _ => rfl) (fun _u H locs hu hP hS => ?_)
      have hP : va_P D vwCl [(hX, .inr (1, [.ref hE, .ref aM, .ref aQ, .ref aD])), (hE, .inr (0, [.ref aO, .ref aK, .ref aL, .ref aR, .int (nI (sn σ)), .int (nI (sc σ))])), (aO, iA cI 10 (so σ)), (aK, dA cD 10 (sk σ)), (aL, iA cI 10 (sl σ)), (aR, iA cI 10 (sr σ)), (aY, dA cD 3 y), (aZ, dA cD 3 Z1), (aM, rA cM 3 rw), (mr 0, dA cD 3 (M1 0)), (mr 1, dA cD 3 (M1 1)), (mr 2, dA cD 3 (M1 2)), (aQ, dA cD 3 (mix (sn σ) (srG σ e0 r y z) R1)), (aD, dA cD 3 D1)] H := hP
      refine lv_aload_n hx hb dX1_solve_55 rfl (lv_at hl 2 rfl) ?_
      refine lv_dload_n hx hb dX1_solve_56 rfl (lv_at hl 3 rfl) ?_
      refine lv_dload_n hx hb dX1_solve_57 rfl (lv_at hl 4 rfl) ?_
      refine lv_aload hx hb dX1_solve_58 (lv_at hl 6 rfl) ?_
      refine xcv (xV (As := [.double e0, .double r, .ref aZ]) (rest := []) hx hb hml hown hg (c_setMatrix l D cD cI cM cL hX hE aM aQ aD mr rw aO aK aL aR aY aZ σ e0 r y Z1 z M1 hrw hk hz) mM_X1_37 ok_X1_setMatrix rfl rfl ⟨Nat.le_of_ble_eq_true rfl, Nat.le_of_ble_eq_true rfl⟩ hI hP hd rfl [0, 1, 2, 3, 4, 5, 7, 8, 9, 10, 11] rfl rfl rfl rfl rfl hl.1 rfl (Nat.le_of_ble_eq_true rfl) dX1_solve_60 ⟨Nat.zero_le _, Nat.zero_le _⟩) hP hd hS (fa1 (pmS pm0) (fa1 (pmS (pmS pm0)) (fa1 (pmS (pmS (pmS pm0))) fa0))) [9, 10, 11] rfl rfl (fun _ => rfl) (fun u1 H locs hu hP hS => ?_)
      have hu1 := hu
      have hP : va_P D vwCl [(hX, .inr (1, [.ref hE, .ref aM, .ref aQ, .ref aD])), (hE, .inr (0, [.ref aO, .ref aK, .ref aL, .ref aR, .int (nI (sn σ)), .int (nI (sc σ))])), (aO, iA cI 10 (so σ)), (aK, dA cD 10 (sk σ)), (aL, iA cI 10 (sl σ)), (aR, iA cI 10 (sr σ)), (aY, dA cD 3 y), (aZ, dA cD 3 Z1), (aM, rA cM 3 rw), (mr 0, dA cD 3 (u1 0)), (mr 1, dA cD 3 (u1 1)), (mr 2, dA cD 3 (u1 2)), (aQ, dA cD 3 (mix (sn σ) (srG σ e0 r y z) R1)), (aD, dA cD 3 D1)] H := hP
      refine lv_aload_n hx hb dX1_solve_63 rfl (lv_at hl 2 rfl) ?_
      refine lv_iload hx hb dX1_solve_64 (lv_at hl 1 rfl) ?_
      have hbm : bM (sn σ) 44 73 (smG σ e0 r z) (srG σ e0 r y z) := ⟨fun i j _ _ => sm_bd hk, fun i hi => sr_bd hk hi⟩
      refine xci (xV (As := [.int (nI (sn σ))]) (rest := []) hx hb hml hown hg (c_eliminate l D cD cI cM cL hX hE aM aQ aD mr rw u1 (smG σ e0 r z) (mix (sn σ) (srG σ e0 r y z) R1) (srG σ e0 r y z) (sn σ) hrw hn hu1 (fun i hi => mix_lt hi) hbm) mM_X1_41 ok_X1_eliminate rfl rfl ⟨Nat.le_of_ble_eq_true rfl, Nat.le_of_ble_eq_true rfl⟩ hI hP hd rfl [0, 8, 9, 10, 11, 12] rfl rfl rfl rfl rfl hl.1 rfl (Nat.le_of_ble_eq_true rfl) dX1_solve_66 ⟨Nat.zero_le _, Nat.zero_le _⟩) hP hd hS (fa1 (pmS pm0) (fa1 (pmS (pmS pm0)) (fa1 (pmS (pmS (pmS pm0))) (fa1 (pmS (pmS (pmS (pmS pm0)))) fa0)))) [9, 10, 11, 12] rfl rfl (fun _ => rfl) (fun u3 H locs hu hP hS => ?_)
      have hu3 := hu
      have hP : va_P D vwCl [(hX, .inr (1, [.ref hE, .ref aM, .ref aQ, .ref aD])), (hE, .inr (0, [.ref aO, .ref aK, .ref aL, .ref aR, .int (nI (sn σ)), .int (nI (sc σ))])), (aO, iA cI 10 (so σ)), (aK, dA cD 10 (sk σ)), (aL, iA cI 10 (sl σ)), (aR, iA cI 10 (sr σ)), (aY, dA cD 3 y), (aZ, dA cD 3 Z1), (aM, rA cM 3 rw), (mr 0, dA cD 3 (u3.1 0)), (mr 1, dA cD 3 (u3.1 1)), (mr 2, dA cD 3 (u3.1 2)), (aQ, dA cD 3 u3.2), (aD, dA cD 3 D1)] H := hP
      refine lv_if_ne (tgt := 74) hx hb dX1_solve_69 (by decide) (fun c_69 => ?_) (fun c_69 => ?_)
      ·
        obtain ⟨q, hq⟩ := Option.isSome_iff_exists.mp (bI_ne0.mp c_69)
        obtain ⟨hq1, hq2⟩ := hu3 q hq
        obtain ⟨hqb, hql⟩ := elm_bd hbm hn (sn σ) q (Nat.le_refl _) hq
        have hqb : bM (sn σ) 269 298 q.1 q.2 := hqb.up hn
        refine lv_aload_n hx hb dX1_solve_74 rfl (lv_at hl 2 rfl) ?_
        refine lv_iload hx hb dX1_solve_75 (lv_at hl 1 rfl) ?_
        refine xcv (xV (As := [.int (nI (sn σ))]) (rest := []) hx hb hml hown hg (c_substitute l D cD cI cM cL hX hE aM aQ aD mr rw u3.1 q.1 u3.2 q.2 D1 (sn σ) hrw hn hq1 hq2 hqb hql) mM_X1_45 ok_X1_substitute rfl rfl ⟨Nat.le_of_ble_eq_true rfl, Nat.le_of_ble_eq_true rfl⟩ hI hP hd rfl [0, 8, 9, 10, 11, 12, 13] rfl rfl rfl rfl rfl hl.1 rfl (Nat.le_of_ble_eq_true rfl) dX1_solve_77 ⟨Nat.zero_le _, Nat.zero_le _⟩) hP hd hS (fa1 (pmS (pmS (pmS (pmS (pmS pm0))))) fa0) [13] rfl rfl (fun _ => rfl) (fun u4 H locs hu hP hS => ?_)
        have hu4 := hu
        have hP : va_P D vwCl [(hX, .inr (1, [.ref hE, .ref aM, .ref aQ, .ref aD])), (hE, .inr (0, [.ref aO, .ref aK, .ref aL, .ref aR, .int (nI (sn σ)), .int (nI (sc σ))])), (aO, iA cI 10 (so σ)), (aK, dA cD 10 (sk σ)), (aL, iA cI 10 (sl σ)), (aR, iA cI 10 (sr σ)), (aY, dA cD 3 y), (aZ, dA cD 3 Z1), (aM, rA cM 3 rw), (mr 0, dA cD 3 (u3.1 0)), (mr 1, dA cD 3 (u3.1 1)), (mr 2, dA cD 3 (u3.1 2)), (aQ, dA cD 3 u3.2), (aD, dA cD 3 u4)] H := hP
        refine lv_iconst (v := nI 0) hx hb dX1_solve_80 (by decide) ?_
        refine lv_istore (lv' := [(9, .int (nI 0)), (8, .int (nI f)), (7, .int (nI (sn σ))), (0, .ref hX), (1, .double e0), (3, .double r), (5, .ref aY), (6, .ref aZ)]) hx hb dX1_solve_81 hl (by decide) rfl (fun ls hl => ?_)
        have hdb := fun i (hi : i < sn σ) => (((sbd_bd hqb hql hn (sn σ) (Nat.le_refl _)).1 i (by omega) hi).up (show db (sn σ - 1) ≤ 931 by rcases (show sn σ = 1 ∨ sn σ = 2 ∨ sn σ = 3 by have := hσ.1; omega) with h | h | h <;> rw [h] <;> decide))
        have hzb2 : ∀ i, i < sn σ → bd 1 932 (zsb z (sbd q.1 q.2 (sn σ) (sn σ)) i) := fun i hi => bd_sub (hzb i hi) (hdb i hi) (by decide) (by decide) (by decide)
        refine xfor (I := fun i H locs ls => ∃ (f' : Nat → UInt64), (f' = mix i (zsb z (sbd q.1 q.2 (sn σ) (sn σ))) Z1) ∧ va_P D vwCl [(hX, .inr (1, [.ref hE, .ref aM, .ref aQ, .ref aD])), (hE, .inr (0, [.ref aO, .ref aK, .ref aL, .ref aR, .int (nI (sn σ)), .int (nI (sc σ))])), (aO, iA cI 10 (so σ)), (aK, dA cD 10 (sk σ)), (aL, iA cI 10 (sl σ)), (aR, iA cI 10 (sr σ)), (aY, dA cD 3 y), (aZ, dA cD 3 f'), (aM, rA cM 3 rw), (mr 0, dA cD 3 (u3.1 0)), (mr 1, dA cD 3 (u3.1 1)), (mr 2, dA cD 3 (u3.1 2)), (aQ, dA cD 3 u3.2), (aD, dA cD 3 u4)] H ∧ va_S (fun q => q ∈ ([aZ, mr 0, mr 1, mr 2, aQ, aD] : List Nat)) s.heap H locs ∧ lv_has ls 10 [(9, .int (nI i)), (8, .int (nI f)), (7, .int (nI (sn σ))), (0, .ref hX), (1, .double e0), (3, .double r), (5, .ref aY), (6, .ref aZ)]) (sn σ) 0 ⟨_, (mix_0 _ _).symm, hP, hS, lv_sub hl [0, 1, 2, 3, 4, 5, 6, 7] rfl⟩ (Nat.zero_le _) ?_ ?_
        ·
          intro i h_i ih3 H locs ls ⟨f', hf, hP, hS, hl⟩
          refine lv_iload hx hb dX1_solve_83 (lv_at hl 0 rfl) ?_
          refine lv_iload hx hb dX1_solve_85 (lv_at hl 2 rfl) ?_
          refine lv_icmp_ge (tgt := 114) hx hb dX1_solve_87 (by decide) (fun c_87 => absurd c_87 (nI_ge h_i (by omega))) (fun c_87 => ?_)
          refine lv_aload hx hb dX1_solve_90 (lv_at hl 7 rfl) ?_
          refine lv_iload hx hb dX1_solve_92 (lv_at hl 0 rfl) ?_
          refine lv_aload hx hb dX1_solve_94 (lv_at hl 7 rfl) ?_
          refine lv_iload hx hb dX1_solve_96 (lv_at hl 0 rfl) ?_
          refine xdald hx hb hI hP 7 0 rfl rfl (Nat.lt_of_lt_of_le h_i hn) (by decide) dX1_solve_98 ?_
          refine xeqd (y := z i) (show f' i = z i by rw [hf, mix_ge (Nat.le_refl _)]; exact hz i h_i) ?_
          refine lv_aload_n hx hb dX1_solve_99 rfl (lv_at hl 3 rfl) ?_
          refine gX1 hx hb hg hown hI hP 0 rfl 3 rfl mF_X1_20 rfl dX1_solve_100 ?_
          refine xpc (q := 103) rfl ?_
          refine lv_iload hx hb dX1_solve_103 (lv_at hl 0 rfl) ?_
          refine xdald hx hb hI hP 13 0 rfl rfl (Nat.lt_of_lt_of_le h_i hn) (by decide) dX1_solve_105 ?_
          refine xeqd (y := (sbd q.1 q.2 (sn σ) (sn σ)) i) (hu4 i h_i) ?_
          refine lv_dsub hx hb dX1_solve_106 ((hzb2 i h_i).nn) ?_
          refine xdast hx hb hI hP hd rfl hS 7 0 rfl rfl (Nat.lt_of_lt_of_le h_i hn) (by decide) pm0 dX1_solve_107 (fun H locs hP hS => ?_)
          have hP : va_P D vwCl [(hX, .inr (1, [.ref hE, .ref aM, .ref aQ, .ref aD])), (hE, .inr (0, [.ref aO, .ref aK, .ref aL, .ref aR, .int (nI (sn σ)), .int (nI (sc σ))])), (aO, iA cI 10 (so σ)), (aK, dA cD 10 (sk σ)), (aL, iA cI 10 (sl σ)), (aR, iA cI 10 (sr σ)), (aY, dA cD 3 y), (aZ, dA cD 3 (vf_upd f' i (FP.dsub (z i) ((sbd q.1 q.2 (sn σ) (sn σ)) i)))), (aM, rA cM 3 rw), (mr 0, dA cD 3 (u3.1 0)), (mr 1, dA cD 3 (u3.1 1)), (mr 2, dA cD 3 (u3.1 2)), (aQ, dA cD 3 u3.2), (aD, dA cD 3 u4)] H := hP
          refine lv_iinc (v := nI (i + 1)) (lv' := [(9, .int (nI (i + 1))), (8, .int (nI f)), (7, .int (nI (sn σ))), (0, .ref hX), (1, .double e0), (3, .double r), (5, .ref aY), (6, .ref aZ)]) hx hb dX1_solve_108 hl (k := 0) rfl (nI_1 i) (by decide) rfl (fun ls hl => ?_)
          refine lv_goto (tgt := 83) hx hb dX1_solve_111 (by decide) ?_
          exact ih3 _ _ _ ⟨_, mix_s hf rfl, hP, hS, lv_sub hl [0, 1, 2, 3, 4, 5, 6, 7] rfl⟩
        ·
          intro H locs ls ⟨f', hf, hP, hS, hl⟩
          refine lv_iload hx hb dX1_solve_83 (lv_at hl 0 rfl) ?_
          refine lv_iload hx hb dX1_solve_85 (lv_at hl 2 rfl) ?_
          refine lv_icmp_ge (tgt := 114) hx hb dX1_solve_87 (by decide) (fun c_87 => ?_) (fun c_87 => absurd (Int32.le_refl _) c_87)
          subst hf
          refine lv_aload_n hx hb dX1_solve_114 rfl (lv_at hl 3 rfl) ?_
          refine gX1 hx hb hg hown hI hP 0 rfl 3 rfl mF_X1_20 rfl dX1_solve_115 ?_
          refine lv_iload hx hb dX1_solve_118 (lv_at hl 2 rfl) ?_
          refine xcd (xN (As := [.ref aD, .int (nI (sn σ))]) (rest := []) hx hb hml hown hg (c_greatest l D cD cI cM cL aD u4 (sn σ) hn) hI.2.2.2.2.2 ok_X6_greatest rfl rfl ⟨Nat.le_of_ble_eq_true rfl, Nat.le_of_ble_eq_true rfl⟩ hI hP hd rfl [13] rfl rfl rfl hl.1 rfl (Nat.le_of_ble_eq_true rfl) dX1_solve_120 ⟨Nat.zero_le _, Nat.zero_le _⟩) hP hd hS fa0 [] rfl rfl (fun _ => rfl) (fun _u H locs hu hP hS => ?_)
          have hP : va_P D vwCl [(hX, .inr (1, [.ref hE, .ref aM, .ref aQ, .ref aD])), (hE, .inr (0, [.ref aO, .ref aK, .ref aL, .ref aR, .int (nI (sn σ)), .int (nI (sc σ))])), (aO, iA cI 10 (so σ)), (aK, dA cD 10 (sk σ)), (aL, iA cI 10 (sl σ)), (aR, iA cI 10 (sr σ)), (aY, dA cD 3 y), (aZ, dA cD 3 (mix (sn σ) (zsb z (sbd q.1 q.2 (sn σ) (sn σ))) Z1)), (aM, rA cM 3 rw), (mr 0, dA cD 3 (u3.1 0)), (mr 1, dA cD 3 (u3.1 1)), (mr 2, dA cD 3 (u3.1 2)), (aQ, dA cD 3 u3.2), (aD, dA cD 3 u4)] H := hP
          refine xeqd (y := mxv (sbd q.1 q.2 (sn σ) (sn σ)) (sn σ)) (mxv_ag hu4 _ (Nat.le_refl _)) ?_
          refine lv_ldc2d (v := k1em09) hx hb hown (hg _ mD_X1_53) dX1_solve_123 ?_
          refine xl_gt (tgt := 132) hx hb dX1_solve_126 dX1_solve_127 (by decide) (fun c_126 => ?_) (fun c_126 => ?_)
          ·
            refine lv_aload hx hb dX1_solve_132 (lv_at hl 7 rfl) ?_
            refine lv_iload hx hb dX1_solve_134 (lv_at hl 2 rfl) ?_
            refine xcd (xN (As := [.ref aZ, .int (nI (sn σ))]) (rest := []) hx hb hml hown hg (c_greatest l D cD cI cM cL aZ (mix (sn σ) (zsb z (sbd q.1 q.2 (sn σ) (sn σ))) Z1) (sn σ) hn) hI.2.2.2.2.2 ok_X6_greatest rfl rfl ⟨Nat.le_of_ble_eq_true rfl, Nat.le_of_ble_eq_true rfl⟩ hI hP hd rfl [7] rfl rfl rfl hl.1 rfl (Nat.le_of_ble_eq_true rfl) dX1_solve_136 ⟨Nat.zero_le _, Nat.zero_le _⟩) hP hd hS fa0 [] rfl rfl (fun _ => rfl) (fun _u H locs hu hP hS => ?_)
            have hP : va_P D vwCl [(hX, .inr (1, [.ref hE, .ref aM, .ref aQ, .ref aD])), (hE, .inr (0, [.ref aO, .ref aK, .ref aL, .ref aR, .int (nI (sn σ)), .int (nI (sc σ))])), (aO, iA cI 10 (so σ)), (aK, dA cD 10 (sk σ)), (aL, iA cI 10 (sl σ)), (aR, iA cI 10 (sr σ)), (aY, dA cD 3 y), (aZ, dA cD 3 (mix (sn σ) (zsb z (sbd q.1 q.2 (sn σ) (sn σ))) Z1)), (aM, rA cM 3 rw), (mr 0, dA cD 3 (u3.1 0)), (mr 1, dA cD 3 (u3.1 1)), (mr 2, dA cD 3 (u3.1 2)), (aQ, dA cD 3 u3.2), (aD, dA cD 3 u4)] H := hP
            refine xeqd (y := mxv (zsb z (sbd q.1 q.2 (sn σ) (sn σ))) (sn σ)) (mxv_mix _ (Nat.le_refl _)) ?_
            refine lv_ldc2d (v := k1000000000) hx hb hown (hg _ mD_X1_55) dX1_solve_139 ?_
            refine xl_le (tgt := 148) hx hb dX1_solve_142 dX1_solve_143 (by decide) (fun c_142 => ?_) (fun c_142 => ?_)
            ·
              have hzb3 : ∀ i, i < sn σ → bd 1 30 (zsb z (sbd q.1 q.2 (sn σ) (sn σ)) i) := fun i hi => mx_bd (fun i hi => (hzb2 i hi).1) c_142 hi ⟨b_k1000000000.1, by decide +kernel⟩
              have himp2 : imp σ e0 r y (8 - (f + 1)) (zsb z (sbd q.1 q.2 (sn σ) (sn σ))) = imp σ e0 r y 8 y := by rw [← himp, show 8 - f = 7 - f + 1 by omega, show 8 - (f + 1) = 7 - f by omega]; conv => rhs; unfold imp; rw [hq]; dsimp only; rw [if_pos c_126, if_neg c_142]
              refine lv_iinc (v := nI (f + 1)) (lv' := [(8, .int (nI (f + 1))), (9, .int (nI (sn σ))), (7, .int (nI (sn σ))), (0, .ref hX), (1, .double e0), (3, .double r), (5, .ref aY), (6, .ref aZ)]) hx hb dX1_solve_148 hl (k := 1) rfl (nI_1 f) (by decide) rfl (fun ls hl => ?_)
              refine lv_goto (tgt := 38) hx hb dX1_solve_151 (by decide) ?_
              exact ih _ _ _ ⟨_, _, _, _, _, himp2, (fun i hi => mix_lt hi), hzb3, trivial, trivial, hP, hS, lv_sub hl [0, 2, 3, 4, 5, 6, 7] rfl⟩
            ·
              have hi0 : imp σ e0 r y 8 y = none := by rw [← himp, show 8 - f = 7 - f + 1 by omega]; unfold imp; rw [hq]; dsimp only; rw [if_pos c_126, if_pos c_142]
              refine lv_iconst (v := nI 0) hx hb dX1_solve_146 (by decide) ?_
              refine xeqi (y := bI (imp σ e0 r y 8 y).isSome) (bI0 (by rw [hi0]; rfl)) ?_
              exact W.zret hx hb hr (bI_n _) (fun tS hTS hWS => ⟨(mix (sn σ) (zsb z (sbd q.1 q.2 (sn σ) (sn σ))) Z1, u3.1, u3.2, u4), rfl, (fun z' hz' => by rw [hi0] at hz'; cases hz'), by rw [hTS]; exact hP.sub [7, 9, 10, 11, 12, 13] rfl, hS.F hTS⟩) hS.2.2 dX1_solve_147
          ·
            have hi0 : imp σ e0 r y 8 y = some (zsb z (sbd q.1 q.2 (sn σ) (sn σ))) := by rw [← himp, show 8 - f = 7 - f + 1 by omega]; unfold imp; rw [hq]; dsimp only; rw [if_neg c_126]
            refine lv_iconst (v := nI 1) hx hb dX1_solve_130 (by decide) ?_
            refine xeqi (y := bI (imp σ e0 r y 8 y).isSome) (bI1 (by rw [hi0]; rfl)) ?_
            exact W.zret hx hb hr (bI_n _) (fun tS hTS hWS => ⟨(mix (sn σ) (zsb z (sbd q.1 q.2 (sn σ) (sn σ))) Z1, u3.1, u3.2, u4), rfl, (fun z' hz' => by rw [hi0] at hz'; cases hz'; exact fun i hi => mix_lt hi), by rw [hTS]; exact hP.sub [7, 9, 10, 11, 12, 13] rfl, hS.F hTS⟩) hS.2.2 dX1_solve_131
      ·
        have hno : elm (sn σ) (smG σ e0 r z) (srG σ e0 r y z) (sn σ) = none := Option.isSome_eq_false_iff.mp (bI_eq0.mp c_69) |> Option.isNone_iff_eq_none.mp
        have hi0 : imp σ e0 r y 8 y = none := by rw [← himp, show 8 - f = 7 - f + 1 by omega]; unfold imp; rw [hno]
        refine lv_iconst (v := nI 0) hx hb dX1_solve_72 (by decide) ?_
        refine xeqi (y := bI (imp σ e0 r y 8 y).isSome) (bI0 (by rw [hi0]; rfl)) ?_
        exact W.zret hx hb hr (bI_n _) (fun tS hTS hWS => ⟨(Z1, u3.1, u3.2, D1), rfl, (fun z hz => by rw [hi0] at hz; cases hz), by rw [hTS]; exact hP.sub [7, 9, 10, 11, 12, 13] rfl, hS.F hTS⟩) hS.2.2 dX1_solve_73
    ·
      intro H locs ls ⟨z, Z1, M1, R1, D1, himp, hz, hzb, _h1, _h2, hP, hS, hl⟩
      refine lv_iload hx hb dX1_solve_38 (lv_at hl 0 rfl) ?_
      refine lv_bipush (v := nI 8) hx hb dX1_solve_40 (by decide) ?_
      refine lv_icmp_ge (tgt := 154) hx hb dX1_solve_42 (by decide) (fun c_42 => ?_) (fun c_42 => absurd (nI_le (Nat.le_refl _) (by decide)) c_42)
      have hi0 : imp σ e0 r y 8 y = none := himp.symm
      refine lv_iconst (v := nI 0) hx hb dX1_solve_154 (by decide) ?_
      refine xeqi (y := bI (imp σ e0 r y 8 y).isSome) (bI0 (by rw [hi0]; rfl)) ?_
      exact W.zret hx hb hr (bI_n _) (fun tS hTS hWS => ⟨(Z1, M1, R1, D1), rfl, (fun z' hz' => by rw [hi0] at hz'; cases hz'), by rw [hTS]; exact hP.sub [7, 9, 10, 11, 12, 13] rfl, hS.F hTS⟩) hS.2.2 dX1_solve_155
