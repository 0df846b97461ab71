/-! the reference's object, of its fields that are no arrays -/
def mO (A : Nat → Nat) (th n tc : Int32) (t sh tl er : UInt64) (fl kp : Int32) (ks : UInt64) (tk : Int32) (tz sp : UInt64) (wd : Int32) (lv : UInt64) (dn rf ev : Int32) : va_E := .inr (7, [.int th, .int n, .int tc, .ref (A 1), .ref (A 2), .ref (A 3), .ref (A 4), .double t, .double sh, .double tl, .ref (A 5), .ref (A 6), .double er, .int fl, .ref (A 7), .ref (A 8), .ref (A 9), .ref (A 10), .ref (A 11), .ref (A 12), .ref (A 13), .int kp, .double ks, .ref (A 14), .ref (A 15), .int tk, .double tz, .double sp, .ref (A 16), .ref (A 17), .ref (A 18), .int wd, .double lv, .int dn, .int rf, .int ev, .ref (A 19)])
theorem ok_X7_out : okS yX7_out RX7 cX7_out 2 (some .boolean) 2 := ⟨mT_X7_out, mN_X7, mC_X7_out, by decide +kernel⟩
theorem ok_X7_far : okS yX7_far RX7 cX7_far 2 (some .double) 1 := ⟨mT_X7_far, mN_X7, mC_X7_far, by decide +kernel⟩
theorem ok_X7_named : okS yX7_named RX7 cX7_named 4 (some .double) 3 := ⟨mT_X7_named, mN_X7, mC_X7_named, by decide +kernel⟩
theorem ok_X7_thrown : okV yX7_thrown RX7 cX7_thrown 1 (some .int) 0 := ⟨mI_X7_thrown, mS_X7_thrown, mN_X7, mC_X7_thrown, by decide +kernel⟩
theorem ok_X7_max : okV yX7_max RX7 cX7_max 5 (some .double) 1 := ⟨mI_X7_max, mS_X7_max, mN_X7, mC_X7_max, by decide +kernel⟩
theorem ok_X7_derive : okV yX7_derive RX7 cX7_derive 9 none 3 := ⟨mI_X7_derive, mS_X7_derive, mN_X7, mC_X7_derive, by decide +kernel⟩
theorem ok_X7_slope : okV yX7_slope RX7 cX7_slope 9 (some .double) 4 := ⟨mI_X7_slope, mS_X7_slope, mN_X7, mC_X7_slope, by decide +kernel⟩
theorem ok_X7_lead : okV yX7_lead RX7 cX7_lead 7 none 4 := ⟨mI_X7_lead, mS_X7_lead, mN_X7, mC_X7_lead, by decide +kernel⟩
theorem ok_X7_runge : okV yX7_runge RX7 cX7_runge 4 none 1 := ⟨mI_X7_runge, mS_X7_runge, mN_X7, mC_X7_runge, by decide +kernel⟩
theorem ok_X7_pair : okV yX7_pair RX7 cX7_pair 4 none 1 := ⟨mI_X7_pair, mS_X7_pair, mN_X7, mC_X7_pair, by decide +kernel⟩
theorem ok_X7_adams : okV yX7_adams RX7 cX7_adams 4 none 1 := ⟨mI_X7_adams, mS_X7_adams, mN_X7, mC_X7_adams, by decide +kernel⟩
theorem ok_X7_implicit : okV yX7_implicit RX7 cX7_implicit 7 none 1 := ⟨mI_X7_implicit, mS_X7_implicit, mN_X7, mC_X7_implicit, by decide +kernel⟩
theorem ok_X7_solve : okV yX7_solve RX7 cX7_solve 9 none 0 := ⟨mI_X7_solve, mS_X7_solve, mN_X7, mC_X7_solve, by decide +kernel⟩
theorem ok_X7_midpoints : okV yX7_midpoints RX7 cX7_midpoints 11 none 3 := ⟨mI_X7_midpoints, mS_X7_midpoints, mN_X7, mC_X7_midpoints, by decide +kernel⟩
theorem ok_X7_tried : okV yX7_tried RX7 cX7_tried 5 (some .boolean) 2 := ⟨mI_X7_tried, mS_X7_tried, mN_X7, mC_X7_tried, by decide +kernel⟩
theorem ok_X7_take : okV yX7_take RX7 cX7_take 6 none 2 := ⟨mI_X7_take, mS_X7_take, mN_X7, mC_X7_take, by decide +kernel⟩
theorem ok_X7_curve : okV yX7_curve RX7 cX7_curve 4 (some .double) 2 := ⟨mI_X7_curve, mS_X7_curve, mN_X7, mC_X7_curve, by decide +kernel⟩
theorem ok_X7_watchStep : okV yX7_watchStep RX7 cX7_watchStep 10 none 0 := ⟨mI_X7_watchStep, mS_X7_watchStep, mN_X7, mC_X7_watchStep, by decide +kernel⟩
theorem ok_X7_system : okV yX7_system RX7 cX7_system 3 none 1 := ⟨mI_X7_system, mS_X7_system, mN_X7, mC_X7_system, by decide +kernel⟩
theorem ok_X7_isNamed : okV yX7_isNamed RX7 cX7_isNamed 2 (some .boolean) 1 := ⟨mI_X7_isNamed, mS_X7_isNamed, mN_X7, mC_X7_isNamed, by decide +kernel⟩
theorem ok_X7_term : okV yX7_term RX7 cX7_term 7 (some .int) 4 := ⟨mI_X7_term, mS_X7_term, mN_X7, mC_X7_term, by decide +kernel⟩
theorem ok_X7_value : okV yX7_value RX7 cX7_value 4 none 2 := ⟨mI_X7_value, mS_X7_value, mN_X7, mC_X7_value, by decide +kernel⟩
theorem ok_X7_size : okV yX7_size RX7 cX7_size 5 none 2 := ⟨mI_X7_size, mS_X7_size, mN_X7, mC_X7_size, by decide +kernel⟩
theorem ok_X7_step : okV yX7_step RX7 cX7_step 4 none 1 := ⟨mI_X7_step, mS_X7_step, mN_X7, mC_X7_step, by decide +kernel⟩
theorem ok_X7_go : okV yX7_go RX7 cX7_go 9 (some .int) 2 := ⟨mI_X7_go, mS_X7_go, mN_X7, mC_X7_go, by decide +kernel⟩
theorem ok_X7_watch : okV yX7_watch RX7 cX7_watch 4 none 2 := ⟨mI_X7_watch, mS_X7_watch, mN_X7, mC_X7_watch, by decide +kernel⟩
theorem ok_X7_events : okV yX7_events RX7 cX7_events 1 (some .int) 0 := ⟨mI_X7_events, mS_X7_events, mN_X7, mC_X7_events, by decide +kernel⟩
theorem ok_X7_event : okV yX7_event RX7 cX7_event 2 (some .double) 1 := ⟨mI_X7_event, mS_X7_event, mN_X7, mC_X7_event, by decide +kernel⟩
theorem ok_X7_at : okV yX7_at RX7 cX7_at 2 (some .double) 1 := ⟨mI_X7_at, mS_X7_at, mN_X7, mC_X7_at, by decide +kernel⟩
theorem ok_X7_derivative : okV yX7_derivative RX7 cX7_derivative 2 (some .double) 1 := ⟨mI_X7_derivative, mS_X7_derivative, mN_X7, mC_X7_derivative, by decide +kernel⟩
theorem ok_X7_between : okV yX7_between RX7 cX7_between 4 (some .double) 2 := ⟨mI_X7_between, mS_X7_between, mN_X7, mC_X7_between, by decide +kernel⟩
theorem ok_X7_time : okV yX7_time RX7 cX7_time 1 (some .double) 0 := ⟨mI_X7_time, mS_X7_time, mN_X7, mC_X7_time, by decide +kernel⟩
theorem ok_X7_nextSize : okV yX7_nextSize RX7 cX7_nextSize 1 (some .double) 0 := ⟨mI_X7_nextSize, mS_X7_nextSize, mN_X7, mC_X7_nextSize, by decide +kernel⟩
theorem ok_X7_steps : okV yX7_steps RX7 cX7_steps 2 (some .int) 1 := ⟨mI_X7_steps, mS_X7_steps, mN_X7, mC_X7_steps, by decide +kernel⟩
set_option maxHeartbeats 4000000 in
set_option maxRecDepth 100000 in
theorem r_out (l : Launch) (D : va_G) (cD cI cM cL : ClassId) (k lm : Int32)  : Met l yX7_out (Cond.code yX7_out cX7_out 2 (some .boolean) :: lw_good) { frames := 0, cells := 0, slots := 0, locals := 0 } (xPc D (tyL cD cI cM cL) [.int k, .int lm] []) (xQ D [] (fun (_ : Unit) => some (.int (bI (!decide (nI 0 ≤ k ∧ k < lm))))) (fun (_ : Unit) => True) (fun (_ : Unit) => [])) 0 0 (fun q => q ∈ ([] : List Nat)) := by
  refine xofW (adr := []) (by decide) (Nat.le_of_ble_eq_true rfl) ?_
  intro p e s m below meth c ls hx hb hr hml hg hown hlk hI hP hd hS hl
  have hown : s.vm.findClass RX7 = some m.cls := hown
  have hd : dj [] := hd
  have hl : lv_has ls 2 [(0, .int k), (1, .int lm)] := hl
  refine lv_iload_n hx hb dX7_out_0 rfl (lv_at hl 0 rfl) ?_
  refine lv_if_lt (tgt := 9) hx hb dX7_out_1 (by decide) (fun c_1 => ?_) (fun c_1 => ?_)
  ·
    refine lv_iconst (v := nI 1) hx hb dX7_out_9 (by decide) ?_
    refine lv_goto (tgt := 14) hx hb dX7_out_10 (by decide) ?_
    refine xeqi (y := bI (!decide (nI 0 ≤ k ∧ k < lm))) (bI1 (by rw [df (fun q => (Int32.not_lt.mpr q.1) c_1)]; rfl)) ?_
    exact W.zret hx hb hr (bI_n _) (fun tS hTS hWS => ⟨(), rfl, trivial, by rw [hTS]; exact hP.sub [] rfl, hS.F hTS⟩) hS.2.2 dX7_out_14
  ·
    refine lv_iload_n hx hb dX7_out_4 rfl (lv_at hl 0 rfl) ?_
    refine lv_iload_n hx hb dX7_out_5 rfl (lv_at hl 1 rfl) ?_
    refine lv_icmp_lt (tgt := 13) hx hb dX7_out_6 (by decide) (fun c_6 => ?_) (fun c_6 => ?_)
    ·
      refine lv_iconst (v := nI 0) hx hb dX7_out_13 (by decide) ?_
      refine xeqi (y := bI (!decide (nI 0 ≤ k ∧ k < lm))) (bI0 (by rw [dt ⟨Int32.not_lt.mp c_1, c_6⟩]; rfl)) ?_
      exact W.zret hx hb hr (bI_n _) (fun tS hTS hWS => ⟨(), rfl, trivial, by rw [hTS]; exact hP.sub [] rfl, hS.F hTS⟩) hS.2.2 dX7_out_14
    ·
      refine lv_iconst (v := nI 1) hx hb dX7_out_9 (by decide) ?_
      refine lv_goto (tgt := 14) hx hb dX7_out_10 (by decide) ?_
      refine xeqi (y := bI (!decide (nI 0 ≤ k ∧ k < lm))) (bI1 (by rw [df (fun q => c_6 q.2)]; rfl)) ?_
      exact W.zret hx hb hr (bI_n _) (fun tS hTS hWS => ⟨(), rfl, trivial, by rw [hTS]; exact hP.sub [] rfl, hS.F hTS⟩) hS.2.2 dX7_out_14

set_option maxHeartbeats 4000000 in
set_option maxRecDepth 100000 in
theorem r_far (l : Launch) (D : va_G) (cD cI cM cL : ClassId) (x : UInt64)  : Met l yX7_far (Cond.code yX7_far cX7_far 2 (some .double) :: lw_good) { frames := 0, cells := 0, slots := 0, locals := 0 } (xPc D (tyL cD cI cM cL) [.double x] []) (xQ D [] (fun (_ : Unit) => some (.double (sz x))) (fun (_ : Unit) => True) (fun (_ : Unit) => [])) 0 0 (fun q => q ∈ ([] : List Nat)) := by
  refine xofW (adr := []) (by decide) (Nat.le_of_ble_eq_true rfl) ?_
  intro p e s m below meth c ls hx hb hr hml hg hown hlk hI hP hd hS hl
  have hown : s.vm.findClass RX7 = some m.cls := hown
  have hd : dj [] := hd
  have hl : lv_has ls 2 [(0, .double x)] := hl
  refine lv_dload_n hx hb dX7_far_0 rfl (lv_at hl 0 rfl) ?_
  refine lv_dconst0 hx hb dX7_far_1 ?_
  refine xg_ge (tgt := 11) hx hb dX7_far_2 dX7_far_3 (by decide) (fun c_2 => ?_) (fun c_2 => ?_)
  ·
    refine lv_dload_n hx hb dX7_far_11 rfl (lv_at hl 0 rfl) ?_
    refine xeqd (y := sz x) (show x = sz x by unfold sz; rw [if_neg c_2]) ?_
    exact W.dret hx hb hr (fun tS hTS hWS => ⟨(), rfl, trivial, by rw [hTS]; exact hP.sub [] rfl, hS.F hTS⟩) hS.2.2 dX7_far_12
  ·
    refine lv_dload_n hx hb dX7_far_6 rfl (lv_at hl 0 rfl) ?_
    refine lv_dneg hx hb dX7_far_7 ?_
    refine lv_goto (tgt := 12) hx hb dX7_far_8 (by decide) ?_
    refine xeqd (y := sz x) (show FP.dneg x = sz x by unfold sz; rw [if_pos c_2]) ?_
    exact W.dret hx hb hr (fun tS hTS hWS => ⟨(), rfl, trivial, by rw [hTS]; exact hP.sub [] rfl, hS.F hTS⟩) hS.2.2 dX7_far_12

set_option maxHeartbeats 4000000 in
set_option maxRecDepth 100000 in
theorem r_thrown (l : Launch) (D : va_G) (cD cI cM cL : ClassId) (A : Nat → Nat) (σ : Sys) (th : Int32) (t sh tl er : UInt64) (fl kp : Int32) (ks : UInt64) (tk : Int32) (tz sp : UInt64) (wd : Int32) (lv : UInt64) (dn rf ev : Int32)  : Met l yX7_thrown (Cond.code yX7_thrown cX7_thrown 1 (some .int) :: lw_good) { frames := 0, cells := 0, slots := 0, locals := 0 } (xPc D (tyL cD cI cM cL) [.ref (A 0)] [(A 0, mO A th (nI (sn σ)) (nI (sc σ)) t sh tl er fl kp ks tk tz sp wd lv dn rf ev)]) (xQ D [] (fun (_ : Unit) => some (.int th)) (fun (_ : Unit) => True) (fun (_ : Unit) => [])) 0 0 (fun q => q ∈ ([] : List Nat)) := by
  refine xofW (adr := []) (by decide) (Nat.le_of_ble_eq_true rfl) ?_
  intro p e s m below meth c ls hx hb hr hml hg hown hlk hI hP hd hS hl
  have hown : s.vm.findClass RX7 = some m.cls := hown
  have hd : dj [A 0] := hd
  have hl : lv_has ls 1 [(0, .ref (A 0))] := hl
  refine lv_aload_n hx hb dX7_thrown_0 rfl (lv_at hl 0 rfl) ?_
  refine gX7 hx hb hg hown hI hP 0 rfl 0 rfl mF_X7_84 rfl dX7_thrown_1 ?_
  exact W.iret hx hb hr (fun tS hTS hWS => ⟨(), rfl, trivial, by rw [hTS]; exact hP.sub [] rfl, hS.F hTS⟩) hS.2.2 dX7_thrown_4

set_option maxHeartbeats 4000000 in
set_option maxRecDepth 100000 in
theorem r_max (l : Launch) (D : va_G) (cD cI cM cL : ClassId) (A : Nat → Nat) (σ : Sys) (th : Int32) (t sh tl er : UInt64) (fl kp : Int32) (ks : UInt64) (tk : Int32) (tz sp : UInt64) (wd : Int32) (lv : UInt64) (dn rf ev : Int32) (aV : Nat) (v : Nat → UInt64) (hn : sn σ ≤ 3) : Met l yX7_max (Cond.code yX7_max cX7_max 5 (some .double) :: lw_good) { frames := 1, cells := 0, slots := 0, locals := 21 } (xPc D (tyL cD cI cM cL) [.ref (A 0), .ref aV] [(A 0, mO A th (nI (sn σ)) (nI (sc σ)) t sh tl er fl kp ks tk tz sp wd lv dn rf ev), (aV, dA cD 3 v)]) (xQ D [] (fun (_ : Unit) => some (.double (mxv v (sn σ)))) (fun (_ : Unit) => True) (fun (_ : Unit) => [])) 0 0 (fun q => q ∈ ([] : List Nat)) := by
  refine xofW (adr := []) (by decide) (Nat.le_of_ble_eq_true rfl) ?_
  intro p e s m below meth c ls hx hb hr hml hg hown hlk hI hP hd hS hl
  have hown : s.vm.findClass RX7 = some m.cls := hown
  have hd : dj [A 0, aV] := hd
  have hl : lv_has ls 5 [(0, .ref (A 0)), (1, .ref aV)] := hl
  refine lv_dconst0 hx hb dX7_max_0 ?_
  refine lv_dstore_n (lv' := [(2, .double FP.dconst0), (0, .ref (A 0)), (1, .ref aV)]) hx hb dX7_max_1 rfl hl (by decide) rfl (fun ls hl => ?_)
  refine lv_iconst (v := nI 0) hx hb dX7_max_2 (by decide) ?_
  refine lv_istore (lv' := [(4, .int (nI 0)), (2, .double FP.dconst0), (0, .ref (A 0)), (1, .ref aV)]) hx hb dX7_max_3 hl (by decide) rfl (fun ls hl => ?_)
  refine xfor (I := fun i H locs ls => ∃ (x : UInt64), (x = mxv v i) ∧ va_P D vwCl [(A 0, mO A th (nI (sn σ)) (nI (sc σ)) t sh tl er fl kp ks tk tz sp wd lv dn rf ev), (aV, dA cD 3 v)] H ∧ va_S (fun q => q ∈ ([] : List Nat)) s.heap H locs ∧ lv_has ls 5 [(4, .int (nI i)), (2, .double x), (0, .ref (A 0)), (1, .ref aV)]) (sn σ) 0 ⟨_, rfl, hP, hS, lv_sub hl [0, 1, 2, 3] rfl⟩ (Nat.zero_le _) ?_ ?_
  ·
    intro i h_i ih H locs ls ⟨x, ha, hP, hS, hl⟩
    refine lv_iload hx hb dX7_max_5 (lv_at hl 0 rfl) ?_
    refine lv_aload_n hx hb dX7_max_7 rfl (lv_at hl 2 rfl) ?_
    refine gX7 hx hb hg hown hI hP 0 rfl 1 rfl mF_X7_7 rfl dX7_max_8 ?_
    refine lv_icmp_ge (tgt := 40) hx hb dX7_max_11 (by decide) (fun c_11 => absurd c_11 (nI_ge h_i (by omega))) (fun c_11 => ?_)
    refine lv_aload_n hx hb dX7_max_14 rfl (lv_at hl 3 rfl) ?_
    refine lv_iload hx hb dX7_max_15 (lv_at hl 0 rfl) ?_
    refine xdald hx hb hI hP 1 0 rfl rfl (Nat.lt_of_lt_of_le h_i hn) (by decide) dX7_max_17 ?_
    refine xcd (xS (As := [.double (v i)]) (rest := []) hx hb hml hown hg (r_far l D cD cI cM cL (v i)) mM_X7_87 ok_X7_far rfl rfl ⟨Nat.le_of_ble_eq_true rfl, Nat.le_of_ble_eq_true rfl⟩ hI hP hd rfl [] rfl rfl rfl hl.1 rfl (Nat.le_of_ble_eq_true rfl) dX7_max_18 ⟨Nat.zero_le _, Nat.zero_le _⟩) hP hd hS fa0 [] rfl rfl (fun _ => rfl) (fun _u H locs hu hP hS => ?_)
    have hP : va_P D vwCl [(A 0, mO A th (nI (sn σ)) (nI (sc σ)) t sh tl er fl kp ks tk tz sp wd lv dn rf ev), (aV, dA cD 3 v)] H := hP
    refine lv_dload_n hx hb dX7_max_21 rfl (lv_at hl 1 rfl) ?_
    refine xl_le (tgt := 34) hx hb dX7_max_22 dX7_max_23 (by decide) (fun c_22 => ?_) (fun c_22 => ?_)
    ·
      refine lv_iinc (v := nI (i + 1)) (lv' := [(4, .int (nI (i + 1))), (2, .double x), (0, .ref (A 0)), (1, .ref aV)]) hx hb dX7_max_34 hl (k := 0) rfl (nI_1 i) (by decide) rfl (fun ls hl => ?_)
      refine lv_goto (tgt := 5) hx hb dX7_max_37 (by decide) ?_
      exact ih _ _ _ ⟨_, show x = mxv v (i + 1) by unfold mxv; rw [← ha, if_neg c_22], hP, hS, lv_sub hl [0, 1, 2, 3] rfl⟩
    ·
      refine lv_aload_n hx hb dX7_max_26 rfl (lv_at hl 3 rfl) ?_
      refine lv_iload hx hb dX7_max_27 (lv_at hl 0 rfl) ?_
      refine xpc (q := 29) rfl ?_
      refine xdald hx hb hI hP 1 0 rfl rfl (Nat.lt_of_lt_of_le h_i hn) (by decide) dX7_max_29 ?_
      refine xcd (xS (As := [.double (v i)]) (rest := []) hx hb hml hown hg (r_far l D cD cI cM cL (v i)) mM_X7_87 ok_X7_far rfl rfl ⟨Nat.le_of_ble_eq_true rfl, Nat.le_of_ble_eq_true rfl⟩ hI hP hd rfl [] rfl rfl rfl hl.1 rfl (Nat.le_of_ble_eq_true rfl) dX7_max_30 ⟨Nat.zero_le _, Nat.zero_le _⟩) hP hd hS fa0 [] rfl rfl (fun _ => rfl) (fun _u H locs hu hP hS => ?_)
      have hP : va_P D vwCl [(A 0, mO A th (nI (sn σ)) (nI (sc σ)) t sh tl er fl kp ks tk tz sp wd lv dn rf ev), (aV, dA cD 3 v)] H := hP
      refine lv_dstore_n (lv' := [(2, .double (sz (v i))), (4, .int (nI i)), (0, .ref (A 0)), (1, .ref aV)]) hx hb dX7_max_33 rfl hl (by decide) rfl (fun ls hl => ?_)
      refine lv_iinc (v := nI (i + 1)) (lv' := [(4, .int (nI (i + 1))), (2, .double (sz (v i))), (0, .ref (A 0)), (1, .ref aV)]) hx hb dX7_max_34 hl (k := 1) rfl (nI_1 i) (by decide) rfl (fun ls hl => ?_)
      refine lv_goto (tgt := 5) hx hb dX7_max_37 (by decide) ?_
      exact ih _ _ _ ⟨_, show sz (v i) = mxv v (i + 1) by unfold mxv; rw [← ha, if_pos c_22], hP, hS, lv_sub hl [0, 1, 2, 3] rfl⟩
  ·
    intro H locs ls ⟨x, ha, hP, hS, hl⟩
    refine lv_iload hx hb dX7_max_5 (lv_at hl 0 rfl) ?_
    refine lv_aload_n hx hb dX7_max_7 rfl (lv_at hl 2 rfl) ?_
    refine gX7 hx hb hg hown hI hP 0 rfl 1 rfl mF_X7_7 rfl dX7_max_8 ?_
    refine lv_icmp_ge (tgt := 40) hx hb dX7_max_11 (by decide) (fun c_11 => ?_) (fun c_11 => absurd (Int32.le_refl _) c_11)
    refine lv_dload_n hx hb dX7_max_40 rfl (lv_at hl 1 rfl) ?_
    refine xeqd (y := mxv v (sn σ)) ha ?_
    exact W.dret hx hb hr (fun tS hTS hWS => ⟨(), rfl, trivial, by rw [hTS]; exact hP.sub [] rfl, hS.F hTS⟩) hS.2.2 dX7_max_41

set_option maxHeartbeats 4000000 in
set_option maxRecDepth 100000 in
theorem r_named (l : Launch) (D : va_G) (cD cI cM cL : ClassId) (n : Nat) (k : Int32) (t : UInt64) (aY : Nat) (y : Nat → UInt64) (hn : n ≤ 3) (hk : okf n k) : Met l yX7_named (Cond.code yX7_named cX7_named 4 (some .double) :: lw_good) { frames := 0, cells := 0, slots := 0, locals := 0 } (xPc D (tyL cD cI cM cL) [.int k, .double t, .ref aY] [(aY, dA cD 3 y)]) (xQ D [] (fun (_ : Unit) => some (.double (vv n t y k))) (fun (_ : Unit) => True) (fun (_ : Unit) => [])) 0 0 (fun q => q ∈ ([] : List Nat)) := by
  refine xofW (adr := []) (by decide) (Nat.le_of_ble_eq_true rfl) ?_
  intro p e s m below meth c ls hx hb hr hml hg hown hlk hI hP hd hS hl
  have hown : s.vm.findClass RX7 = some m.cls := hown
  have hd : dj [aY] := hd
  have hl : lv_has ls 4 [(0, .int k), (1, .double t), (3, .ref aY)] := hl
  refine lv_iload_n hx hb dX7_named_0 rfl (lv_at hl 0 rfl) ?_
  refine lv_iconst (v := nI 4) hx hb dX7_named_1 (by decide) ?_
  refine lv_icmp_ne (tgt := 9) hx hb dX7_named_2 (by decide) (fun c_2 => ?_) (fun c_2 => ?_)
  ·
    refine lv_iload_n hx hb dX7_named_9 rfl (lv_at hl 0 rfl) ?_
    refine lv_iconst (v := nI 3) hx hb dX7_named_10 (by decide) ?_
    refine lv_icmp_ne (tgt := 18) hx hb dX7_named_11 (by decide) (fun c_11 => ?_) (fun c_11 => ?_)
    ·
      obtain ⟨j, hj, hkj⟩ : ∃ j : Nat, j < n ∧ k = nI j := hk.elim id (fun q => q.elim (fun q => absurd q c_11) (fun q => absurd q c_2))
      subst hkj
      have hl : lv_has ls 4 [(0, .int (nI j)), (1, .double t), (3, .ref aY)] := hl
      refine lv_aload_n hx hb dX7_named_18 rfl (lv_at hl 2 rfl) ?_
      refine lv_iload_n hx hb dX7_named_19 rfl (lv_at hl 0 rfl) ?_
      refine xdald hx hb hI hP 0 0 rfl rfl (by omega) (by decide) dX7_named_20 ?_
      refine xeqd (y := vv n t y (nI j)) ((vv_j hj hn).symm) ?_
      exact W.dret hx hb hr (fun tS hTS hWS => ⟨(), rfl, trivial, by rw [hTS]; exact hP.sub [] rfl, hS.F hTS⟩) hS.2.2 dX7_named_21
    ·
      refine lv_dload_n hx hb dX7_named_14 rfl (lv_at hl 1 rfl) ?_
      refine lv_goto (tgt := 21) hx hb dX7_named_15 (by decide) ?_
      refine xeqd (y := vv n t y k) (show t = vv n t y k by rw [c_11]; exact (vv_3 hn).symm) ?_
      exact W.dret hx hb hr (fun tS hTS hWS => ⟨(), rfl, trivial, by rw [hTS]; exact hP.sub [] rfl, hS.F hTS⟩) hS.2.2 dX7_named_21
  ·
    refine lv_dconst1 hx hb dX7_named_5 ?_
    refine lv_goto (tgt := 21) hx hb dX7_named_6 (by decide) ?_
    refine xeqd (y := vv n t y k) (show FP.dconst1 = vv n t y k by rw [c_2]; exact (vv_4 hn).symm) ?_
    exact W.dret hx hb hr (fun tS hTS hWS => ⟨(), rfl, trivial, by rw [hTS]; exact hP.sub [] rfl, hS.F hTS⟩) hS.2.2 dX7_named_21

set_option maxHeartbeats 4000000 in
set_option maxRecDepth 100000 in
theorem r_derive (l : Launch) (D : va_G) (cD cI cM cL : ClassId) (A : Nat → Nat) (σ : Sys) (th : Int32) (t sh tl er : UInt64) (fl kp : Int32) (ks : UInt64) (tk : Int32) (tz sp : UInt64) (wd : Int32) (lv : UInt64) (dn rf ev : Int32) (aY aZ : Nat) (x : UInt64) (y z : Nat → UInt64) (K : Nat) (hσ : oks σ) (ht : bd 1 K x) (hy : ∀ j, j < sn σ → bd 1 K (y j)) (hK : 2 * K + 10 ≤ 1000) : Met l yX7_derive (Cond.code yX7_derive cX7_derive 9 none :: lw_good) { frames := 1, cells := 0, slots := 0, locals := 23 } (xPc D (tyL cD cI cM cL) [.ref (A 0), .double x, .ref aY, .ref aZ] [(A 0, mO A th (nI (sn σ)) (nI (sc σ)) t sh tl er fl kp ks tk tz sp wd lv dn rf ev), (A 1, iA cI 10 (so σ)), (A 2, iA cI 10 (sl σ)), (A 3, iA cI 10 (sr σ)), (A 4, dA cD 10 (sk σ)), (aY, dA cD 3 y), (aZ, dA cD 3 z)]) (xQ D [aZ] (fun (_ : Unit) => none) (fun (_ : Unit) => True) (fun (_ : Unit) => [(aZ, dA cD 3 (mix (sn σ) (fs σ x y) z))])) 0 0 (fun q => q ∈ ([aZ] : List Nat)) := by
  refine xofW (adr := [aZ]) (by decide) (Nat.le_of_ble_eq_true rfl) ?_
  intro p e s m below meth c ls hx hb hr hml hg hown hlk hI hP hd hS hl
  have hown : s.vm.findClass RX7 = some m.cls := hown
  have hd : dj [A 0, A 1, A 2, A 3, A 4, aY, aZ] := hd
  have hl : lv_has ls 9 [(0, .ref (A 0)), (1, .double x), (3, .ref aY), (4, .ref aZ)] := hl
  have hn : sn σ ≤ 3 := hσ.2.1
  have hc : sc σ ≤ 10 := hσ.2.2.1
  refine lv_iconst (v := nI 0) hx hb dX7_derive_0 (by decide) ?_
  refine lv_istore (lv' := [(5, .int (nI 0)), (0, .ref (A 0)), (1, .double x), (3, .ref aY), (4, .ref aZ)]) hx hb dX7_derive_1 hl (by decide) rfl (fun ls hl => ?_)
  refine xfor (I := fun i H locs ls => ∃ (f' : Nat → UInt64), (f' = mix i (fs σ x y) z) ∧ va_P D vwCl [(A 0, mO A th (nI (sn σ)) (nI (sc σ)) t sh tl er fl kp ks tk tz sp wd lv dn rf ev), (A 1, iA cI 10 (so σ)), (A 2, iA cI 10 (sl σ)), (A 3, iA cI 10 (sr σ)), (A 4, dA cD 10 (sk σ)), (aY, dA cD 3 y), (aZ, dA cD 3 f')] H ∧ va_S (fun q => q ∈ ([aZ] : List Nat)) s.heap H locs ∧ lv_has ls 9 [(5, .int (nI i)), (0, .ref (A 0)), (1, .double x), (3, .ref aY), (4, .ref aZ)]) (sn σ) 0 ⟨_, (mix_0 _ _).symm, hP, hS, lv_sub hl [0, 1, 2, 3, 4] rfl⟩ (Nat.zero_le _) ?_ ?_
  ·
    intro i h_i ih H locs ls ⟨f', hf, hP, hS, hl⟩
    refine lv_iload hx hb dX7_derive_3 (lv_at hl 0 rfl) ?_
    refine lv_aload_n hx hb dX7_derive_5 rfl (lv_at hl 1 rfl) ?_
    refine gX7 hx hb hg hown hI hP 0 rfl 1 rfl mF_X7_7 rfl dX7_derive_6 ?_
    refine lv_icmp_ge (tgt := 96) hx hb dX7_derive_9 (by decide) (fun c_9 => absurd c_9 (nI_ge h_i (by omega))) (fun c_9 => ?_)
    refine lv_dconst0 hx hb dX7_derive_12 ?_
    refine lv_dstore (lv' := [(6, .double FP.dconst0), (5, .int (nI i)), (0, .ref (A 0)), (1, .double x), (3, .ref aY), (4, .ref aZ)]) hx hb dX7_derive_13 hl (by decide) rfl (fun ls hl => ?_)
    refine lv_iconst (v := nI 0) hx hb dX7_derive_15 (by decide) ?_
    refine lv_istore (lv' := [(8, .int (nI 0)), (6, .double FP.dconst0), (5, .int (nI i)), (0, .ref (A 0)), (1, .double x), (3, .ref aY), (4, .ref aZ)]) hx hb dX7_derive_16 hl (by decide) rfl (fun ls hl => ?_)
    refine xfor (I := fun k H locs ls => ∃ (a : UInt64), (a = fsum σ x y i k) ∧ va_P D vwCl [(A 0, mO A th (nI (sn σ)) (nI (sc σ)) t sh tl er fl kp ks tk tz sp wd lv dn rf ev), (A 1, iA cI 10 (so σ)), (A 2, iA cI 10 (sl σ)), (A 3, iA cI 10 (sr σ)), (A 4, dA cD 10 (sk σ)), (aY, dA cD 3 y), (aZ, dA cD 3 f')] H ∧ va_S (fun q => q ∈ ([aZ] : List Nat)) s.heap H locs ∧ lv_has ls 9 [(8, .int (nI k)), (6, .double a), (5, .int (nI i)), (0, .ref (A 0)), (1, .double x), (3, .ref aY), (4, .ref aZ)]) (sc σ) 0 ⟨_, rfl, hP, hS, lv_sub hl [0, 1, 2, 3, 4, 5, 6] rfl⟩ (Nat.zero_le _) ?_ ?_
    ·
      intro k h_k ih2 H locs ls ⟨a, ha, hP, hS, hl⟩
      refine lv_iload hx hb dX7_derive_18 (lv_at hl 0 rfl) ?_
      refine lv_aload_n hx hb dX7_derive_20 rfl (lv_at hl 3 rfl) ?_
      refine gX7 hx hb hg hown hI hP 0 rfl 2 rfl mF_X7_91 rfl dX7_derive_21 ?_
      refine lv_icmp_ge (tgt := 83) hx hb dX7_derive_24 (by decide) (fun c_24 => absurd c_24 (nI_ge h_k (by omega))) (fun c_24 => ?_)
      obtain ⟨-, hfl, hfr, -⟩ := hσ.2.2.2 k h_k
      refine lv_aload_n hx hb dX7_derive_27 rfl (lv_at hl 3 rfl) ?_
      refine xpc (q := 28) rfl ?_
      refine gX7 hx hb hg hown hI hP 0 rfl 3 rfl mF_X7_13 rfl dX7_derive_28 ?_
      refine lv_iload hx hb dX7_derive_31 (lv_at hl 0 rfl) ?_
      refine xiald hx hb hI hP 1 1 rfl rfl (Nat.lt_of_lt_of_le h_k hc) (by decide) dX7_derive_33 ?_
      refine lv_iload hx hb dX7_derive_34 (lv_at hl 2 rfl) ?_
      refine lv_icmp_ne (tgt := 77) hx hb dX7_derive_36 (by decide) (fun c_36 => ?_) (fun c_36 => ?_)
      ·
        refine lv_iinc (v := nI (k + 1)) (lv' := [(8, .int (nI (k + 1))), (6, .double a), (5, .int (nI i)), (0, .ref (A 0)), (1, .double x), (3, .ref aY), (4, .ref aZ)]) hx hb dX7_derive_77 hl (k := 0) rfl (nI_1 k) (by decide) rfl (fun ls hl => ?_)
        refine lv_goto (tgt := 18) hx hb dX7_derive_80 (by decide) ?_
        exact ih2 _ _ _ ⟨_, show a = fsum σ x y i (k + 1) by rw [ha]; exact (if_neg c_36).symm, hP, hS, lv_sub hl [0, 1, 2, 3, 4, 5, 6] rfl⟩
      ·
        refine lv_dload hx hb dX7_derive_39 (lv_at hl 1 rfl) ?_
        refine lv_aload_n hx hb dX7_derive_41 rfl (lv_at hl 3 rfl) ?_
        refine gX7 hx hb hg hown hI hP 0 rfl 6 rfl mF_X7_23 rfl dX7_derive_42 ?_
        refine lv_iload hx hb dX7_derive_45 (lv_at hl 0 rfl) ?_
        refine xdald hx hb hI hP 4 0 rfl rfl (Nat.lt_of_lt_of_le h_k hc) (by decide) dX7_derive_47 ?_
        refine lv_aload_n hx hb dX7_derive_48 rfl (lv_at hl 3 rfl) ?_
        refine gX7 hx hb hg hown hI hP 0 rfl 4 rfl mF_X7_17 rfl dX7_derive_49 ?_
        refine lv_iload hx hb dX7_derive_52 (lv_at hl 0 rfl) ?_
        refine xiald hx hb hI hP 2 1 rfl rfl (Nat.lt_of_lt_of_le h_k hc) (by decide) dX7_derive_54 ?_
        refine lv_dload_n hx hb dX7_derive_55 rfl (lv_at hl 4 rfl) ?_
        refine xpc (q := 56) rfl ?_
        refine lv_aload_n hx hb dX7_derive_56 rfl (lv_at hl 5 rfl) ?_
        refine xcd (xS (As := [.int ((sl σ) k), .double x, .ref aY]) (rest := [.double ((sk σ) k), .double a]) hx hb hml hown hg (r_named l D cD cI cM cL (sn σ) (sl σ k) x aY y hn hfl) mM_X7_94 ok_X7_named rfl rfl ⟨Nat.le_of_ble_eq_true rfl, Nat.le_of_ble_eq_true rfl⟩ hI hP hd rfl [5] rfl rfl rfl hl.1 rfl (Nat.le_of_ble_eq_true rfl) dX7_derive_57 ⟨Nat.zero_le _, Nat.zero_le _⟩) hP hd hS fa0 [] rfl rfl (fun _ => rfl) (fun _u H locs hu hP hS => ?_)
        have hP : va_P D vwCl [(A 0, mO A th (nI (sn σ)) (nI (sc σ)) t sh tl er fl kp ks tk tz sp wd lv dn rf ev), (A 1, iA cI 10 (so σ)), (A 2, iA cI 10 (sl σ)), (A 3, iA cI 10 (sr σ)), (A 4, dA cD 10 (sk σ)), (aY, dA cD 3 y), (aZ, dA cD 3 f')] H := hP
        refine lv_dmul hx hb dX7_derive_60 ((tv1_bd hσ h_k ht hy hK).nn) ?_
        refine lv_aload_n hx hb dX7_derive_61 rfl (lv_at hl 3 rfl) ?_
        refine gX7 hx hb hg hown hI hP 0 rfl 5 rfl mF_X7_20 rfl dX7_derive_62 ?_
        refine lv_iload hx hb dX7_derive_65 (lv_at hl 0 rfl) ?_
        refine xiald hx hb hI hP 3 1 rfl rfl (Nat.lt_of_lt_of_le h_k hc) (by decide) dX7_derive_67 ?_
        refine lv_dload_n hx hb dX7_derive_68 rfl (lv_at hl 4 rfl) ?_
        refine lv_aload_n hx hb dX7_derive_69 rfl (lv_at hl 5 rfl) ?_
        refine xcd (xS (As := [.int ((sr σ) k), .double x, .ref aY]) (rest := [.double (FP.dmul ((sk σ) k) (vv (sn σ) x y (sl σ k))), .double a]) hx hb hml hown hg (r_named l D cD cI cM cL (sn σ) (sr σ k) x aY y hn hfr) mM_X7_94 ok_X7_named rfl rfl ⟨Nat.le_of_ble_eq_true rfl, Nat.le_of_ble_eq_true rfl⟩ hI hP hd rfl [5] rfl rfl rfl hl.1 rfl (Nat.le_of_ble_eq_true rfl) dX7_derive_70 ⟨Nat.zero_le _, Nat.zero_le _⟩) hP hd hS fa0 [] rfl rfl (fun _ => rfl) (fun _u H locs hu hP hS => ?_)
        have hP : va_P D vwCl [(A 0, mO A th (nI (sn σ)) (nI (sc σ)) t sh tl er fl kp ks tk tz sp wd lv dn rf ev), (A 1, iA cI 10 (so σ)), (A 2, iA cI 10 (sl σ)), (A 3, iA cI 10 (sr σ)), (A 4, dA cD 10 (sk σ)), (aY, dA cD 3 y), (aZ, dA cD 3 f')] H := hP
        refine lv_dmul hx hb dX7_derive_73 ((tv_bd hσ h_k ht hy hK).nn) ?_
        have hs := fsum_bd (i := i) hσ ht hy hK (k + 1) h_k
        rw [show fsum σ x y i (k + 1) = FP.dadd (fsum σ x y i k) (tv σ x y k) from if_pos c_36, ← ha] at hs
        refine lv_dadd hx hb dX7_derive_74 hs.nn ?_
        refine lv_dstore (lv' := [(6, .double (FP.dadd a (FP.dmul (FP.dmul ((sk σ) k) (vv (sn σ) x y (sl σ k))) (vv (sn σ) x y (sr σ k))))), (8, .int (nI k)), (5, .int (nI i)), (0, .ref (A 0)), (1, .double x), (3, .ref aY), (4, .ref aZ)]) hx hb dX7_derive_75 hl (by decide) rfl (fun ls hl => ?_)
        refine lv_iinc (v := nI (k + 1)) (lv' := [(8, .int (nI (k + 1))), (6, .double (FP.dadd a (FP.dmul (FP.dmul ((sk σ) k) (vv (sn σ) x y (sl σ k))) (vv (sn σ) x y (sr σ k))))), (5, .int (nI i)), (0, .ref (A 0)), (1, .double x), (3, .ref aY), (4, .ref aZ)]) hx hb dX7_derive_77 hl (k := 1) rfl (nI_1 k) (by decide) rfl (fun ls hl => ?_)
        refine lv_goto (tgt := 18) hx hb dX7_derive_80 (by decide) ?_
        exact ih2 _ _ _ ⟨_, show FP.dadd a _ = fsum σ x y i (k + 1) by rw [ha]; exact (if_pos c_36).symm, hP, hS, lv_sub hl [0, 1, 2, 3, 4, 5, 6] rfl⟩
    ·
      intro H locs ls ⟨a, ha, hP, hS, hl⟩
      refine lv_iload hx hb dX7_derive_18 (lv_at hl 0 rfl) ?_
      refine lv_aload_n hx hb dX7_derive_20 rfl (lv_at hl 3 rfl) ?_
      refine gX7 hx hb hg hown hI hP 0 rfl 2 rfl mF_X7_91 rfl dX7_derive_21 ?_
      refine lv_icmp_ge (tgt := 83) hx hb dX7_derive_24 (by decide) (fun c_24 => ?_) (fun c_24 => absurd (Int32.le_refl _) c_24)
      subst ha
      refine lv_aload hx hb dX7_derive_83 (lv_at hl 6 rfl) ?_
      refine xpc (q := 85) rfl ?_
      refine lv_iload hx hb dX7_derive_85 (lv_at hl 2 rfl) ?_
      refine lv_dload hx hb dX7_derive_87 (lv_at hl 1 rfl) ?_
      refine xdast hx hb hI hP hd rfl hS 6 0 rfl rfl (Nat.lt_of_lt_of_le h_i hn) (by decide) pm0 dX7_derive_89 (fun H locs hP hS => ?_)
      have hP : va_P D vwCl [(A 0, mO A th (nI (sn σ)) (nI (sc σ)) t sh tl er fl kp ks tk tz sp wd lv dn rf ev), (A 1, iA cI 10 (so σ)), (A 2, iA cI 10 (sl σ)), (A 3, iA cI 10 (sr σ)), (A 4, dA cD 10 (sk σ)), (aY, dA cD 3 y), (aZ, dA cD 3 (vf_upd f' i (fsum σ x y i (sc σ))))] H := hP
      refine lv_iinc (v := nI (i + 1)) (lv' := [(5, .int (nI (i + 1))), (8, .int (nI (sc σ))), (6, .double (fsum σ x y i (sc σ))), (0, .ref (A 0)), (1, .double x), (3, .ref aY), (4, .ref aZ)]) hx hb dX7_derive_90 hl (k := 2) rfl (nI_1 i) (by decide) rfl (fun ls hl => ?_)
      refine lv_goto (tgt := 3) hx hb dX7_derive_93 (by decide) ?_
      exact ih _ _ _ ⟨_, mix_s hf rfl, hP, hS, lv_sub hl [0, 3, 4, 5, 6] rfl⟩
  ·
    intro H locs ls ⟨f', hf, hP, hS, hl⟩
    refine lv_iload hx hb dX7_derive_3 (lv_at hl 0 rfl) ?_
    refine lv_aload_n hx hb dX7_derive_5 rfl (lv_at hl 1 rfl) ?_
    refine gX7 hx hb hg hown hI hP 0 rfl 1 rfl mF_X7_7 rfl dX7_derive_6 ?_
    refine lv_icmp_ge (tgt := 96) hx hb dX7_derive_9 (by decide) (fun c_9 => ?_) (fun c_9 => absurd (Int32.le_refl _) c_9)
    subst hf
    exact W.vret hx hb hr (fun tS hTS hWS => ⟨(), rfl, trivial, by rw [hTS]; exact hP.sub [6] rfl, hS.F hTS⟩) hS.2.2 dX7_derive_96

set_option maxHeartbeats 4000000 in
set_option maxRecDepth 100000 in
theorem r_slope (l : Launch) (D : va_G) (cD cI cM cL : ClassId) (A : Nat → Nat) (σ : Sys) (th : Int32) (t sh tl er : UInt64) (fl kp : Int32) (ks : UInt64) (tk : Int32) (tz sp : UInt64) (wd : Int32) (lv : UInt64) (dn rf ev : Int32) (aY : Nat) (i j : Nat) (x : UInt64) (y : Nat → UInt64) (K : Nat) (hσ : oks σ) (ht : bd 1 K x) (hy : ∀ j, j < sn σ → bd 1 K (y j)) (hK : K + 11 ≤ 1000) : Met l yX7_slope (Cond.code yX7_slope cX7_slope 9 (some .double) :: lw_good) { frames := 1, cells := 0, slots := 0, locals := 23 } (xPc D (tyL cD cI cM cL) [.ref (A 0), .int (nI i), .int (nI j), .double x, .ref aY] [(A 0, mO A th (nI (sn σ)) (nI (sc σ)) t sh tl er fl kp ks tk tz sp wd lv dn rf ev), (A 1, iA cI 10 (so σ)), (A 2, iA cI 10 (sl σ)), (A 3, iA cI 10 (sr σ)), (A 4, dA cD 10 (sk σ)), (aY, dA cD 3 y)]) (xQ D [] (fun (_ : Unit) => some (.double (js σ x y i j))) (fun (_ : Unit) => True) (fun (_ : Unit) => [])) 0 0 (fun q => q ∈ ([] : List Nat)) := by
  refine xofW (adr := []) (by decide) (Nat.le_of_ble_eq_true rfl) ?_
  intro p e s m below meth c ls hx hb hr hml hg hown hlk hI hP hd hS hl
  have hown : s.vm.findClass RX7 = some m.cls := hown
  have hd : dj [A 0, A 1, A 2, A 3, A 4, aY] := hd
  have hl : lv_has ls 9 [(0, .ref (A 0)), (1, .int (nI i)), (2, .int (nI j)), (3, .double x), (5, .ref aY)] := hl
  have hn : sn σ ≤ 3 := hσ.2.1
  have hc : sc σ ≤ 10 := hσ.2.2.1
  refine lv_dconst0 hx hb dX7_slope_0 ?_
  refine lv_dstore (lv' := [(6, .double FP.dconst0), (0, .ref (A 0)), (1, .int (nI i)), (2, .int (nI j)), (3, .double x), (5, .ref aY)]) hx hb dX7_slope_1 hl (by decide) rfl (fun ls hl => ?_)
  refine lv_iconst (v := nI 0) hx hb dX7_slope_3 (by decide) ?_
  refine lv_istore (lv' := [(8, .int (nI 0)), (6, .double FP.dconst0), (0, .ref (A 0)), (1, .int (nI i)), (2, .int (nI j)), (3, .double x), (5, .ref aY)]) hx hb dX7_slope_4 hl (by decide) rfl (fun ls hl => ?_)
  refine xfor (I := fun k H locs ls => ∃ (a : UInt64), (a = jsum σ x y i j k) ∧ va_P D vwCl [(A 0, mO A th (nI (sn σ)) (nI (sc σ)) t sh tl er fl kp ks tk tz sp wd lv dn rf ev), (A 1, iA cI 10 (so σ)), (A 2, iA cI 10 (sl σ)), (A 3, iA cI 10 (sr σ)), (A 4, dA cD 10 (sk σ)), (aY, dA cD 3 y)] H ∧ va_S (fun q => q ∈ ([] : List Nat)) s.heap H locs ∧ lv_has ls 9 [(8, .int (nI k)), (6, .double a), (0, .ref (A 0)), (1, .int (nI i)), (2, .int (nI j)), (3, .double x), (5, .ref aY)]) (sc σ) 0 ⟨_, rfl, hP, hS, lv_sub hl [0, 1, 2, 3, 4, 5, 6] rfl⟩ (Nat.zero_le _) ?_ ?_
  ·
    intro k h_k ih H locs ls ⟨a, ha, hP, hS, hl⟩
    have hba := jsum_bd (i := i) (j := j) hσ ht hy hK k (by omega)
    rw [← ha] at hba
    obtain ⟨-, hfl, hfr, -⟩ := hσ.2.2.2 k h_k
    refine lv_iload hx hb dX7_slope_6 (lv_at hl 0 rfl) ?_
    refine lv_aload_n hx hb dX7_slope_8 rfl (lv_at hl 2 rfl) ?_
    refine gX7 hx hb hg hown hI hP 0 rfl 2 rfl mF_X7_91 rfl dX7_slope_9 ?_
    refine lv_icmp_ge (tgt := 117) hx hb dX7_slope_12 (by decide) (fun c_12 => absurd c_12 (nI_ge h_k (by omega))) (fun c_12 => ?_)
    refine xcut (I := fun H locs ls => ∃ (a2 : UInt64), (a2 = jmid σ x y i j k a) ∧ va_P D vwCl [(A 0, mO A th (nI (sn σ)) (nI (sc σ)) t sh tl er fl kp ks tk tz sp wd lv dn rf ev), (A 1, iA cI 10 (so σ)), (A 2, iA cI 10 (sl σ)), (A 3, iA cI 10 (sr σ)), (A 4, dA cD 10 (sk σ)), (aY, dA cD 3 y)] H ∧ va_S (fun q => q ∈ ([] : List Nat)) s.heap H locs ∧ lv_has ls 9 [(6, .double a2), (8, .int (nI k)), (0, .ref (A 0)), (1, .int (nI i)), (2, .int (nI j)), (3, .double x), (5, .ref aY)]) (pc2 := 63) (rest2 := []) (fun H locs ls hh => ?_) (fun K1 => ?_)
    ·
      obtain ⟨a2, ha2, hP, hS, hl⟩ := hh
      have hba2 := jmid_bd (i := i) (j := j) hσ h_k ht hy hK hba (by omega)
      rw [← ha2] at hba2
      refine lv_aload_n hx hb dX7_slope_63 rfl (lv_at hl 2 rfl) ?_
      refine gX7 hx hb hg hown hI hP 0 rfl 3 rfl mF_X7_13 rfl dX7_slope_64 ?_
      refine lv_iload hx hb dX7_slope_67 (lv_at hl 1 rfl) ?_
      refine xiald hx hb hI hP 1 1 rfl rfl (Nat.lt_of_lt_of_le h_k hc) (by decide) dX7_slope_69 ?_
      refine lv_iload_n hx hb dX7_slope_70 rfl (lv_at hl 3 rfl) ?_
      refine lv_icmp_ne (tgt := 111) hx hb dX7_slope_71 (by decide) (fun c_71 => ?_) (fun c_71 => ?_)
      ·
        refine lv_iinc (v := nI (k + 1)) (lv' := [(8, .int (nI (k + 1))), (6, .double a2), (0, .ref (A 0)), (1, .int (nI i)), (2, .int (nI j)), (3, .double x), (5, .ref aY)]) hx hb dX7_slope_111 hl (k := 1) rfl (nI_1 k) (by decide) rfl (fun ls hl => ?_)
        refine lv_goto (tgt := 6) hx hb dX7_slope_114 (by decide) ?_
        exact ih _ _ _ ⟨_, show a2 = jend σ x y i j k (jmid σ x y i j k (jsum σ x y i j k)) by rw [← ha, ← ha2]; unfold jend; rw [if_neg (fun h => c_71 h.1)], hP, hS, lv_sub hl [0, 1, 2, 3, 4, 5, 6] rfl⟩
      ·
        refine lv_aload_n hx hb dX7_slope_74 rfl (lv_at hl 2 rfl) ?_
        refine xpc (q := 75) rfl ?_
        refine gX7 hx hb hg hown hI hP 0 rfl 5 rfl mF_X7_20 rfl dX7_slope_75 ?_
        refine lv_iload hx hb dX7_slope_78 (lv_at hl 1 rfl) ?_
        refine xiald hx hb hI hP 3 1 rfl rfl (Nat.lt_of_lt_of_le h_k hc) (by decide) dX7_slope_80 ?_
        refine lv_iload_n hx hb dX7_slope_81 rfl (lv_at hl 4 rfl) ?_
        refine lv_icmp_ne (tgt := 111) hx hb dX7_slope_82 (by decide) (fun c_82 => ?_) (fun c_82 => ?_)
        ·
          refine lv_iinc (v := nI (k + 1)) (lv' := [(8, .int (nI (k + 1))), (6, .double a2), (0, .ref (A 0)), (1, .int (nI i)), (2, .int (nI j)), (3, .double x), (5, .ref aY)]) hx hb dX7_slope_111 hl (k := 1) rfl (nI_1 k) (by decide) rfl (fun ls hl => ?_)
          refine lv_goto (tgt := 6) hx hb dX7_slope_114 (by decide) ?_
          exact ih _ _ _ ⟨_, show a2 = jend σ x y i j k (jmid σ x y i j k (jsum σ x y i j k)) by rw [← ha, ← ha2]; unfold jend; rw [if_neg (fun h => c_82 h.2)], hP, hS, lv_sub hl [0, 1, 2, 3, 4, 5, 6] rfl⟩
        ·
          refine lv_dload hx hb dX7_slope_85 (lv_at hl 0 rfl) ?_
          refine lv_aload_n hx hb dX7_slope_87 rfl (lv_at hl 2 rfl) ?_
          refine gX7 hx hb hg hown hI hP 0 rfl 6 rfl mF_X7_23 rfl dX7_slope_88 ?_
          refine lv_iload hx hb dX7_slope_91 (lv_at hl 1 rfl) ?_
          refine xdald hx hb hI hP 4 0 rfl rfl (Nat.lt_of_lt_of_le h_k hc) (by decide) dX7_slope_93 ?_
          refine lv_aload_n hx hb dX7_slope_94 rfl (lv_at hl 2 rfl) ?_
          refine gX7 hx hb hg hown hI hP 0 rfl 4 rfl mF_X7_17 rfl dX7_slope_95 ?_
          refine lv_iload hx hb dX7_slope_98 (lv_at hl 1 rfl) ?_
          refine xiald hx hb hI hP 2 1 rfl rfl (Nat.lt_of_lt_of_le h_k hc) (by decide) dX7_slope_100 ?_
          refine lv_dload_n hx hb dX7_slope_101 rfl (lv_at hl 5 rfl) ?_
          refine xpc (q := 102) rfl ?_
          refine lv_aload hx hb dX7_slope_102 (lv_at hl 6 rfl) ?_
          refine xcd (xS (As := [.int ((sl σ) k), .double x, .ref aY]) (rest := [.double ((sk σ) k), .double a2]) hx hb hml hown hg (r_named l D cD cI cM cL (sn σ) (sl σ k) x aY y hn hfl) mM_X7_94 ok_X7_named rfl rfl ⟨Nat.le_of_ble_eq_true rfl, Nat.le_of_ble_eq_true rfl⟩ hI hP hd rfl [5] rfl rfl rfl hl.1 rfl (Nat.le_of_ble_eq_true rfl) dX7_slope_104 ⟨Nat.zero_le _, Nat.zero_le _⟩) hP hd hS fa0 [] rfl rfl (fun _ => rfl) (fun _u H locs hu hP hS => ?_)
          have hP : va_P D vwCl [(A 0, mO A th (nI (sn σ)) (nI (sc σ)) t sh tl er fl kp ks tk tz sp wd lv dn rf ev), (A 1, iA cI 10 (so σ)), (A 2, iA cI 10 (sl σ)), (A 3, iA cI 10 (sr σ)), (A 4, dA cD 10 (sk σ)), (aY, dA cD 3 y)] H := hP
          refine lv_dmul hx hb dX7_slope_107 ((js1_bd hσ h_k ht hy hK).2.nn) ?_
          refine lv_dadd hx hb dX7_slope_108 ((jadd_bd hba2 (js1_bd hσ h_k ht hy hK).2 (by omega) hK).nn) ?_
          refine lv_dstore (lv' := [(6, .double (FP.dadd a2 (FP.dmul ((sk σ) k) (vv (sn σ) x y (sl σ k))))), (8, .int (nI k)), (0, .ref (A 0)), (1, .int (nI i)), (2, .int (nI j)), (3, .double x), (5, .ref aY)]) hx hb dX7_slope_109 hl (by decide) rfl (fun ls hl => ?_)
          refine lv_iinc (v := nI (k + 1)) (lv' := [(8, .int (nI (k + 1))), (6, .double (FP.dadd a2 (FP.dmul ((sk σ) k) (vv (sn σ) x y (sl σ k))))), (0, .ref (A 0)), (1, .int (nI i)), (2, .int (nI j)), (3, .double x), (5, .ref aY)]) hx hb dX7_slope_111 hl (k := 1) rfl (nI_1 k) (by decide) rfl (fun ls hl => ?_)
          refine lv_goto (tgt := 6) hx hb dX7_slope_114 (by decide) ?_
          exact ih _ _ _ ⟨_, show FP.dadd a2 _ = jend σ x y i j k (jmid σ x y i j k (jsum σ x y i j k)) by rw [← ha, ← ha2]; unfold jend; rw [if_pos ⟨c_71, c_82⟩], hP, hS, lv_sub hl [0, 1, 2, 3, 4, 5, 6] rfl⟩
    ·
      refine lv_aload_n hx hb dX7_slope_15 rfl (lv_at hl 2 rfl) ?_
      refine gX7 hx hb hg hown hI hP 0 rfl 3 rfl mF_X7_13 rfl dX7_slope_16 ?_
      refine lv_iload hx hb dX7_slope_19 (lv_at hl 0 rfl) ?_
      refine xiald hx hb hI hP 1 1 rfl rfl (Nat.lt_of_lt_of_le h_k hc) (by decide) dX7_slope_21 ?_
      refine lv_iload_n hx hb dX7_slope_22 rfl (lv_at hl 3 rfl) ?_
      refine lv_icmp_ne (tgt := 63) hx hb dX7_slope_23 (by decide) (fun c_23 => ?_) (fun c_23 => ?_)
      ·
        exact K1 _ _ _ ⟨_, show a = jmid σ x y i j k a by unfold jmid; rw [if_neg (fun h => c_23 h.1)], hP, hS, lv_sub hl [1, 0, 2, 3, 4, 5, 6] rfl⟩
      ·
        refine lv_aload_n hx hb dX7_slope_26 rfl (lv_at hl 2 rfl) ?_
        refine xpc (q := 27) rfl ?_
        refine gX7 hx hb hg hown hI hP 0 rfl 4 rfl mF_X7_17 rfl dX7_slope_27 ?_
        refine lv_iload hx hb dX7_slope_30 (lv_at hl 0 rfl) ?_
        refine xiald hx hb hI hP 2 1 rfl rfl (Nat.lt_of_lt_of_le h_k hc) (by decide) dX7_slope_32 ?_
        refine lv_iload_n hx hb dX7_slope_33 rfl (lv_at hl 4 rfl) ?_
        refine lv_icmp_ne (tgt := 63) hx hb dX7_slope_34 (by decide) (fun c_34 => ?_) (fun c_34 => ?_)
        ·
          exact K1 _ _ _ ⟨_, show a = jmid σ x y i j k a by unfold jmid; rw [if_neg (fun h => c_34 h.2)], hP, hS, lv_sub hl [1, 0, 2, 3, 4, 5, 6] rfl⟩
        ·
          refine lv_dload hx hb dX7_slope_37 (lv_at hl 1 rfl) ?_
          refine lv_aload_n hx hb dX7_slope_39 rfl (lv_at hl 2 rfl) ?_
          refine gX7 hx hb hg hown hI hP 0 rfl 6 rfl mF_X7_23 rfl dX7_slope_40 ?_
          refine lv_iload hx hb dX7_slope_43 (lv_at hl 0 rfl) ?_
          refine xdald hx hb hI hP 4 0 rfl rfl (Nat.lt_of_lt_of_le h_k hc) (by decide) dX7_slope_45 ?_
          refine lv_aload_n hx hb dX7_slope_46 rfl (lv_at hl 2 rfl) ?_
          refine gX7 hx hb hg hown hI hP 0 rfl 5 rfl mF_X7_20 rfl dX7_slope_47 ?_
          refine lv_iload hx hb dX7_slope_50 (lv_at hl 0 rfl) ?_
          refine xiald hx hb hI hP 3 1 rfl rfl (Nat.lt_of_lt_of_le h_k hc) (by decide) dX7_slope_52 ?_
          refine lv_dload_n hx hb dX7_slope_53 rfl (lv_at hl 5 rfl) ?_
          refine xpc (q := 54) rfl ?_
          refine lv_aload hx hb dX7_slope_54 (lv_at hl 6 rfl) ?_
          refine xcd (xS (As := [.int ((sr σ) k), .double x, .ref aY]) (rest := [.double ((sk σ) k), .double a]) hx hb hml hown hg (r_named l D cD cI cM cL (sn σ) (sr σ k) x aY y hn hfr) mM_X7_94 ok_X7_named rfl rfl ⟨Nat.le_of_ble_eq_true rfl, Nat.le_of_ble_eq_true rfl⟩ hI hP hd rfl [5] rfl rfl rfl hl.1 rfl (Nat.le_of_ble_eq_true rfl) dX7_slope_56 ⟨Nat.zero_le _, Nat.zero_le _⟩) hP hd hS fa0 [] rfl rfl (fun _ => rfl) (fun _u H locs hu hP hS => ?_)
          have hP : va_P D vwCl [(A 0, mO A th (nI (sn σ)) (nI (sc σ)) t sh tl er fl kp ks tk tz sp wd lv dn rf ev), (A 1, iA cI 10 (so σ)), (A 2, iA cI 10 (sl σ)), (A 3, iA cI 10 (sr σ)), (A 4, dA cD 10 (sk σ)), (aY, dA cD 3 y)] H := hP
          refine lv_dmul hx hb dX7_slope_59 ((js1_bd hσ h_k ht hy hK).1.nn) ?_
          refine lv_dadd hx hb dX7_slope_60 ((jadd_bd hba (js1_bd hσ h_k ht hy hK).1 (by omega) hK).nn) ?_
          refine lv_dstore (lv' := [(6, .double (FP.dadd a (FP.dmul ((sk σ) k) (vv (sn σ) x y (sr σ k))))), (8, .int (nI k)), (0, .ref (A 0)), (1, .int (nI i)), (2, .int (nI j)), (3, .double x), (5, .ref aY)]) hx hb dX7_slope_61 hl (by decide) rfl (fun ls hl => ?_)
          exact K1 _ _ _ ⟨_, show FP.dadd a _ = jmid σ x y i j k a by unfold jmid; rw [if_pos ⟨c_23, c_34⟩], hP, hS, lv_sub hl [0, 1, 2, 3, 4, 5, 6] rfl⟩
  ·
    intro H locs ls ⟨a, ha, hP, hS, hl⟩
    refine lv_iload hx hb dX7_slope_6 (lv_at hl 0 rfl) ?_
    refine lv_aload_n hx hb dX7_slope_8 rfl (lv_at hl 2 rfl) ?_
    refine gX7 hx hb hg hown hI hP 0 rfl 2 rfl mF_X7_91 rfl dX7_slope_9 ?_
    refine lv_icmp_ge (tgt := 117) hx hb dX7_slope_12 (by decide) (fun c_12 => ?_) (fun c_12 => absurd (Int32.le_refl _) c_12)
    refine lv_dload hx hb dX7_slope_117 (lv_at hl 1 rfl) ?_
    refine xeqd (y := js σ x y i j) ha ?_
    exact W.dret hx hb hr (fun tS hTS hWS => ⟨(), rfl, trivial, by rw [hTS]; exact hP.sub [] rfl, hS.F hTS⟩) hS.2.2 dX7_slope_119

set_option maxHeartbeats 4000000 in
set_option maxRecDepth 100000 in
theorem r_lead (l : Launch) (D : va_G) (cD cI cM cL : ClassId) (A : Nat → Nat) (σ : Sys) (th : Int32) (t sh tl er : UInt64) (fl kp : Int32) (ks : UInt64) (tk : Int32) (tz sp : UInt64) (wd : Int32) (lv : UInt64) (dn rf ev : Int32) (aA aB aC : Nat) (y k z : Nat → UInt64) (b : UInt64) (hn : sn σ ≤ 3) (h1 : ∀ i, i < sn σ → fin (FP.dmul b (k i))) (h2 : ∀ i, i < sn σ → fin (mv y b k i)) : Met l yX7_lead (Cond.code yX7_lead cX7_lead 7 none :: lw_good) { frames := 0, cells := 0, slots := 0, locals := 0 } (xPc D (tyL cD cI cM cL) [.ref (A 0), .ref aA, .double b, .ref aB, .ref aC] [(A 0, mO A th (nI (sn σ)) (nI (sc σ)) t sh tl er fl kp ks tk tz sp wd lv dn rf ev), (aA, dA cD 3 y), (aB, dA cD 3 k), (aC, dA cD 3 z)]) (xQ D [aC] (fun (_ : Unit) => none) (fun (_ : Unit) => True) (fun (_ : Unit) => [(aC, dA cD 3 (mix (sn σ) (mv y b k) z))])) 0 0 (fun q => q ∈ ([aC] : List Nat)) := by
  refine xofW (adr := [aC]) (by decide) (Nat.le_of_ble_eq_true rfl) ?_
  intro p e s m below meth c ls hx hb hr hml hg hown hlk hI hP hd hS hl
  have hown : s.vm.findClass RX7 = some m.cls := hown
  have hd : dj [A 0, aA, aB, aC] := hd
  have hl : lv_has ls 7 [(0, .ref (A 0)), (1, .ref aA), (2, .double b), (4, .ref aB), (5, .ref aC)] := hl
  refine lv_iconst (v := nI 0) hx hb dX7_lead_0 (by decide) ?_
  refine lv_istore (lv' := [(6, .int (nI 0)), (0, .ref (A 0)), (1, .ref aA), (2, .double b), (4, .ref aB), (5, .ref aC)]) hx hb dX7_lead_1 hl (by decide) rfl (fun ls hl => ?_)
  refine xfor (I := fun i H locs ls => ∃ (f' : Nat → UInt64), (f' = mix i (mv y b k) z) ∧ va_P D vwCl [(A 0, mO A th (nI (sn σ)) (nI (sc σ)) t sh tl er fl kp ks tk tz sp wd lv dn rf ev), (aA, dA cD 3 y), (aB, dA cD 3 k), (aC, dA cD 3 f')] H ∧ va_S (fun q => q ∈ ([aC] : List Nat)) s.heap H locs ∧ lv_has ls 7 [(6, .int (nI i)), (0, .ref (A 0)), (1, .ref aA), (2, .double b), (4, .ref aB), (5, .ref aC)]) (sn σ) 0 ⟨_, (mix_0 _ _).symm, hP, hS, lv_sub hl [0, 1, 2, 3, 4, 5] rfl⟩ (Nat.zero_le _) ?_ ?_
  ·
    intro i h_i ih H locs ls ⟨f', hf, hP, hS, hl⟩
    refine lv_iload hx hb dX7_lead_3 (lv_at hl 0 rfl) ?_
    refine lv_aload_n hx hb dX7_lead_5 rfl (lv_at hl 1 rfl) ?_
    refine gX7 hx hb hg hown hI hP 0 rfl 1 rfl mF_X7_7 rfl dX7_lead_6 ?_
    refine lv_icmp_ge (tgt := 35) hx hb dX7_lead_9 (by decide) (fun c_9 => absurd c_9 (nI_ge h_i (by omega))) (fun c_9 => ?_)
    refine lv_aload hx hb dX7_lead_12 (lv_at hl 5 rfl) ?_
    refine lv_iload hx hb dX7_lead_14 (lv_at hl 0 rfl) ?_
    refine lv_aload_n hx hb dX7_lead_16 rfl (lv_at hl 2 rfl) ?_
    refine lv_iload hx hb dX7_lead_17 (lv_at hl 0 rfl) ?_
    refine xdald hx hb hI hP 1 0 rfl rfl (Nat.lt_of_lt_of_le h_i hn) (by decide) dX7_lead_19 ?_
    refine lv_dload_n hx hb dX7_lead_20 rfl (lv_at hl 3 rfl) ?_
    refine lv_aload hx hb dX7_lead_21 (lv_at hl 4 rfl) ?_
    refine lv_iload hx hb dX7_lead_23 (lv_at hl 0 rfl) ?_
    refine xpc (q := 25) rfl ?_
    refine xdald hx hb hI hP 2 0 rfl rfl (Nat.lt_of_lt_of_le h_i hn) (by decide) dX7_lead_25 ?_
    refine lv_dmul hx hb dX7_lead_26 (fin.nn (h1 i h_i)) ?_
    refine lv_dadd hx hb dX7_lead_27 (fin.nn (h2 i h_i)) ?_
    refine xdast hx hb hI hP hd rfl hS 3 0 rfl rfl (Nat.lt_of_lt_of_le h_i hn) (by decide) pm0 dX7_lead_28 (fun H locs hP hS => ?_)
    have hP : va_P D vwCl [(A 0, mO A th (nI (sn σ)) (nI (sc σ)) t sh tl er fl kp ks tk tz sp wd lv dn rf ev), (aA, dA cD 3 y), (aB, dA cD 3 k), (aC, dA cD 3 (vf_upd f' i (FP.dadd (y i) (FP.dmul b (k i)))))] H := hP
    refine lv_iinc (v := nI (i + 1)) (lv' := [(6, .int (nI (i + 1))), (0, .ref (A 0)), (1, .ref aA), (2, .double b), (4, .ref aB), (5, .ref aC)]) hx hb dX7_lead_29 hl (k := 0) rfl (nI_1 i) (by decide) rfl (fun ls hl => ?_)
    refine lv_goto (tgt := 3) hx hb dX7_lead_32 (by decide) ?_
    exact ih _ _ _ ⟨_, mix_s hf rfl, hP, hS, lv_sub hl [0, 1, 2, 3, 4, 5] rfl⟩
  ·
    intro H locs ls ⟨f', hf, hP, hS, hl⟩
    refine lv_iload hx hb dX7_lead_3 (lv_at hl 0 rfl) ?_
    refine lv_aload_n hx hb dX7_lead_5 rfl (lv_at hl 1 rfl) ?_
    refine gX7 hx hb hg hown hI hP 0 rfl 1 rfl mF_X7_7 rfl dX7_lead_6 ?_
    refine lv_icmp_ge (tgt := 35) hx hb dX7_lead_9 (by decide) (fun c_9 => ?_) (fun c_9 => absurd (Int32.le_refl _) c_9)
    subst hf
    exact W.vret hx hb hr (fun tS hTS hWS => ⟨(), rfl, trivial, by rw [hTS]; exact hP.sub [3] rfl, hS.F hTS⟩) hS.2.2 dX7_lead_35
