set_option maxRecDepth 100000 in
theorem look_eqN {n wh ev : Nat} {on : Bool} {lv : UInt64} {y y0 z en : Nat → UInt64} (h : on = true → wh < n) : lookN on lv (mix n y y0 wh) (mix n z en wh) ev = lookN on lv (y wh) (z wh) ev := by
  cases on with
  | false => rfl
  | true => rw [mix_lt (h rfl), mix_lt (h rfl)]
set_option maxRecDepth 100000 in
theorem look_eqT {n wh ev : Nat} {on : Bool} {lv sp t0 : UInt64} {y y0 z en g g0 q q0 tm : Nat → UInt64} (h : on = true → wh < n) : lookT on lv (mix n y y0 wh) (mix n g g0 wh) (mix n z en wh) (mix n q q0 wh) sp t0 ev tm = lookT on lv (y wh) (g wh) (z wh) (q wh) sp t0 ev tm := by
  cases on with
  | false => rfl
  | true => rw [mix_lt (h rfl), mix_lt (h rfl), mix_lt (h rfl), mix_lt (h rfl)]
theorem ok_X6_startAfresh : okV yX6_startAfresh RX6 cX6_startAfresh 3 none 1 := ⟨mI_X6_startAfresh, mS_X6_startAfresh, mN_X6, mC_X6_startAfresh, by decide +kernel⟩
theorem ok_X6_breakOff : okV yX6_breakOff RX6 cX6_breakOff 1 none 0 := ⟨mI_X6_breakOff, mS_X6_breakOff, mN_X6, mC_X6_breakOff, by decide +kernel⟩
theorem ok_X6_tryStep : okV yX6_tryStep RX6 cX6_tryStep 5 (some .boolean) 2 := ⟨mI_X6_tryStep, mS_X6_tryStep, mN_X6, mC_X6_tryStep, by decide +kernel⟩
theorem ok_X6_stepTowards : okV yX6_stepTowards RX6 cX6_stepTowards 7 (some .boolean) 2 := ⟨mI_X6_stepTowards, mS_X6_stepTowards, mN_X6, mC_X6_stepTowards, by decide +kernel⟩
theorem ok_X6_refuse : okV yX6_refuse RX6 cX6_refuse 1 none 0 := ⟨mI_X6_refuse, mS_X6_refuse, mN_X6, mC_X6_refuse, by decide +kernel⟩
theorem ok_X6_take : okV yX6_take RX6 cX6_take 5 none 2 := ⟨mI_X6_take, mS_X6_take, mN_X6, mC_X6_take, by decide +kernel⟩
theorem ok_X6_events : okV yX6_events RX6 cX6_events 1 (some .int) 0 := ⟨mI_X6_events, mS_X6_events, mN_X6, mC_X6_events, by decide +kernel⟩
theorem ok_X6_time : okV yX6_time RX6 cX6_time 1 (some .double) 0 := ⟨mI_X6_time, mS_X6_time, mN_X6, mC_X6_time, by decide +kernel⟩
theorem ok_X6_nextSize : okV yX6_nextSize RX6 cX6_nextSize 1 (some .double) 0 := ⟨mI_X6_nextSize, mS_X6_nextSize, mN_X6, mC_X6_nextSize, by decide +kernel⟩
theorem ok_X6_steps : okV yX6_steps RX6 cX6_steps 2 (some .int) 1 := ⟨mI_X6_steps, mS_X6_steps, mN_X6, mC_X6_steps, by decide +kernel⟩
set_option maxHeartbeats 4000000 in
set_option maxRecDepth 100000 in
theorem c_refuse (l : Launch) (D : va_G) (cD cI cM cL : ClassId) (A : Nat → Nat) (rw : Nat → Option Nat) (S : St) (en : Nat → UInt64) (tf tr te : UInt64) (v : Nat → Nat → UInt64)  : Met l yX6_refuse (Cond.code yX6_refuse cX6_refuse 1 none :: lw_good) { frames := 0, cells := 0, slots := 0, locals := 0 } (xPc D (tyL cD cI cM cL) [.ref (A 0)] [(A 0, .inr (6, [.ref (A 1), .ref (A 2), .ref (A 3), .ref (A 8), .ref (A 28), .ref (A 33), .double (gt S), .double (gh S), .double (gtol S), .int (gtk S), .int (grf S), .int (bI (ggo S))]))]) (xQ D [A 0] (fun (_ : Unit) => none) (fun (_ : Unit) => True) (fun (_ : Unit) => [(A 0, .inr (6, [.ref (A 1), .ref (A 2), .ref (A 3), .ref (A 8), .ref (A 28), .ref (A 33), .double (gt S), .double (gh S), .double (gtol S), .int (gtk S), .int (grf S + nI 1), .int (nI 0)]))])) 0 0 (fun q => q ∈ ([A 0] : List Nat)) := by
  refine xofW (adr := [A 0]) (by decide) (Nat.le_of_ble_eq_true rfl) ?_
  intro p e s m below meth c ls hx hb hr hml hg hown hlk hI hP hd hS hl
  have hown : s.vm.findClass RX6 = some m.cls := hown
  have hd : dj [A 0] := hd
  have hl : lv_has ls 1 [(0, .ref (A 0))] := hl
  refine lv_aload_n hx hb dX6_refuse_0 rfl (lv_at hl 0 rfl) ?_
  refine lv_dup hx hb dX6_refuse_1 rfl ?_
  refine gX6 hx hb hg hown hI hP 0 rfl 10 rfl mF_X6_187 rfl dX6_refuse_2 ?_
  refine lv_iconst (v := nI 1) hx hb dX6_refuse_5 (by decide) ?_
  refine lv_iadd hx hb dX6_refuse_6 ?_
  refine pX6 hx hb hg hown hI hP hd rfl hS 0 rfl 10 rfl mF_X6_187 rfl rfl rfl (Nat.le_of_ble_eq_true rfl) pm0 dX6_refuse_7 (fun H locs hP hS => ?_)
  have hP : va_P D vwCl [(A 0, .inr (6, [.ref (A 1), .ref (A 2), .ref (A 3), .ref (A 8), .ref (A 28), .ref (A 33), .double (gt S), .double (gh S), .double (gtol S), .int (gtk S), .int ((grf S) + (nI 1)), .int (bI (ggo S))]))] H := hP
  refine lv_aload_n hx hb dX6_refuse_10 rfl (lv_at hl 0 rfl) ?_
  refine lv_iconst (v := nI 0) hx hb dX6_refuse_11 (by decide) ?_
  refine pX6 hx hb hg hown hI hP hd rfl hS 0 rfl 11 rfl mF_X6_197 rfl (by decide) (by decide) (Nat.le_of_ble_eq_true rfl) pm0 dX6_refuse_12 (fun H locs hP hS => ?_)
  have hP : va_P D vwCl [(A 0, .inr (6, [.ref (A 1), .ref (A 2), .ref (A 3), .ref (A 8), .ref (A 28), .ref (A 33), .double (gt S), .double (gh S), .double (gtol S), .int (gtk S), .int ((grf S) + (nI 1)), .int (nI 0)]))] H := hP
  exact W.vret hx hb hr (fun tS hTS hWS => ⟨(), rfl, trivial, by rw [hTS]; exact hP.sub [0] rfl, hS.F hTS⟩) hS.2.2 dX6_refuse_15

set_option maxHeartbeats 4000000 in
set_option maxRecDepth 100000 in
theorem c_breakOff (l : Launch) (D : va_G) (cD cI cM cL : ClassId) (A : Nat → Nat) (rw : Nat → Option Nat) (S : St) (en : Nat → UInt64) (tf tr te : UInt64) (v : Nat → Nat → UInt64)  : Met l yX6_breakOff (Cond.code yX6_breakOff cX6_breakOff 1 none :: lw_good) { frames := 0, cells := 0, slots := 0, locals := 0 } (xPc D (tyL cD cI cM cL) [.ref (A 0)] [(A 0, .inr (6, [.ref (A 1), .ref (A 2), .ref (A 3), .ref (A 8), .ref (A 28), .ref (A 33), .double (gt S), .double (gh S), .double (gtol S), .int (gtk S), .int (grf S), .int (bI (ggo S))])), (A 28, .inr (2, [.ref (A 3), .ref (A 29), .ref (A 30), .ref (A 31), .ref (A 32), .int (bI (gkn S)), .double (gt0 S), .double (gsp S)]))]) (xQ D [A 0, A 28] (fun (_ : Unit) => none) (fun (_ : Unit) => True) (fun (_ : Unit) => [(A 0, .inr (6, [.ref (A 1), .ref (A 2), .ref (A 3), .ref (A 8), .ref (A 28), .ref (A 33), .double (gt S), .double (gh S), .double (gtol S), .int (gtk S), .int (grf S), .int (nI 0)])), (A 28, .inr (2, [.ref (A 3), .ref (A 29), .ref (A 30), .ref (A 31), .ref (A 32), .int (nI 0), .double (gt0 S), .double (gsp S)]))])) 0 0 (fun q => q ∈ ([A 0, A 28] : List Nat)) := by
  refine xofW (adr := [A 0, A 28]) (by decide) (Nat.le_of_ble_eq_true rfl) ?_
  intro p e s m below meth c ls hx hb hr hml hg hown hlk hI hP hd hS hl
  have hown : s.vm.findClass RX6 = some m.cls := hown
  have hd : dj [A 0, A 28] := hd
  have hl : lv_has ls 1 [(0, .ref (A 0))] := hl
  refine lv_aload_n hx hb dX6_breakOff_0 rfl (lv_at hl 0 rfl) ?_
  refine gX6 hx hb hg hown hI hP 0 rfl 4 rfl mF_X6_37 rfl dX6_breakOff_1 ?_
  refine lv_iconst (v := nI 0) hx hb dX6_breakOff_4 (by decide) ?_
  refine pX2 hx hb hg hown hI hP hd rfl hS 1 rfl 5 rfl mF_X6_177 rfl (by decide) (by decide) (Nat.le_of_ble_eq_true rfl) (pmS pm0) dX6_breakOff_5 (fun H locs hP hS => ?_)
  have hP : va_P D vwCl [(A 0, .inr (6, [.ref (A 1), .ref (A 2), .ref (A 3), .ref (A 8), .ref (A 28), .ref (A 33), .double (gt S), .double (gh S), .double (gtol S), .int (gtk S), .int (grf S), .int (bI (ggo S))])), (A 28, .inr (2, [.ref (A 3), .ref (A 29), .ref (A 30), .ref (A 31), .ref (A 32), .int (nI 0), .double (gt0 S), .double (gsp S)]))] H := hP
  refine lv_aload_n hx hb dX6_breakOff_8 rfl (lv_at hl 0 rfl) ?_
  refine lv_iconst (v := nI 0) hx hb dX6_breakOff_9 (by decide) ?_
  refine pX6 hx hb hg hown hI hP hd rfl hS 0 rfl 11 rfl mF_X6_197 rfl (by decide) (by decide) (Nat.le_of_ble_eq_true rfl) pm0 dX6_breakOff_10 (fun H locs hP hS => ?_)
  have hP : va_P D vwCl [(A 0, .inr (6, [.ref (A 1), .ref (A 2), .ref (A 3), .ref (A 8), .ref (A 28), .ref (A 33), .double (gt S), .double (gh S), .double (gtol S), .int (gtk S), .int (grf S), .int (nI 0)])), (A 28, .inr (2, [.ref (A 3), .ref (A 29), .ref (A 30), .ref (A 31), .ref (A 32), .int (nI 0), .double (gt0 S), .double (gsp S)]))] H := hP
  exact W.vret hx hb hr (fun tS hTS hWS => ⟨(), rfl, trivial, by rw [hTS]; exact hP.sub [0, 1] rfl, hS.F hTS⟩) hS.2.2 dX6_breakOff_13

set_option maxHeartbeats 4000000 in
set_option maxRecDepth 100000 in
theorem c_events (l : Launch) (D : va_G) (cD cI cM cL : ClassId) (A : Nat → Nat) (rw : Nat → Option Nat) (S : St) (en : Nat → UInt64) (tf tr te : UInt64) (v : Nat → Nat → UInt64)  : Met l yX6_events (Cond.code yX6_events cX6_events 1 (some .int) :: lw_good) { frames := 0, cells := 0, slots := 0, locals := 0 } (xPc D (tyL cD cI cM cL) [.ref (A 0)] [(A 0, .inr (6, [.ref (A 1), .ref (A 2), .ref (A 3), .ref (A 8), .ref (A 28), .ref (A 33), .double (gt S), .double (gh S), .double (gtol S), .int (gtk S), .int (grf S), .int (bI (ggo S))])), (A 33, .inr (5, [.ref (A 34), .int (bI (gon S)), .int (nI (gwh S)), .double (glv S), .int (nI (gev S))]))]) (xQ D [] (fun (_ : Unit) => some (.int (nI (gev S)))) (fun (_ : Unit) => True) (fun (_ : Unit) => [])) 0 0 (fun q => q ∈ ([] : List Nat)) := by
  refine xofW (adr := []) (by decide) (Nat.le_of_ble_eq_true rfl) ?_
  intro p e s m below meth c ls hx hb hr hml hg hown hlk hI hP hd hS hl
  have hown : s.vm.findClass RX6 = some m.cls := hown
  have hd : dj [A 0, A 33] := hd
  have hl : lv_has ls 1 [(0, .ref (A 0))] := hl
  refine lv_aload_n hx hb dX6_events_0 rfl (lv_at hl 0 rfl) ?_
  refine gX6 hx hb hg hown hI hP 0 rfl 5 rfl mF_X6_44 rfl dX6_events_1 ?_
  refine gX5 hx hb hg hown hI hP 1 rfl 4 rfl mF_X6_156 rfl dX6_events_4 ?_
  exact W.iret hx hb hr (fun tS hTS hWS => ⟨(), rfl, trivial, by rw [hTS]; exact hP.sub [] rfl, hS.F hTS⟩) hS.2.2 dX6_events_7

set_option maxHeartbeats 4000000 in
set_option maxRecDepth 100000 in
theorem c_time (l : Launch) (D : va_G) (cD cI cM cL : ClassId) (A : Nat → Nat) (rw : Nat → Option Nat) (S : St) (en : Nat → UInt64) (tf tr te : UInt64) (v : Nat → Nat → UInt64)  : Met l yX6_time (Cond.code yX6_time cX6_time 1 (some .double) :: lw_good) { frames := 0, cells := 0, slots := 0, locals := 0 } (xPc D (tyL cD cI cM cL) [.ref (A 0)] [(A 0, .inr (6, [.ref (A 1), .ref (A 2), .ref (A 3), .ref (A 8), .ref (A 28), .ref (A 33), .double (gt S), .double (gh S), .double (gtol S), .int (gtk S), .int (grf S), .int (bI (ggo S))])), (A 33, .inr (5, [.ref (A 34), .int (bI (gon S)), .int (nI (gwh S)), .double (glv S), .int (nI (gev S))]))]) (xQ D [] (fun (_ : Unit) => some (.double (gt S))) (fun (_ : Unit) => True) (fun (_ : Unit) => [])) 0 0 (fun q => q ∈ ([] : List Nat)) := by
  refine xofW (adr := []) (by decide) (Nat.le_of_ble_eq_true rfl) ?_
  intro p e s m below meth c ls hx hb hr hml hg hown hlk hI hP hd hS hl
  have hown : s.vm.findClass RX6 = some m.cls := hown
  have hd : dj [A 0, A 33] := hd
  have hl : lv_has ls 1 [(0, .ref (A 0))] := hl
  refine lv_aload_n hx hb dX6_time_0 rfl (lv_at hl 0 rfl) ?_
  refine gX6 hx hb hg hown hI hP 0 rfl 6 rfl mF_X6_130 rfl dX6_time_1 ?_
  exact W.dret hx hb hr (fun tS hTS hWS => ⟨(), rfl, trivial, by rw [hTS]; exact hP.sub [] rfl, hS.F hTS⟩) hS.2.2 dX6_time_4

set_option maxHeartbeats 4000000 in
set_option maxRecDepth 100000 in
theorem c_nextSize (l : Launch) (D : va_G) (cD cI cM cL : ClassId) (A : Nat → Nat) (rw : Nat → Option Nat) (S : St) (en : Nat → UInt64) (tf tr te : UInt64) (v : Nat → Nat → UInt64)  : Met l yX6_nextSize (Cond.code yX6_nextSize cX6_nextSize 1 (some .double) :: lw_good) { frames := 0, cells := 0, slots := 0, locals := 0 } (xPc D (tyL cD cI cM cL) [.ref (A 0)] [(A 0, .inr (6, [.ref (A 1), .ref (A 2), .ref (A 3), .ref (A 8), .ref (A 28), .ref (A 33), .double (gt S), .double (gh S), .double (gtol S), .int (gtk S), .int (grf S), .int (bI (ggo S))])), (A 33, .inr (5, [.ref (A 34), .int (bI (gon S)), .int (nI (gwh S)), .double (glv S), .int (nI (gev S))]))]) (xQ D [] (fun (_ : Unit) => some (.double (gh S))) (fun (_ : Unit) => True) (fun (_ : Unit) => [])) 0 0 (fun q => q ∈ ([] : List Nat)) := by
  refine xofW (adr := []) (by decide) (Nat.le_of_ble_eq_true rfl) ?_
  intro p e s m below meth c ls hx hb hr hml hg hown hlk hI hP hd hS hl
  have hown : s.vm.findClass RX6 = some m.cls := hown
  have hd : dj [A 0, A 33] := hd
  have hl : lv_has ls 1 [(0, .ref (A 0))] := hl
  refine lv_aload_n hx hb dX6_nextSize_0 rfl (lv_at hl 0 rfl) ?_
  refine gX6 hx hb hg hown hI hP 0 rfl 7 rfl mF_X6_106 rfl dX6_nextSize_1 ?_
  exact W.dret hx hb hr (fun tS hTS hWS => ⟨(), rfl, trivial, by rw [hTS]; exact hP.sub [] rfl, hS.F hTS⟩) hS.2.2 dX6_nextSize_4

set_option maxHeartbeats 4000000 in
set_option maxRecDepth 100000 in
theorem c_steps (l : Launch) (D : va_G) (cD cI cM cL : ClassId) (A : Nat → Nat) (rw : Nat → Option Nat) (S : St) (en : Nat → UInt64) (tf tr te : UInt64) (v : Nat → Nat → UInt64) (b : Bool)  : Met l yX6_steps (Cond.code yX6_steps cX6_steps 2 (some .int) :: lw_good) { frames := 0, cells := 0, slots := 0, locals := 0 } (xPc D (tyL cD cI cM cL) [.ref (A 0), .int (bI b)] [(A 0, .inr (6, [.ref (A 1), .ref (A 2), .ref (A 3), .ref (A 8), .ref (A 28), .ref (A 33), .double (gt S), .double (gh S), .double (gtol S), .int (gtk S), .int (grf S), .int (bI (ggo S))]))]) (xQ D [] (fun (_ : Unit) => some (.int (if b then grf S else gtk S))) (fun (_ : Unit) => True) (fun (_ : Unit) => [])) 0 0 (fun q => q ∈ ([] : List Nat)) := by
  refine xofW (adr := []) (by decide) (Nat.le_of_ble_eq_true rfl) ?_
  intro p e s m below meth c ls hx hb hr hml hg hown hlk hI hP hd hS hl
  have hown : s.vm.findClass RX6 = some m.cls := hown
  have hd : dj [A 0] := hd
  have hl : lv_has ls 2 [(0, .ref (A 0)), (1, .int (bI b))] := hl
  refine lv_iload_n hx hb dX6_steps_0 rfl (lv_at hl 1 rfl) ?_
  refine lv_if_eq (tgt := 11) hx hb dX6_steps_1 (by decide) (fun c_1 => ?_) (fun c_1 => ?_)
  ·
    obtain rfl : b = false := bI_eq0.mp c_1
    refine lv_aload_n hx hb dX6_steps_11 rfl (lv_at hl 0 rfl) ?_
    refine gX6 hx hb hg hown hI hP 0 rfl 9 rfl mF_X6_141 rfl dX6_steps_12 ?_
    exact W.iret hx hb hr (fun tS hTS hWS => ⟨(), rfl, trivial, by rw [hTS]; exact hP.sub [] rfl, hS.F hTS⟩) hS.2.2 dX6_steps_15
  ·
    obtain rfl : b = true := bI_ne0.mp c_1
    refine lv_aload_n hx hb dX6_steps_4 rfl (lv_at hl 0 rfl) ?_
    refine gX6 hx hb hg hown hI hP 0 rfl 10 rfl mF_X6_187 rfl dX6_steps_5 ?_
    refine lv_goto (tgt := 15) hx hb dX6_steps_8 (by decide) ?_
    exact W.iret hx hb hr (fun tS hTS hWS => ⟨(), rfl, trivial, by rw [hTS]; exact hP.sub [] rfl, hS.F hTS⟩) hS.2.2 dX6_steps_15

set_option maxHeartbeats 4000000 in
set_option maxRecDepth 100000 in
theorem c_tryStep (l : Launch) (D : va_G) (cD cI cM cL : ClassId) (A : Nat → Nat) (rw : Nat → Option Nat) (S : St) (en : Nat → UInt64) (tf tr te : UInt64) (v : Nat → Nat → UInt64) (mm : Nat) (r : UInt64) (B : Int) (E : Nat) (hv : Inv B E S) (hB : B ≤ BT) (hrw : ∀ i, i < 3 → rw i = some (A (17 + i))) (hr0 : bd 1 2 r) (hmm : mm ≤ 5) : Met l yX6_tryStep (Cond.code yX6_tryStep cX6_tryStep 5 (some .boolean) :: lw_good) { frames := 5, cells := 0, slots := 0, locals := 134 } (xPc D (tyL cD cI cM cL) [.ref (A 0), .int (nI mm), .double r] [(A 0, .inr (6, [.ref (A 1), .ref (A 2), .ref (A 3), .ref (A 8), .ref (A 28), .ref (A 33), .double (gt S), .double (gh S), .double (gtol S), .int (gtk S), .int (grf S), .int (bI (ggo S))])), (A 28, .inr (2, [.ref (A 3), .ref (A 29), .ref (A 30), .ref (A 31), .ref (A 32), .int (bI (gkn S)), .double (gt0 S), .double (gsp S)])), (A 8, .inr (4, [.ref (A 3), .ref (A 15), .ref (A 22), .ref (A 9), .ref (A 10), .ref (A 11), .ref (A 12), .ref (A 1), .ref (A 13), .ref (A 14), .double tf, .double tr, .double te])), (A 3, .inr (0, [.ref (A 4), .ref (A 5), .ref (A 6), .ref (A 7), .int (nI (sn (gσ S))), .int (nI (sc (gσ S)))])), (A 4, iA cI 10 (so (gσ S))), (A 5, dA cD 10 (sk (gσ S))), (A 6, iA cI 10 (sl (gσ S))), (A 7, iA cI 10 (sr (gσ S))), (A 1, dA cD 3 (gy S)), (A 13, dA cD 3 (v 4)), (A 9, dA cD 3 (v 0)), (A 10, dA cD 3 (v 1)), (A 11, dA cD 3 (v 2)), (A 12, dA cD 3 (v 3)), (A 14, dA cD 3 (v 5)), (A 15, .inr (1, [.ref (A 3), .ref (A 16), .ref (A 20), .ref (A 21)])), (A 16, rA cM 3 rw), (A 17, dA cD 3 (v 6)), (A 18, dA cD 3 (v 7)), (A 19, dA cD 3 (v 8)), (A 20, dA cD 3 (v 9)), (A 21, dA cD 3 (v 10)), (A 22, .inr (3, [.ref (A 3), .ref (A 23), .ref (A 24), .ref (A 25), .ref (A 26), .ref (A 27)])), (A 23, dA cD 3 (v 11)), (A 24, dA cD 3 (v 12)), (A 25, dA cD 3 (v 13)), (A 26, dA cD 3 (v 14)), (A 27, dA cD 3 (v 15)), (A 31, dA cD 3 (gg S))]) (xQ D [A 8, A 13, A 9, A 10, A 11, A 12, A 14, A 17, A 18, A 19, A 20, A 21, A 23, A 24, A 25, A 26, A 27] (fun (u : Nat → Nat → UInt64) => some (.int (bI (tryR S mm r).isSome))) (fun (u : Nat → Nat → UInt64) => ∀ z, tryR S mm r = some z → agV (sn (gσ S)) (u 5) z) (fun (u : Nat → Nat → UInt64) => [(A 8, .inr (4, [.ref (A 3), .ref (A 15), .ref (A 22), .ref (A 9), .ref (A 10), .ref (A 11), .ref (A 12), .ref (A 1), .ref (A 13), .ref (A 14), .double (gt S), .double r, .double (if mm = 2 then errP S r else te)])), (A 13, dA cD 3 (mix (sn (gσ S)) (fs (gσ S) (gt S) (gy S)) (v 4))), (A 9, dA cD 3 (u 0)), (A 10, dA cD 3 (u 1)), (A 11, dA cD 3 (u 2)), (A 12, dA cD 3 (u 3)), (A 14, dA cD 3 (u 5)), (A 17, dA cD 3 (u 6)), (A 18, dA cD 3 (u 7)), (A 19, dA cD 3 (u 8)), (A 20, dA cD 3 (u 9)), (A 21, dA cD 3 (u 10)), (A 23, dA cD 3 (u 11)), (A 24, dA cD 3 (u 12)), (A 25, dA cD 3 (u 13)), (A 26, dA cD 3 (u 14)), (A 27, dA cD 3 (u 15))])) 0 0 (fun q => q ∈ ([A 8, A 13, A 9, A 10, A 11, A 12, A 14, A 17, A 18, A 19, A 20, A 21, A 23, A 24, A 25, A 26, A 27] : List Nat)) := by
  refine xofW (adr := [A 8, A 13, A 9, A 10, A 11, A 12, A 14, A 17, A 18, A 19, A 20, A 21, A 23, A 24, A 25, A 26, A 27]) (by decide) (Nat.le_of_ble_eq_true rfl) ?_
  intro p e s m below meth c ls hx hb hr hml hg hown hlk hI hP hd hS hl
  have hown : s.vm.findClass RX6 = some m.cls := hown
  have hd : dj [A 0, A 28, A 8, A 3, A 4, A 5, A 6, A 7, A 1, A 13, A 9, A 10, A 11, A 12, A 14, A 15, A 16, A 17, A 18, A 19, A 20, A 21, A 22, A 23, A 24, A 25, A 26, A 27, A 31] := hd
  have hl : lv_has ls 5 [(0, .ref (A 0)), (1, .int (nI mm)), (2, .double r)] := hl
  have hk := hv.st hB hr0
  refine lv_aload_n hx hb dX6_tryStep_0 rfl (lv_at hl 0 rfl) ?_
  refine gX6 hx hb hg hown hI hP 0 rfl 3 rfl mF_X6_28 rfl dX6_tryStep_1 ?_
  refine lv_aload_n hx hb dX6_tryStep_4 rfl (lv_at hl 0 rfl) ?_
  refine gX6 hx hb hg hown hI hP 0 rfl 6 rfl mF_X6_130 rfl dX6_tryStep_5 ?_
  refine lv_dload_n hx hb dX6_tryStep_8 rfl (lv_at hl 2 rfl) ?_
  refine xcv (xV (As := [.double (gt S), .double r]) (rest := []) hx hb hml hown hg (c_begin l D cD cI cM cL (A 8) (A 3) (A 15) (A 22) (A 4) (A 5) (A 6) (A 7) (A 9) (A 10) (A 11) (A 12) (A 1) (A 13) (A 14) (gσ S) tf tr te (gt S) r (gy S) (v 4) 20 hk.1 (hk.2.1.up (by decide)) hk.2.2.2 (by decide)) mM_X6_200 ok_X4_begin rfl rfl ⟨Nat.le_of_ble_eq_true rfl, Nat.le_of_ble_eq_true rfl⟩ hI hP hd rfl [2, 3, 4, 5, 6, 7, 8, 9] rfl rfl rfl rfl rfl hl.1 rfl (Nat.le_of_ble_eq_true rfl) dX6_tryStep_9 ⟨Nat.zero_le _, Nat.zero_le _⟩) hP hd hS (fa1 pm0 (fa1 (pmS pm0) fa0)) [2, 9] rfl rfl (fun _ => rfl) (fun _u H locs hu hP hS => ?_)
  have hP : va_P D vwCl [(A 0, .inr (6, [.ref (A 1), .ref (A 2), .ref (A 3), .ref (A 8), .ref (A 28), .ref (A 33), .double (gt S), .double (gh S), .double (gtol S), .int (gtk S), .int (grf S), .int (bI (ggo S))])), (A 28, .inr (2, [.ref (A 3), .ref (A 29), .ref (A 30), .ref (A 31), .ref (A 32), .int (bI (gkn S)), .double (gt0 S), .double (gsp S)])), (A 8, .inr (4, [.ref (A 3), .ref (A 15), .ref (A 22), .ref (A 9), .ref (A 10), .ref (A 11), .ref (A 12), .ref (A 1), .ref (A 13), .ref (A 14), .double (gt S), .double r, .double te])), (A 3, .inr (0, [.ref (A 4), .ref (A 5), .ref (A 6), .ref (A 7), .int (nI (sn (gσ S))), .int (nI (sc (gσ S)))])), (A 4, iA cI 10 (so (gσ S))), (A 5, dA cD 10 (sk (gσ S))), (A 6, iA cI 10 (sl (gσ S))), (A 7, iA cI 10 (sr (gσ S))), (A 1, dA cD 3 (gy S)), (A 13, dA cD 3 (mix (sn (gσ S)) (fs (gσ S) (gt S) (gy S)) (v 4))), (A 9, dA cD 3 (v 0)), (A 10, dA cD 3 (v 1)), (A 11, dA cD 3 (v 2)), (A 12, dA cD 3 (v 3)), (A 14, dA cD 3 (v 5)), (A 15, .inr (1, [.ref (A 3), .ref (A 16), .ref (A 20), .ref (A 21)])), (A 16, rA cM 3 rw), (A 17, dA cD 3 (v 6)), (A 18, dA cD 3 (v 7)), (A 19, dA cD 3 (v 8)), (A 20, dA cD 3 (v 9)), (A 21, dA cD 3 (v 10)), (A 22, .inr (3, [.ref (A 3), .ref (A 23), .ref (A 24), .ref (A 25), .ref (A 26), .ref (A 27)])), (A 23, dA cD 3 (v 11)), (A 24, dA cD 3 (v 12)), (A 25, dA cD 3 (v 13)), (A 26, dA cD 3 (v 14)), (A 27, dA cD 3 (v 15)), (A 31, dA cD 3 (gg S))] H := hP
  refine xcut (I := fun H locs ls => (True) ∧ va_P D vwCl [(A 0, .inr (6, [.ref (A 1), .ref (A 2), .ref (A 3), .ref (A 8), .ref (A 28), .ref (A 33), .double (gt S), .double (gh S), .double (gtol S), .int (gtk S), .int (grf S), .int (bI (ggo S))])), (A 28, .inr (2, [.ref (A 3), .ref (A 29), .ref (A 30), .ref (A 31), .ref (A 32), .int (bI (gkn S)), .double (gt0 S), .double (gsp S)])), (A 8, .inr (4, [.ref (A 3), .ref (A 15), .ref (A 22), .ref (A 9), .ref (A 10), .ref (A 11), .ref (A 12), .ref (A 1), .ref (A 13), .ref (A 14), .double (gt S), .double r, .double te])), (A 3, .inr (0, [.ref (A 4), .ref (A 5), .ref (A 6), .ref (A 7), .int (nI (sn (gσ S))), .int (nI (sc (gσ S)))])), (A 4, iA cI 10 (so (gσ S))), (A 5, dA cD 10 (sk (gσ S))), (A 6, iA cI 10 (sl (gσ S))), (A 7, iA cI 10 (sr (gσ S))), (A 1, dA cD 3 (gy S)), (A 13, dA cD 3 (mix (sn (gσ S)) (fs (gσ S) (gt S) (gy S)) (v 4))), (A 9, dA cD 3 (v 0)), (A 10, dA cD 3 (v 1)), (A 11, dA cD 3 (v 2)), (A 12, dA cD 3 (v 3)), (A 14, dA cD 3 (v 5)), (A 15, .inr (1, [.ref (A 3), .ref (A 16), .ref (A 20), .ref (A 21)])), (A 16, rA cM 3 rw), (A 17, dA cD 3 (v 6)), (A 18, dA cD 3 (v 7)), (A 19, dA cD 3 (v 8)), (A 20, dA cD 3 (v 9)), (A 21, dA cD 3 (v 10)), (A 22, .inr (3, [.ref (A 3), .ref (A 23), .ref (A 24), .ref (A 25), .ref (A 26), .ref (A 27)])), (A 23, dA cD 3 (v 11)), (A 24, dA cD 3 (v 12)), (A 25, dA cD 3 (v 13)), (A 26, dA cD 3 (v 14)), (A 27, dA cD 3 (v 15)), (A 31, dA cD 3 (gg S))] H ∧ va_S (fun q => q ∈ ([A 8, A 13, A 9, A 10, A 11, A 12, A 14, A 17, A 18, A 19, A 20, A 21, A 23, A 24, A 25, A 26, A 27] : List Nat)) s.heap H locs ∧ lv_has ls 5 [(4, .int (bI (ggo S && decide (deq (gsp S) r)))), (0, .ref (A 0)), (1, .int (nI mm)), (2, .double r)]) (pc2 := 38) (rest2 := []) (fun H locs ls hh => ?_) (fun K1 => ?_)
  ·
    obtain ⟨_ht, hP, hS, hl⟩ := hh
    refine lv_aload_n hx hb dX6_tryStep_38 rfl (lv_at hl 1 rfl) ?_
    refine gX6 hx hb hg hown hI hP 0 rfl 3 rfl mF_X6_28 rfl dX6_tryStep_39 ?_
    refine lv_iload_n hx hb dX6_tryStep_42 rfl (lv_at hl 2 rfl) ?_
    refine lv_iload hx hb dX6_tryStep_43 (lv_at hl 0 rfl) ?_
    refine lv_aload_n hx hb dX6_tryStep_45 rfl (lv_at hl 1 rfl) ?_
    refine gX6 hx hb hg hown hI hP 0 rfl 4 rfl mF_X6_37 rfl dX6_tryStep_46 ?_
    refine gX2 hx hb hg hown hI hP 1 rfl 3 rfl mF_X6_207 rfl dX6_tryStep_49 ?_
    refine xci (xV (As := [.int (nI mm), .int (bI (ggo S && decide (deq (gsp S) r))), .ref (A 31)]) (rest := []) hx hb hml hown hg (c_reckon l D cD cI cM cL A rw (gσ S) (gt S) r te (gy S) (gg S) v (ggo S && decide (deq (gsp S) r)) mm hrw hk hv.g hmm) mM_X6_210 ok_X4_reckon rfl rfl ⟨Nat.le_of_ble_eq_true rfl, Nat.le_of_ble_eq_true rfl⟩ hI hP hd rfl [2, 3, 4, 5, 6, 7, 8, 9, 10, 11, 12, 13, 14, 15, 16, 17, 18, 19, 20, 21, 22, 23, 24, 25, 26, 27, 28] rfl rfl rfl rfl rfl hl.1 rfl (Nat.le_of_ble_eq_true rfl) dX6_tryStep_52 ⟨Nat.zero_le _, Nat.zero_le _⟩) hP hd hS (fa1 pm0 (fa1 (pmS (pmS pm0)) (fa1 (pmS (pmS (pmS pm0))) (fa1 (pmS (pmS (pmS (pmS pm0)))) (fa1 (pmS (pmS (pmS (pmS (pmS pm0))))) (fa1 (pmS (pmS (pmS (pmS (pmS (pmS pm0)))))) (fa1 (pmS (pmS (pmS (pmS (pmS (pmS (pmS pm0))))))) (fa1 (pmS (pmS (pmS (pmS (pmS (pmS (pmS (pmS pm0)))))))) (fa1 (pmS (pmS (pmS (pmS (pmS (pmS (pmS (pmS (pmS pm0))))))))) (fa1 (pmS (pmS (pmS (pmS (pmS (pmS (pmS (pmS (pmS (pmS pm0)))))))))) (fa1 (pmS (pmS (pmS (pmS (pmS (pmS (pmS (pmS (pmS (pmS (pmS pm0))))))))))) (fa1 (pmS (pmS (pmS (pmS (pmS (pmS (pmS (pmS (pmS (pmS (pmS (pmS pm0)))))))))))) (fa1 (pmS (pmS (pmS (pmS (pmS (pmS (pmS (pmS (pmS (pmS (pmS (pmS (pmS pm0))))))))))))) (fa1 (pmS (pmS (pmS (pmS (pmS (pmS (pmS (pmS (pmS (pmS (pmS (pmS (pmS (pmS pm0)))))))))))))) (fa1 (pmS (pmS (pmS (pmS (pmS (pmS (pmS (pmS (pmS (pmS (pmS (pmS (pmS (pmS (pmS pm0))))))))))))))) (fa1 (pmS (pmS (pmS (pmS (pmS (pmS (pmS (pmS (pmS (pmS (pmS (pmS (pmS (pmS (pmS (pmS pm0)))))))))))))))) fa0)))))))))))))))) [2, 10, 11, 12, 13, 14, 17, 18, 19, 20, 21, 23, 24, 25, 26, 27] rfl rfl (fun _ => rfl) (fun u H locs hu hP hS => ?_)
    have hu1 := hu
    have hP : va_P D vwCl [(A 0, .inr (6, [.ref (A 1), .ref (A 2), .ref (A 3), .ref (A 8), .ref (A 28), .ref (A 33), .double (gt S), .double (gh S), .double (gtol S), .int (gtk S), .int (grf S), .int (bI (ggo S))])), (A 28, .inr (2, [.ref (A 3), .ref (A 29), .ref (A 30), .ref (A 31), .ref (A 32), .int (bI (gkn S)), .double (gt0 S), .double (gsp S)])), (A 8, .inr (4, [.ref (A 3), .ref (A 15), .ref (A 22), .ref (A 9), .ref (A 10), .ref (A 11), .ref (A 12), .ref (A 1), .ref (A 13), .ref (A 14), .double (gt S), .double r, .double (if mm = 2 then errP S r else te)])), (A 3, .inr (0, [.ref (A 4), .ref (A 5), .ref (A 6), .ref (A 7), .int (nI (sn (gσ S))), .int (nI (sc (gσ S)))])), (A 4, iA cI 10 (so (gσ S))), (A 5, dA cD 10 (sk (gσ S))), (A 6, iA cI 10 (sl (gσ S))), (A 7, iA cI 10 (sr (gσ S))), (A 1, dA cD 3 (gy S)), (A 13, dA cD 3 (mix (sn (gσ S)) (fs (gσ S) (gt S) (gy S)) (v 4))), (A 9, dA cD 3 (u 0)), (A 10, dA cD 3 (u 1)), (A 11, dA cD 3 (u 2)), (A 12, dA cD 3 (u 3)), (A 14, dA cD 3 (u 5)), (A 15, .inr (1, [.ref (A 3), .ref (A 16), .ref (A 20), .ref (A 21)])), (A 16, rA cM 3 rw), (A 17, dA cD 3 (u 6)), (A 18, dA cD 3 (u 7)), (A 19, dA cD 3 (u 8)), (A 20, dA cD 3 (u 9)), (A 21, dA cD 3 (u 10)), (A 22, .inr (3, [.ref (A 3), .ref (A 23), .ref (A 24), .ref (A 25), .ref (A 26), .ref (A 27)])), (A 23, dA cD 3 (u 11)), (A 24, dA cD 3 (u 12)), (A 25, dA cD 3 (u 13)), (A 26, dA cD 3 (u 14)), (A 27, dA cD 3 (u 15)), (A 31, dA cD 3 (gg S))] H := hP
    exact W.zret hx hb hr (bI_n _) (fun tS hTS hWS => ⟨u, rfl, hu1, by rw [hTS]; exact hP.sub [2, 9, 10, 11, 12, 13, 14, 17, 18, 19, 20, 21, 23, 24, 25, 26, 27] rfl, hS.F hTS⟩) hS.2.2 dX6_tryStep_55
  ·
    refine lv_aload_n hx hb dX6_tryStep_12 rfl (lv_at hl 0 rfl) ?_
    refine gX6 hx hb hg hown hI hP 0 rfl 11 rfl mF_X6_197 rfl dX6_tryStep_13 ?_
    refine lv_if_eq (tgt := 35) hx hb dX6_tryStep_16 (by decide) (fun c_16 => ?_) (fun c_16 => ?_)
    ·
      refine lv_iconst (v := nI 0) hx hb dX6_tryStep_35 (by decide) ?_
      refine xeqi (y := bI (ggo S && decide (deq (gsp S) r))) (bI0 (by rw [bI_eq0.mp c_16]; rfl)) ?_
      refine lv_istore (lv' := [(4, .int (bI (ggo S && decide (deq (gsp S) r)))), (0, .ref (A 0)), (1, .int (nI mm)), (2, .double r)]) hx hb dX6_tryStep_36 hl (by decide) rfl (fun ls hl => ?_)
      exact K1 _ _ _ ⟨trivial, hP, hS, lv_sub hl [0, 1, 2, 3] rfl⟩
    ·
      refine lv_aload_n hx hb dX6_tryStep_19 rfl (lv_at hl 0 rfl) ?_
      refine gX6 hx hb hg hown hI hP 0 rfl 4 rfl mF_X6_37 rfl dX6_tryStep_20 ?_
      refine gX2 hx hb hg hown hI hP 1 rfl 7 rfl mF_X6_204 rfl dX6_tryStep_23 ?_
      refine lv_dload_n hx hb dX6_tryStep_26 rfl (lv_at hl 2 rfl) ?_
      refine xl_ne (tgt := 35) hx hb dX6_tryStep_27 dX6_tryStep_28 (by decide) (fun c_27 => ?_) (fun c_27 => ?_)
      ·
        refine lv_iconst (v := nI 0) hx hb dX6_tryStep_35 (by decide) ?_
        refine xeqi (y := bI (ggo S && decide (deq (gsp S) r))) (bI0 (by rw [df c_27, Bool.and_false])) ?_
        refine lv_istore (lv' := [(4, .int (bI (ggo S && decide (deq (gsp S) r)))), (0, .ref (A 0)), (1, .int (nI mm)), (2, .double r)]) hx hb dX6_tryStep_36 hl (by decide) rfl (fun ls hl => ?_)
        exact K1 _ _ _ ⟨trivial, hP, hS, lv_sub hl [0, 1, 2, 3] rfl⟩
      ·
        refine lv_iconst (v := nI 1) hx hb dX6_tryStep_31 (by decide) ?_
        refine lv_goto (tgt := 36) hx hb dX6_tryStep_32 (by decide) ?_
        refine xeqi (y := bI (ggo S && decide (deq (gsp S) r))) (bI1 (by rw [dt c_27, bI_ne0.mp c_16]; rfl)) ?_
        refine xpc (q := 36) rfl ?_
        refine lv_istore (lv' := [(4, .int (bI (ggo S && decide (deq (gsp S) r)))), (0, .ref (A 0)), (1, .int (nI mm)), (2, .double r)]) hx hb dX6_tryStep_36 hl (by decide) rfl (fun ls hl => ?_)
        exact K1 _ _ _ ⟨trivial, hP, hS, lv_sub hl [0, 1, 2, 3] rfl⟩

set_option maxHeartbeats 4000000 in
set_option maxRecDepth 100000 in
theorem c_take (l : Launch) (D : va_G) (cD cI cM cL : ClassId) (A : Nat → Nat) (S : St) (en : Nat → UInt64) (te : UInt64) (v : Nat → Nat → UInt64) (mm : Nat) (r tb : UInt64) (z Z1 : Nat → UInt64) (B : Int) (E : Nat) (hv : Inv B E S) (hB : B ≤ BT) (hr0 : bd 1 2 r) (hmm : mm ≤ 5) (hE : E < 2 ^ 29) (hz : tryR S mm r = some z) (hag : agV (sn (gσ S)) Z1 z) : Met l yX6_take (Cond.code yX6_take cX6_take 5 none :: lw_good) { frames := 3, cells := 0, slots := 0, locals := 74 } (xPc D (tyL cD cI cM cL) [.ref (A 0), .int (nI mm), .double tb] [(A 0, .inr (6, [.ref (A 1), .ref (A 2), .ref (A 3), .ref (A 8), .ref (A 28), .ref (A 33), .double (gt S), .double (gh S), .double (gtol S), .int (gtk S), .int (grf S), .int (bI (ggo S))])), (A 1, dA cD 3 (gy S)), (A 3, .inr (0, [.ref (A 4), .ref (A 5), .ref (A 6), .ref (A 7), .int (nI (sn (gσ S))), .int (nI (sc (gσ S)))])), (A 4, iA cI 10 (so (gσ S))), (A 5, dA cD 10 (sk (gσ S))), (A 6, iA cI 10 (sl (gσ S))), (A 7, iA cI 10 (sr (gσ S))), (A 8, .inr (4, [.ref (A 3), .ref (A 15), .ref (A 22), .ref (A 9), .ref (A 10), .ref (A 11), .ref (A 12), .ref (A 1), .ref (A 13), .ref (A 14), .double (gt S), .double r, .double te])), (A 13, dA cD 3 (mix (sn (gσ S)) (fs (gσ S) (gt S) (gy S)) (v 4))), (A 14, dA cD 3 Z1), (A 28, .inr (2, [.ref (A 3), .ref (A 29), .ref (A 30), .ref (A 31), .ref (A 32), .int (bI (gkn S)), .double (gt0 S), .double (gsp S)])), (A 29, dA cD 3 (gq S)), (A 30, dA cD 3 (gy0 S)), (A 31, dA cD 3 (gg S)), (A 32, dA cD 3 en), (A 33, .inr (5, [.ref (A 34), .int (bI (gon S)), .int (nI (gwh S)), .double (glv S), .int (nI (gev S))])), (A 34, dA cD 8 (gtm S))]) (xQ D [A 0, A 1, A 28, A 29, A 30, A 31, A 32, A 33, A 34] (fun (_ : Unit) => none) (fun (_ : Unit) => True) (fun (_ : Unit) => [(A 0, .inr (6, [.ref (A 1), .ref (A 2), .ref (A 3), .ref (A 8), .ref (A 28), .ref (A 33), .double (gt (takeS S mm r z tb)), .double (gh (takeS S mm r z tb)), .double (gtol (takeS S mm r z tb)), .int (gtk (takeS S mm r z tb)), .int (grf (takeS S mm r z tb)), .int (bI (ggo (takeS S mm r z tb)))])), (A 1, dA cD 3 (gy (takeS S mm r z tb))), (A 28, .inr (2, [.ref (A 3), .ref (A 29), .ref (A 30), .ref (A 31), .ref (A 32), .int (bI (gkn (takeS S mm r z tb))), .double (gt0 (takeS S mm r z tb)), .double (gsp (takeS S mm r z tb))])), (A 29, dA cD 3 (gq (takeS S mm r z tb))), (A 30, dA cD 3 (gy0 (takeS S mm r z tb))), (A 31, dA cD 3 (gg (takeS S mm r z tb))), (A 32, dA cD 3 (mix (sn (gσ S)) z en)), (A 33, .inr (5, [.ref (A 34), .int (bI (gon (takeS S mm r z tb))), .int (nI (gwh (takeS S mm r z tb))), .double (glv (takeS S mm r z tb)), .int (nI (gev (takeS S mm r z tb)))])), (A 34, dA cD 8 (gtm (takeS S mm r z tb)))])) 0 0 (fun q => q ∈ ([A 0, A 1, A 28, A 29, A 30, A 31, A 32, A 33, A 34] : List Nat)) := by
  refine xofW (adr := [A 0, A 1, A 28, A 29, A 30, A 31, A 32, A 33, A 34]) (by decide) (Nat.le_of_ble_eq_true rfl) ?_
  intro p e s m below meth c ls hx hb hr hml hg hown hlk hI hP hd hS hl
  have hown : s.vm.findClass RX6 = some m.cls := hown
  have hd : dj [A 0, A 1, A 3, A 4, A 5, A 6, A 7, A 8, A 13, A 14, A 28, A 29, A 30, A 31, A 32, A 33, A 34] := hd
  have hl : lv_has ls 5 [(0, .ref (A 0)), (1, .int (nI mm)), (2, .double tb)] := hl
  have hk := hv.st hB hr0
  have hzb := stepR_bd hk hv.g hz
  have hn : sn (gσ S) ≤ 3 := hk.1.2.1
  refine lv_aload_n hx hb dX6_take_0 rfl (lv_at hl 0 rfl) ?_
  refine gX6 hx hb hg hown hI hP 0 rfl 4 rfl mF_X6_37 rfl dX6_take_1 ?_
  refine lv_aload_n hx hb dX6_take_4 rfl (lv_at hl 0 rfl) ?_
  refine gX6 hx hb hg hown hI hP 0 rfl 3 rfl mF_X6_28 rfl dX6_take_5 ?_
  refine xcv (xV (As := [.ref (A 8)]) (rest := []) hx hb hml hown hg (c_keep l D cD cI cM cL A (gσ S) (gt S) r te (gt0 S) (gsp S) (gy S) (v 4) Z1 z (gq S) (gy0 S) (gg S) en (gkn S) hk hag hzb) mM_X6_225 ok_X2_keep rfl rfl ⟨Nat.le_of_ble_eq_true rfl, Nat.le_of_ble_eq_true rfl⟩ hI hP hd rfl [10, 7, 2, 3, 4, 5, 6, 1, 8, 9, 11, 12, 13, 14] rfl rfl rfl rfl rfl hl.1 rfl (Nat.le_of_ble_eq_true rfl) dX6_take_8 ⟨Nat.zero_le _, Nat.zero_le _⟩) hP hd hS (fa1 (pmS (pmS pm0)) (fa1 (pmS (pmS (pmS pm0))) (fa1 (pmS (pmS (pmS (pmS pm0)))) (fa1 (pmS (pmS (pmS (pmS (pmS pm0))))) (fa1 (pmS (pmS (pmS (pmS (pmS (pmS pm0)))))) fa0))))) [10, 11, 12, 13, 14] rfl rfl (fun _ => rfl) (fun _u H locs hu hP hS => ?_)
  have hP : va_P D vwCl [(A 0, .inr (6, [.ref (A 1), .ref (A 2), .ref (A 3), .ref (A 8), .ref (A 28), .ref (A 33), .double (gt S), .double (gh S), .double (gtol S), .int (gtk S), .int (grf S), .int (bI (ggo S))])), (A 1, dA cD 3 (gy S)), (A 3, .inr (0, [.ref (A 4), .ref (A 5), .ref (A 6), .ref (A 7), .int (nI (sn (gσ S))), .int (nI (sc (gσ S)))])), (A 4, iA cI 10 (so (gσ S))), (A 5, dA cD 10 (sk (gσ S))), (A 6, iA cI 10 (sl (gσ S))), (A 7, iA cI 10 (sr (gσ S))), (A 8, .inr (4, [.ref (A 3), .ref (A 15), .ref (A 22), .ref (A 9), .ref (A 10), .ref (A 11), .ref (A 12), .ref (A 1), .ref (A 13), .ref (A 14), .double (gt S), .double r, .double te])), (A 13, dA cD 3 (mix (sn (gσ S)) (fs (gσ S) (gt S) (gy S)) (v 4))), (A 14, dA cD 3 Z1), (A 28, .inr (2, [.ref (A 3), .ref (A 29), .ref (A 30), .ref (A 31), .ref (A 32), .int (nI 1), .double (gt S), .double r])), (A 29, dA cD 3 (mix (sn (gσ S)) (fs (gσ S) (FP.dadd (gt S) r) z) (gq S))), (A 30, dA cD 3 (mix (sn (gσ S)) (gy S) (gy0 S))), (A 31, dA cD 3 (mix (sn (gσ S)) (fs (gσ S) (gt S) (gy S)) (gg S))), (A 32, dA cD 3 (mix (sn (gσ S)) z en)), (A 33, .inr (5, [.ref (A 34), .int (bI (gon S)), .int (nI (gwh S)), .double (glv S), .int (nI (gev S))])), (A 34, dA cD 8 (gtm S))] H := hP
  refine lv_iconst (v := nI 0) hx hb dX6_take_11 (by decide) ?_
  refine lv_istore (lv' := [(4, .int (nI 0)), (0, .ref (A 0)), (1, .int (nI mm)), (2, .double tb)]) hx hb dX6_take_12 hl (by decide) rfl (fun ls hl => ?_)
  refine xfor (I := fun i H locs ls => ∃ (f' : Nat → UInt64), (f' = mix i z (gy S)) ∧ va_P D vwCl [(A 0, .inr (6, [.ref (A 1), .ref (A 2), .ref (A 3), .ref (A 8), .ref (A 28), .ref (A 33), .double (gt S), .double (gh S), .double (gtol S), .int (gtk S), .int (grf S), .int (bI (ggo S))])), (A 1, dA cD 3 f'), (A 3, .inr (0, [.ref (A 4), .ref (A 5), .ref (A 6), .ref (A 7), .int (nI (sn (gσ S))), .int (nI (sc (gσ S)))])), (A 4, iA cI 10 (so (gσ S))), (A 5, dA cD 10 (sk (gσ S))), (A 6, iA cI 10 (sl (gσ S))), (A 7, iA cI 10 (sr (gσ S))), (A 8, .inr (4, [.ref (A 3), .ref (A 15), .ref (A 22), .ref (A 9), .ref (A 10), .ref (A 11), .ref (A 12), .ref (A 1), .ref (A 13), .ref (A 14), .double (gt S), .double r, .double te])), (A 13, dA cD 3 (mix (sn (gσ S)) (fs (gσ S) (gt S) (gy S)) (v 4))), (A 14, dA cD 3 Z1), (A 28, .inr (2, [.ref (A 3), .ref (A 29), .ref (A 30), .ref (A 31), .ref (A 32), .int (nI 1), .double (gt S), .double r])), (A 29, dA cD 3 (mix (sn (gσ S)) (fs (gσ S) (FP.dadd (gt S) r) z) (gq S))), (A 30, dA cD 3 (mix (sn (gσ S)) (gy S) (gy0 S))), (A 31, dA cD 3 (mix (sn (gσ S)) (fs (gσ S) (gt S) (gy S)) (gg S))), (A 32, dA cD 3 (mix (sn (gσ S)) z en)), (A 33, .inr (5, [.ref (A 34), .int (bI (gon S)), .int (nI (gwh S)), .double (glv S), .int (nI (gev S))])), (A 34, dA cD 8 (gtm S))] H ∧ va_S (fun q => q ∈ ([A 0, A 1, A 28, A 29, A 30, A 31, A 32, A 33, A 34] : List Nat)) s.heap H locs ∧ lv_has ls 5 [(4, .int (nI i)), (0, .ref (A 0)), (1, .int (nI mm)), (2, .double tb)]) (sn (gσ S)) 0 ⟨_, (mix_0 _ _).symm, hP, hS, lv_sub hl [0, 1, 2, 3] rfl⟩ (Nat.zero_le _) ?_ ?_
  ·
    intro i h_i ih H locs ls ⟨f', hf, hP, hS, hl⟩
    refine lv_iload hx hb dX6_take_14 (lv_at hl 0 rfl) ?_
    refine lv_aload_n hx hb dX6_take_16 rfl (lv_at hl 1 rfl) ?_
    refine gX6 hx hb hg hown hI hP 0 rfl 2 rfl mF_X6_19 rfl dX6_take_17 ?_
    refine gX0 hx hb hg hown hI hP 2 rfl 4 rfl mF_X6_229 rfl dX6_take_20 ?_
    refine lv_icmp_ge (tgt := 49) hx hb dX6_take_23 (by decide) (fun c_23 => absurd c_23 (nI_ge h_i (by omega))) (fun c_23 => ?_)
    refine lv_aload_n hx hb dX6_take_26 rfl (lv_at hl 1 rfl) ?_
    refine gX6 hx hb hg hown hI hP 0 rfl 0 rfl mF_X6_9 rfl dX6_take_27 ?_
    refine lv_iload hx hb dX6_take_30 (lv_at hl 0 rfl) ?_
    refine xpc (q := 32) rfl ?_
    refine lv_aload_n hx hb dX6_take_32 rfl (lv_at hl 1 rfl) ?_
    refine gX6 hx hb hg hown hI hP 0 rfl 3 rfl mF_X6_28 rfl dX6_take_33 ?_
    refine gX4 hx hb hg hown hI hP 7 rfl 9 rfl mF_X6_232 rfl dX6_take_36 ?_
    refine lv_iload hx hb dX6_take_39 (lv_at hl 0 rfl) ?_
    refine xdald hx hb hI hP 9 0 rfl rfl (Nat.lt_of_lt_of_le h_i hn) (by decide) dX6_take_41 ?_
    refine xeqd (y := z i) (hag i h_i) ?_
    refine xdast hx hb hI hP hd rfl hS 1 0 rfl rfl (Nat.lt_of_lt_of_le h_i hn) (by decide) (pmS pm0) dX6_take_42 (fun H locs hP hS => ?_)
    have hP : va_P D vwCl [(A 0, .inr (6, [.ref (A 1), .ref (A 2), .ref (A 3), .ref (A 8), .ref (A 28), .ref (A 33), .double (gt S), .double (gh S), .double (gtol S), .int (gtk S), .int (grf S), .int (bI (ggo S))])), (A 1, dA cD 3 (vf_upd f' i (z i))), (A 3, .inr (0, [.ref (A 4), .ref (A 5), .ref (A 6), .ref (A 7), .int (nI (sn (gσ S))), .int (nI (sc (gσ S)))])), (A 4, iA cI 10 (so (gσ S))), (A 5, dA cD 10 (sk (gσ S))), (A 6, iA cI 10 (sl (gσ S))), (A 7, iA cI 10 (sr (gσ S))), (A 8, .inr (4, [.ref (A 3), .ref (A 15), .ref (A 22), .ref (A 9), .ref (A 10), .ref (A 11), .ref (A 12), .ref (A 1), .ref (A 13), .ref (A 14), .double (gt S), .double r, .double te])), (A 13, dA cD 3 (mix (sn (gσ S)) (fs (gσ S) (gt S) (gy S)) (v 4))), (A 14, dA cD 3 Z1), (A 28, .inr (2, [.ref (A 3), .ref (A 29), .ref (A 30), .ref (A 31), .ref (A 32), .int (nI 1), .double (gt S), .double r])), (A 29, dA cD 3 (mix (sn (gσ S)) (fs (gσ S) (FP.dadd (gt S) r) z) (gq S))), (A 30, dA cD 3 (mix (sn (gσ S)) (gy S) (gy0 S))), (A 31, dA cD 3 (mix (sn (gσ S)) (fs (gσ S) (gt S) (gy S)) (gg S))), (A 32, dA cD 3 (mix (sn (gσ S)) z en)), (A 33, .inr (5, [.ref (A 34), .int (bI (gon S)), .int (nI (gwh S)), .double (glv S), .int (nI (gev S))])), (A 34, dA cD 8 (gtm S))] H := hP
    refine lv_iinc (v := nI (i + 1)) (lv' := [(4, .int (nI (i + 1))), (0, .ref (A 0)), (1, .int (nI mm)), (2, .double tb)]) hx hb dX6_take_43 hl (k := 0) rfl (nI_1 i) (by decide) rfl (fun ls hl => ?_)
    refine lv_goto (tgt := 14) hx hb dX6_take_46 (by decide) ?_
    exact ih _ _ _ ⟨_, mix_s hf rfl, hP, hS, lv_sub hl [0, 1, 2, 3] rfl⟩
  ·
    intro H locs ls ⟨f', hf, hP, hS, hl⟩
    refine lv_iload hx hb dX6_take_14 (lv_at hl 0 rfl) ?_
    refine lv_aload_n hx hb dX6_take_16 rfl (lv_at hl 1 rfl) ?_
    refine gX6 hx hb hg hown hI hP 0 rfl 2 rfl mF_X6_19 rfl dX6_take_17 ?_
    refine gX0 hx hb hg hown hI hP 2 rfl 4 rfl mF_X6_229 rfl dX6_take_20 ?_
    refine lv_icmp_ge (tgt := 49) hx hb dX6_take_23 (by decide) (fun c_23 => ?_) (fun c_23 => absurd (Int32.le_refl _) c_23)
    subst hf
    refine lv_aload_n hx hb dX6_take_49 rfl (lv_at hl 1 rfl) ?_
    refine lv_dload_n hx hb dX6_take_50 rfl (lv_at hl 3 rfl) ?_
    refine pX6 hx hb hg hown hI hP hd rfl hS 0 rfl 6 rfl mF_X6_130 rfl rfl rfl (Nat.le_of_ble_eq_true rfl) pm0 dX6_take_51 (fun H locs hP hS => ?_)
    have hP : va_P D vwCl [(A 0, .inr (6, [.ref (A 1), .ref (A 2), .ref (A 3), .ref (A 8), .ref (A 28), .ref (A 33), .double tb, .double (gh S), .double (gtol S), .int (gtk S), .int (grf S), .int (bI (ggo S))])), (A 1, dA cD 3 (mix (sn (gσ S)) z (gy S))), (A 3, .inr (0, [.ref (A 4), .ref (A 5), .ref (A 6), .ref (A 7), .int (nI (sn (gσ S))), .int (nI (sc (gσ S)))])), (A 4, iA cI 10 (so (gσ S))), (A 5, dA cD 10 (sk (gσ S))), (A 6, iA cI 10 (sl (gσ S))), (A 7, iA cI 10 (sr (gσ S))), (A 8, .inr (4, [.ref (A 3), .ref (A 15), .ref (A 22), .ref (A 9), .ref (A 10), .ref (A 11), .ref (A 12), .ref (A 1), .ref (A 13), .ref (A 14), .double (gt S), .double r, .double te])), (A 13, dA cD 3 (mix (sn (gσ S)) (fs (gσ S) (gt S) (gy S)) (v 4))), (A 14, dA cD 3 Z1), (A 28, .inr (2, [.ref (A 3), .ref (A 29), .ref (A 30), .ref (A 31), .ref (A 32), .int (nI 1), .double (gt S), .double r])), (A 29, dA cD 3 (mix (sn (gσ S)) (fs (gσ S) (FP.dadd (gt S) r) z) (gq S))), (A 30, dA cD 3 (mix (sn (gσ S)) (gy S) (gy0 S))), (A 31, dA cD 3 (mix (sn (gσ S)) (fs (gσ S) (gt S) (gy S)) (gg S))), (A 32, dA cD 3 (mix (sn (gσ S)) z en)), (A 33, .inr (5, [.ref (A 34), .int (bI (gon S)), .int (nI (gwh S)), .double (glv S), .int (nI (gev S))])), (A 34, dA cD 8 (gtm S))] H := hP
    refine xpc (q := 54) rfl ?_
    refine lv_aload_n hx hb dX6_take_54 rfl (lv_at hl 1 rfl) ?_
    refine lv_dup hx hb dX6_take_55 rfl ?_
    refine gX6 hx hb hg hown hI hP 0 rfl 9 rfl mF_X6_141 rfl dX6_take_56 ?_
    refine lv_iconst (v := nI 1) hx hb dX6_take_59 (by decide) ?_
    refine lv_iadd hx hb dX6_take_60 ?_
    refine pX6 hx hb hg hown hI hP hd rfl hS 0 rfl 9 rfl mF_X6_141 rfl rfl rfl (Nat.le_of_ble_eq_true rfl) pm0 dX6_take_61 (fun H locs hP hS => ?_)
    have hP : va_P D vwCl [(A 0, .inr (6, [.ref (A 1), .ref (A 2), .ref (A 3), .ref (A 8), .ref (A 28), .ref (A 33), .double tb, .double (gh S), .double (gtol S), .int ((gtk S) + (nI 1)), .int (grf S), .int (bI (ggo S))])), (A 1, dA cD 3 (mix (sn (gσ S)) z (gy S))), (A 3, .inr (0, [.ref (A 4), .ref (A 5), .ref (A 6), .ref (A 7), .int (nI (sn (gσ S))), .int (nI (sc (gσ S)))])), (A 4, iA cI 10 (so (gσ S))), (A 5, dA cD 10 (sk (gσ S))), (A 6, iA cI 10 (sl (gσ S))), (A 7, iA cI 10 (sr (gσ S))), (A 8, .inr (4, [.ref (A 3), .ref (A 15), .ref (A 22), .ref (A 9), .ref (A 10), .ref (A 11), .ref (A 12), .ref (A 1), .ref (A 13), .ref (A 14), .double (gt S), .double r, .double te])), (A 13, dA cD 3 (mix (sn (gσ S)) (fs (gσ S) (gt S) (gy S)) (v 4))), (A 14, dA cD 3 Z1), (A 28, .inr (2, [.ref (A 3), .ref (A 29), .ref (A 30), .ref (A 31), .ref (A 32), .int (nI 1), .double (gt S), .double r])), (A 29, dA cD 3 (mix (sn (gσ S)) (fs (gσ S) (FP.dadd (gt S) r) z) (gq S))), (A 30, dA cD 3 (mix (sn (gσ S)) (gy S) (gy0 S))), (A 31, dA cD 3 (mix (sn (gσ S)) (fs (gσ S) (gt S) (gy S)) (gg S))), (A 32, dA cD 3 (mix (sn (gσ S)) z en)), (A 33, .inr (5, [.ref (A 34), .int (bI (gon S)), .int (nI (gwh S)), .double (glv S), .int (nI (gev S))])), (A 34, dA cD 8 (gtm S))] H := hP
    refine lv_aload_n hx hb dX6_take_64 rfl (lv_at hl 1 rfl) ?_
    refine lv_iload_n hx hb dX6_take_65 rfl (lv_at hl 2 rfl) ?_
    refine lv_iconst (v := nI 3) hx hb dX6_take_66 (by decide) ?_
    refine lv_icmp_ne (tgt := 74) hx hb dX6_take_67 (by decide) (fun c_67 => ?_) (fun c_67 => ?_)
    ·
      refine lv_iconst (v := nI 0) hx hb dX6_take_74 (by decide) ?_
      refine xeqi (y := bI (decide (mm = 3))) (bI0 (df (fun h => c_67 (by rw [h])))) ?_
      refine pX6 hx hb hg hown hI hP hd rfl hS 0 rfl 11 rfl mF_X6_197 rfl (bI_n _) (bI_f _) (Nat.le_of_ble_eq_true rfl) pm0 dX6_take_75 (fun H locs hP hS => ?_)
      have hP : va_P D vwCl [(A 0, .inr (6, [.ref (A 1), .ref (A 2), .ref (A 3), .ref (A 8), .ref (A 28), .ref (A 33), .double tb, .double (gh S), .double (gtol S), .int ((gtk S) + (nI 1)), .int (grf S), .int (bI (decide (mm = 3)))])), (A 1, dA cD 3 (mix (sn (gσ S)) z (gy S))), (A 3, .inr (0, [.ref (A 4), .ref (A 5), .ref (A 6), .ref (A 7), .int (nI (sn (gσ S))), .int (nI (sc (gσ S)))])), (A 4, iA cI 10 (so (gσ S))), (A 5, dA cD 10 (sk (gσ S))), (A 6, iA cI 10 (sl (gσ S))), (A 7, iA cI 10 (sr (gσ S))), (A 8, .inr (4, [.ref (A 3), .ref (A 15), .ref (A 22), .ref (A 9), .ref (A 10), .ref (A 11), .ref (A 12), .ref (A 1), .ref (A 13), .ref (A 14), .double (gt S), .double r, .double te])), (A 13, dA cD 3 (mix (sn (gσ S)) (fs (gσ S) (gt S) (gy S)) (v 4))), (A 14, dA cD 3 Z1), (A 28, .inr (2, [.ref (A 3), .ref (A 29), .ref (A 30), .ref (A 31), .ref (A 32), .int (nI 1), .double (gt S), .double r])), (A 29, dA cD 3 (mix (sn (gσ S)) (fs (gσ S) (FP.dadd (gt S) r) z) (gq S))), (A 30, dA cD 3 (mix (sn (gσ S)) (gy S) (gy0 S))), (A 31, dA cD 3 (mix (sn (gσ S)) (fs (gσ S) (gt S) (gy S)) (gg S))), (A 32, dA cD 3 (mix (sn (gσ S)) z en)), (A 33, .inr (5, [.ref (A 34), .int (bI (gon S)), .int (nI (gwh S)), .double (glv S), .int (nI (gev S))])), (A 34, dA cD 8 (gtm S))] H := hP
      refine lv_aload_n hx hb dX6_take_78 rfl (lv_at hl 1 rfl) ?_
      refine gX6 hx hb hg hown hI hP 0 rfl 5 rfl mF_X6_44 rfl dX6_take_79 ?_
      refine lv_aload_n hx hb dX6_take_82 rfl (lv_at hl 1 rfl) ?_
      refine gX6 hx hb hg hown hI hP 0 rfl 4 rfl mF_X6_37 rfl dX6_take_83 ?_
      have hwn : gon S = true → gwh S < sn (gσ S) := fun h => (hv.2.2.2.2.2.2.2.1 h).1
      refine xcv (xV (As := [.ref (A 28)]) (rest := []) hx hb hml hown hg (c_look l D cD cI cM cL A (gt S) r (mix (sn (gσ S)) (fs (gσ S) (FP.dadd (gt S) r) z) (gq S)) (mix (sn (gσ S)) (gy S) (gy0 S)) (mix (sn (gσ S)) (fs (gσ S) (gt S) (gy S)) (gg S)) (mix (sn (gσ S)) z en) true (gon S) (gwh S) (glv S) (gev S) (gtm S) (by have := hv.2.2.2.2.2.2.2.2; omega) (fun h => ⟨Nat.lt_of_lt_of_le (hwn h) hn, by rw [mix_lt (hwn h), mix_lt (hwn h), mix_lt (hwn h), mix_lt (hwn h)]; exact ⟨hk.2.2.2 _ (hwn h), f0_bd hk, hzb _ (hwn h), fs_bd (K := 20) hk.1 ((t2_bd hk hr0).up (by decide)) hzb (by decide), hr0, hk.2.1, (hv.2.2.2.2.2.2.2.1 h).2⟩⟩)) mM_X6_235 ok_X5_look rfl rfl ⟨Nat.le_of_ble_eq_true rfl, Nat.le_of_ble_eq_true rfl⟩ hI hP hd rfl [15, 16, 10, 11, 12, 13, 14] rfl rfl rfl rfl rfl hl.1 rfl (Nat.le_of_ble_eq_true rfl) dX6_take_86 ⟨Nat.zero_le _, Nat.zero_le _⟩) hP hd hS (fa1 (pmS (pmS (pmS (pmS (pmS (pmS (pmS pm0))))))) (fa1 (pmS (pmS (pmS (pmS (pmS (pmS (pmS (pmS pm0)))))))) fa0)) [15, 16] rfl rfl (fun _ => rfl) (fun _u H locs hu hP hS => ?_)
      have hP : va_P D vwCl [(A 0, .inr (6, [.ref (A 1), .ref (A 2), .ref (A 3), .ref (A 8), .ref (A 28), .ref (A 33), .double tb, .double (gh S), .double (gtol S), .int ((gtk S) + (nI 1)), .int (grf S), .int (bI (decide (mm = 3)))])), (A 1, dA cD 3 (mix (sn (gσ S)) z (gy S))), (A 3, .inr (0, [.ref (A 4), .ref (A 5), .ref (A 6), .ref (A 7), .int (nI (sn (gσ S))), .int (nI (sc (gσ S)))])), (A 4, iA cI 10 (so (gσ S))), (A 5, dA cD 10 (sk (gσ S))), (A 6, iA cI 10 (sl (gσ S))), (A 7, iA cI 10 (sr (gσ S))), (A 8, .inr (4, [.ref (A 3), .ref (A 15), .ref (A 22), .ref (A 9), .ref (A 10), .ref (A 11), .ref (A 12), .ref (A 1), .ref (A 13), .ref (A 14), .double (gt S), .double r, .double te])), (A 13, dA cD 3 (mix (sn (gσ S)) (fs (gσ S) (gt S) (gy S)) (v 4))), (A 14, dA cD 3 Z1), (A 28, .inr (2, [.ref (A 3), .ref (A 29), .ref (A 30), .ref (A 31), .ref (A 32), .int (nI 1), .double (gt S), .double r])), (A 29, dA cD 3 (mix (sn (gσ S)) (fs (gσ S) (FP.dadd (gt S) r) z) (gq S))), (A 30, dA cD 3 (mix (sn (gσ S)) (gy S) (gy0 S))), (A 31, dA cD 3 (mix (sn (gσ S)) (fs (gσ S) (gt S) (gy S)) (gg S))), (A 32, dA cD 3 (mix (sn (gσ S)) z en)), (A 33, .inr (5, [.ref (A 34), .int (bI (gon S)), .int (nI (gwh S)), .double (glv S), .int (nI (lookN (gon S) (glv S) ((mix (sn (gσ S)) (gy S) (gy0 S)) (gwh S)) ((mix (sn (gσ S)) z en) (gwh S)) (gev S)))])), (A 34, dA cD 8 (lookT (gon S) (glv S) ((mix (sn (gσ S)) (gy S) (gy0 S)) (gwh S)) ((mix (sn (gσ S)) (fs (gσ S) (gt S) (gy S)) (gg S)) (gwh S)) ((mix (sn (gσ S)) z en) (gwh S)) ((mix (sn (gσ S)) (fs (gσ S) (FP.dadd (gt S) r) z) (gq S)) (gwh S)) r (gt S) (gev S) (gtm S)))] H := hP
      have eN : lookN (gon S) (glv S) ((mix (sn (gσ S)) (gy S) (gy0 S)) (gwh S)) ((mix (sn (gσ S)) z en) (gwh S)) (gev S) = gev (takeS S mm r z tb) := look_eqN hwn
      have eT : lookT (gon S) (glv S) ((mix (sn (gσ S)) (gy S) (gy0 S)) (gwh S)) ((mix (sn (gσ S)) (fs (gσ S) (gt S) (gy S)) (gg S)) (gwh S)) ((mix (sn (gσ S)) z en) (gwh S)) ((mix (sn (gσ S)) (fs (gσ S) (FP.dadd (gt S) r) z) (gq S)) (gwh S)) r (gt S) (gev S) (gtm S) = gtm (takeS S mm r z tb) := look_eqT hwn
      rw [eN, eT] at hP
      exact W.vret hx hb hr (fun tS hTS hWS => ⟨(), rfl, trivial, by rw [hTS]; exact hP.sub [0, 1, 10, 11, 12, 13, 14, 15, 16] rfl, hS.F hTS⟩) hS.2.2 dX6_take_89
    ·
      refine lv_iconst (v := nI 1) hx hb dX6_take_70 (by decide) ?_
      refine lv_goto (tgt := 75) hx hb dX6_take_71 (by decide) ?_
      refine xeqi (y := bI (decide (mm = 3))) (bI1 (dt ((nI_eq (by omega) (by decide)).mp c_67))) ?_
      refine pX6 hx hb hg hown hI hP hd rfl hS 0 rfl 11 rfl mF_X6_197 rfl (bI_n _) (bI_f _) (Nat.le_of_ble_eq_true rfl) pm0 dX6_take_75 (fun H locs hP hS => ?_)
      have hP : va_P D vwCl [(A 0, .inr (6, [.ref (A 1), .ref (A 2), .ref (A 3), .ref (A 8), .ref (A 28), .ref (A 33), .double tb, .double (gh S), .double (gtol S), .int ((gtk S) + (nI 1)), .int (grf S), .int (bI (decide (mm = 3)))])), (A 1, dA cD 3 (mix (sn (gσ S)) z (gy S))), (A 3, .inr (0, [.ref (A 4), .ref (A 5), .ref (A 6), .ref (A 7), .int (nI (sn (gσ S))), .int (nI (sc (gσ S)))])), (A 4, iA cI 10 (so (gσ S))), (A 5, dA cD 10 (sk (gσ S))), (A 6, iA cI 10 (sl (gσ S))), (A 7, iA cI 10 (sr (gσ S))), (A 8, .inr (4, [.ref (A 3), .ref (A 15), .ref (A 22), .ref (A 9), .ref (A 10), .ref (A 11), .ref (A 12), .ref (A 1), .ref (A 13), .ref (A 14), .double (gt S), .double r, .double te])), (A 13, dA cD 3 (mix (sn (gσ S)) (fs (gσ S) (gt S) (gy S)) (v 4))), (A 14, dA cD 3 Z1), (A 28, .inr (2, [.ref (A 3), .ref (A 29), .ref (A 30), .ref (A 31), .ref (A 32), .int (nI 1), .double (gt S), .double r])), (A 29, dA cD 3 (mix (sn (gσ S)) (fs (gσ S) (FP.dadd (gt S) r) z) (gq S))), (A 30, dA cD 3 (mix (sn (gσ S)) (gy S) (gy0 S))), (A 31, dA cD 3 (mix (sn (gσ S)) (fs (gσ S) (gt S) (gy S)) (gg S))), (A 32, dA cD 3 (mix (sn (gσ S)) z en)), (A 33, .inr (5, [.ref (A 34), .int (bI (gon S)), .int (nI (gwh S)), .double (glv S), .int (nI (gev S))])), (A 34, dA cD 8 (gtm S))] H := hP
      refine lv_aload_n hx hb dX6_take_78 rfl (lv_at hl 1 rfl) ?_
      refine gX6 hx hb hg hown hI hP 0 rfl 5 rfl mF_X6_44 rfl dX6_take_79 ?_
      refine xpc (q := 82) rfl ?_
      refine lv_aload_n hx hb dX6_take_82 rfl (lv_at hl 1 rfl) ?_
      refine gX6 hx hb hg hown hI hP 0 rfl 4 rfl mF_X6_37 rfl dX6_take_83 ?_
      have hwn : gon S = true → gwh S < sn (gσ S) := fun h => (hv.2.2.2.2.2.2.2.1 h).1
      refine xcv (xV (As := [.ref (A 28)]) (rest := []) hx hb hml hown hg (c_look l D cD cI cM cL A (gt S) r (mix (sn (gσ S)) (fs (gσ S) (FP.dadd (gt S) r) z) (gq S)) (mix (sn (gσ S)) (gy S) (gy0 S)) (mix (sn (gσ S)) (fs (gσ S) (gt S) (gy S)) (gg S)) (mix (sn (gσ S)) z en) true (gon S) (gwh S) (glv S) (gev S) (gtm S) (by have := hv.2.2.2.2.2.2.2.2; omega) (fun h => ⟨Nat.lt_of_lt_of_le (hwn h) hn, by rw [mix_lt (hwn h), mix_lt (hwn h), mix_lt (hwn h), mix_lt (hwn h)]; exact ⟨hk.2.2.2 _ (hwn h), f0_bd hk, hzb _ (hwn h), fs_bd (K := 20) hk.1 ((t2_bd hk hr0).up (by decide)) hzb (by decide), hr0, hk.2.1, (hv.2.2.2.2.2.2.2.1 h).2⟩⟩)) mM_X6_235 ok_X5_look rfl rfl ⟨Nat.le_of_ble_eq_true rfl, Nat.le_of_ble_eq_true rfl⟩ hI hP hd rfl [15, 16, 10, 11, 12, 13, 14] rfl rfl rfl rfl rfl hl.1 rfl (Nat.le_of_ble_eq_true rfl) dX6_take_86 ⟨Nat.zero_le _, Nat.zero_le _⟩) hP hd hS (fa1 (pmS (pmS (pmS (pmS (pmS (pmS (pmS pm0))))))) (fa1 (pmS (pmS (pmS (pmS (pmS (pmS (pmS (pmS pm0)))))))) fa0)) [15, 16] rfl rfl (fun _ => rfl) (fun _u H locs hu hP hS => ?_)
      have hP : va_P D vwCl [(A 0, .inr (6, [.ref (A 1), .ref (A 2), .ref (A 3), .ref (A 8), .ref (A 28), .ref (A 33), .double tb, .double (gh S), .double (gtol S), .int ((gtk S) + (nI 1)), .int (grf S), .int (bI (decide (mm = 3)))])), (A 1, dA cD 3 (mix (sn (gσ S)) z (gy S))), (A 3, .inr (0, [.ref (A 4), .ref (A 5), .ref (A 6), .ref (A 7), .int (nI (sn (gσ S))), .int (nI (sc (gσ S)))])), (A 4, iA cI 10 (so (gσ S))), (A 5, dA cD 10 (sk (gσ S))), (A 6, iA cI 10 (sl (gσ S))), (A 7, iA cI 10 (sr (gσ S))), (A 8, .inr (4, [.ref (A 3), .ref (A 15), .ref (A 22), .ref (A 9), .ref (A 10), .ref (A 11), .ref (A 12), .ref (A 1), .ref (A 13), .ref (A 14), .double (gt S), .double r, .double te])), (A 13, dA cD 3 (mix (sn (gσ S)) (fs (gσ S) (gt S) (gy S)) (v 4))), (A 14, dA cD 3 Z1), (A 28, .inr (2, [.ref (A 3), .ref (A 29), .ref (A 30), .ref (A 31), .ref (A 32), .int (nI 1), .double (gt S), .double r])), (A 29, dA cD 3 (mix (sn (gσ S)) (fs (gσ S) (FP.dadd (gt S) r) z) (gq S))), (A 30, dA cD 3 (mix (sn (gσ S)) (gy S) (gy0 S))), (A 31, dA cD 3 (mix (sn (gσ S)) (fs (gσ S) (gt S) (gy S)) (gg S))), (A 32, dA cD 3 (mix (sn (gσ S)) z en)), (A 33, .inr (5, [.ref (A 34), .int (bI (gon S)), .int (nI (gwh S)), .double (glv S), .int (nI (lookN (gon S) (glv S) ((mix (sn (gσ S)) (gy S) (gy0 S)) (gwh S)) ((mix (sn (gσ S)) z en) (gwh S)) (gev S)))])), (A 34, dA cD 8 (lookT (gon S) (glv S) ((mix (sn (gσ S)) (gy S) (gy0 S)) (gwh S)) ((mix (sn (gσ S)) (fs (gσ S) (gt S) (gy S)) (gg S)) (gwh S)) ((mix (sn (gσ S)) z en) (gwh S)) ((mix (sn (gσ S)) (fs (gσ S) (FP.dadd (gt S) r) z) (gq S)) (gwh S)) r (gt S) (gev S) (gtm S)))] H := hP
      have eN : lookN (gon S) (glv S) ((mix (sn (gσ S)) (gy S) (gy0 S)) (gwh S)) ((mix (sn (gσ S)) z en) (gwh S)) (gev S) = gev (takeS S mm r z tb) := look_eqN hwn
      have eT : lookT (gon S) (glv S) ((mix (sn (gσ S)) (gy S) (gy0 S)) (gwh S)) ((mix (sn (gσ S)) (fs (gσ S) (gt S) (gy S)) (gg S)) (gwh S)) ((mix (sn (gσ S)) z en) (gwh S)) ((mix (sn (gσ S)) (fs (gσ S) (FP.dadd (gt S) r) z) (gq S)) (gwh S)) r (gt S) (gev S) (gtm S) = gtm (takeS S mm r z tb) := look_eqT hwn
      rw [eN, eT] at hP
      exact W.vret hx hb hr (fun tS hTS hWS => ⟨(), rfl, trivial, by rw [hTS]; exact hP.sub [0, 1, 10, 11, 12, 13, 14, 15, 16] rfl, hS.F hTS⟩) hS.2.2 dX6_take_89
