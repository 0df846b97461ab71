theorem f_IA : Bundle.fit eIA = true := by decide +kernel
theorem f_IS : Bundle.fit eIS = true := by decide +kernel
theorem f_AR : Bundle.fit eAR = true := by decide +kernel
theorem f_NS : Bundle.fit eNS = true := by decide +kernel
theorem st_54 : (54, "a system has 1 to 3 values") ∈ strT := List.mem_of_getElem? (i := 0) rfl
theorem st_66 : (66, "no such value or factor") ∈ strT := List.mem_of_getElem? (i := 1) rfl
theorem st_74 : (74, "c is not from -64.0 to 64.0") ∈ strT := List.mem_of_getElem? (i := 2) rfl
theorem st_82 : (82, "there are 10 terms") ∈ strT := List.mem_of_getElem? (i := 3) rfl
theorem st_98 : (98, "no such value, or it is not from -1000.0 to 1000.0") ∈ strT := List.mem_of_getElem? (i := 4) rfl
theorem st_104 : (104, "not above 0.0, or above 4.0") ∈ strT := List.mem_of_getElem? (i := 5) rfl
theorem st_116 : (116, "no such method") ∈ strT := List.mem_of_getElem? (i := 6) rfl
theorem st_127 : (127, "the step fails") ∈ strT := List.mem_of_getElem? (i := 7) rfl
theorem st_139 : (139, "no such method, or a time that can't be gone to") ∈ strT := List.mem_of_getElem? (i := 8) rfl
theorem st_147 : (147, "a step fails") ∈ strT := List.mem_of_getElem? (i := 9) rfl
theorem st_149 : (149, "the time is not reached in 100 steps") ∈ strT := List.mem_of_getElem? (i := 10) rfl
theorem st_151 : (151, "no such value, or the level is not from -1000.0 to 1000.0") ∈ strT := List.mem_of_getElem? (i := 11) rfl
theorem st_162 : (162, "no such event") ∈ strT := List.mem_of_getElem? (i := 12) rfl
theorem st_169 : (169, "no such value") ∈ strT := List.mem_of_getElem? (i := 13) rfl
theorem st_175 : (175, "no such value, or m is not from 0.0 to 1.0") ∈ strT := List.mem_of_getElem? (i := 14) rfl
theorem st_181 : (181, "there is no last step") ∈ strT := List.mem_of_getElem? (i := 15) rfl
/-! what each call does to the state, and what it answers: 0, or the place of its exception -/
def inV (S : St) (i : Int32) : Bool := decide (nI 0 ≤ i ∧ i < nI (sn (gσ S)))
def inF (S : St) (k : Int32) : Bool := decide ((nI 0 ≤ k ∧ k < nI (sn (gσ S))) ∨ k = nI 3 ∨ k = nI 4)
def wthn (x b : UInt64) : Bool := decide ((dgt x (FP.dneg b) ∨ deq x (FP.dneg b)) ∧ (dlt x b ∨ deq x b))
def szd (x : UInt64) : Bool := decide ((dgt x FP.dconst0) ∧ (dlt x k4 ∨ deq x k4))
def mth (i : Int32) : Bool := decide (nI 0 ≤ i ∧ i ≤ nI 5)
def sysS (S : St) (n : Nat) : St := ((n, 0, so (gσ S), sk (gσ S), sl (gσ S), sr (gσ S)), FP.dconst0, k0_125, gt0 S, gsp S, k0_125, glv S, mix 3 (fun _ => FP.dconst0) (gy S), gy0 S, gg S, gq S, gtm S, 0, gwh S, nI 0, nI 0, false, false, false)
def sysP (S : St) (n : Int32) : Nat × St := if nI 1 ≤ n ∧ n ≤ nI 3 then (0, sysS S n.toNatClampNeg) else (1, S)
def offS (S : St) : St := (gσ S, gt S, gh S, gt0 S, gsp S, gtol S, glv S, gy S, gy0 S, gg S, gq S, gtm S, gev S, gwh S, gtk S, grf S, false, false, gon S)
def valS (S : St) (i : Nat) (x : UInt64) : St := (gσ S, gt S, gh S, gt0 S, gsp S, gtol S, glv S, vf_upd (gy S) i x, gy0 S, gg S, gq S, gtm S, gev S, gwh S, gtk S, grf S, ggo S, gkn S, gon S)
def valP (S : St) (i : Int32) (x : UInt64) : Nat × St := if inV S i && wthn x k1000 then (0, offS (valS S i.toNatClampNeg x)) else (1, S)
def szS (S : St) (h x : UInt64) : St := (gσ S, gt S, h, gt0 S, gsp S, x, glv S, gy S, gy0 S, gg S, gq S, gtm S, gev S, gwh S, gtk S, grf S, ggo S, gkn S, gon S)
def szP (S : St) (h x : UInt64) : Nat × St := if szd h && szd x then (0, szS S h x) else (1, S)
def watS (S : St) (i : Nat) (x : UInt64) : St := (gσ S, gt S, gh S, gt0 S, gsp S, gtol S, x, gy S, gy0 S, gg S, gq S, gtm S, gev S, i, gtk S, grf S, ggo S, gkn S, true)
def watP (S : St) (i : Int32) (x : UInt64) : Nat × St := if inV S i && wthn x k1000 then (0, watS S i.toNatClampNeg x) else (1, S)
theorem inV_f {S : St} {i : Int32} (h : inV S i = false) : (inV S i && true) = false := by rw [h]; rfl
theorem inV_nat {S : St} {i : Int32} (hn : sn (gσ S) ≤ 3) (h : inV S i = true) : ∃ j : Nat, j < sn (gσ S) ∧ i = nI j ∧ i.toNatClampNeg = j := by
  obtain ⟨j, h1, h2⟩ := nI_in2 (n := sn (gσ S)) (by omega) (of_decide_eq_true h)
  exact ⟨j, h1, h2, by rw [h2]; exact nI_clamp (by omega)⟩
theorem n13 {n : Int32} (h : nI 1 ≤ n ∧ n ≤ nI 3) : n = nI n.toNatClampNeg := by
  have h1 := Int32.le_iff_toInt_le.mp h.1
  have h2 := Int32.le_iff_toInt_le.mp h.2
  have e1 : (nI 1).toInt = 1 := by decide
  have e3 : (nI 3).toInt = 3 := by decide
  rw [e1] at h1
  rw [e3] at h2
  obtain ⟨j, hj, hn⟩ := nI_in2 (n := 4) (k := n) (by decide) ⟨Int32.le_iff_toInt_le.mpr (by have : (nI 0).toInt = 0 := by decide
                                                                                            omega), Int32.lt_iff_toInt_lt.mpr (by have : (nI 4).toInt = 4 := by decide
                                                                                                                                  omega)⟩
  subst hn
  rw [nI_clamp (by omega)]
def stpP (S : St) (i : Int32) : Nat × St := if mth i then (match tryR S i.toNatClampNeg (gh S) with | none => (2, rfS S) | some z => (0, takeS S i.toNatClampNeg (gh S) z (FP.dadd (gt S) (gh S)))) else (1, S)
theorem stp_f {S : St} {i : Int32} (h : mth i = false) : stpP S i = (1, S) := by unfold stpP; rw [h]; rfl
theorem stp_n {S : St} {i : Int32} {j : Nat} (h : mth i = true) (hj : i.toNatClampNeg = j) (hz : tryR S j (gh S) = none) : stpP S i = (2, rfS S) := by unfold stpP; rw [h, hj, hz]; rfl
theorem stp_s {S : St} {i : Int32} {j : Nat} {z : Nat → UInt64} (h : mth i = true) (hj : i.toNatClampNeg = j) (hz : tryR S j (gh S) = some z) : stpP S i = (0, takeS S j (gh S) z (FP.dadd (gt S) (gh S))) := by unfold stpP; rw [h, hj, hz]; rfl
theorem mth_nat {i : Int32} (h : mth i = true) : ∃ j : Nat, j ≤ 5 ∧ i = nI j ∧ i.toNatClampNeg = j := by
  have h := of_decide_eq_true h
  have h2 := Int32.le_iff_toInt_le.mp h.2
  have e5 : (nI 5).toInt = 5 := by decide
  rw [e5] at h2
  have e6 : (nI 6).toInt = 6 := by decide
  obtain ⟨j, h1, h2⟩ := nI_in2 (n := 6) (k := i) (by decide) ⟨h.1, Int32.lt_iff_toInt_lt.mpr (by omega)⟩
  exact ⟨j, by omega, h2, by rw [h2]; exact nI_clamp (by omega)⟩
def trmS (S : St) (i : Int32) (x : UInt64) (a b : Int32) : St := ((sn (gσ S), sc (gσ S) + 1, upd (so (gσ S)) (sc (gσ S)) i, vf_upd (sk (gσ S)) (sc (gσ S)) x, upd (sl (gσ S)) (sc (gσ S)) a, upd (sr (gσ S)) (sc (gσ S)) b), gt S, gh S, gt0 S, gsp S, gtol S, glv S, gy S, gy0 S, gg S, gq S, gtm S, gev S, gwh S, gtk S, grf S, ggo S, gkn S, gon S)
def trmP (S : St) (i : Int32) (x : UInt64) (a b : Int32) : Nat × St := if inV S i && inF S a && inF S b && wthn x k64 then (if decide (10 ≤ sc (gσ S)) then (2, S) else (0, offS (trmS S i x a b))) else (1, S)
theorem ok_X6_system : okV yX6_system RX6 cX6_system 2 none 1 := ⟨mI_X6_system, mS_X6_system, mN_X6, mC_X6_system, by decide +kernel⟩
theorem ok_X6_term : okV yX6_term RX6 cX6_term 6 (some .int) 4 := ⟨mI_X6_term, mS_X6_term, mN_X6, mC_X6_term, by decide +kernel⟩
theorem ok_X6_value : okV yX6_value RX6 cX6_value 4 none 2 := ⟨mI_X6_value, mS_X6_value, mN_X6, mC_X6_value, by decide +kernel⟩
theorem ok_X6_size : okV yX6_size RX6 cX6_size 5 none 2 := ⟨mI_X6_size, mS_X6_size, mN_X6, mC_X6_size, by decide +kernel⟩
theorem ok_X6_step : okV yX6_step RX6 cX6_step 2 none 1 := ⟨mI_X6_step, mS_X6_step, mN_X6, mC_X6_step, by decide +kernel⟩
theorem ok_X6_go : okV yX6_go RX6 cX6_go 6 (some .int) 2 := ⟨mI_X6_go, mS_X6_go, mN_X6, mC_X6_go, by decide +kernel⟩
theorem ok_X6_watch : okV yX6_watch RX6 cX6_watch 4 none 2 := ⟨mI_X6_watch, mS_X6_watch, mN_X6, mC_X6_watch, by decide +kernel⟩
theorem ok_X6_event : okV yX6_event RX6 cX6_event 2 (some .double) 1 := ⟨mI_X6_event, mS_X6_event, mN_X6, mC_X6_event, by decide +kernel⟩
theorem ok_X6_at : okV yX6_at RX6 cX6_at 2 (some .double) 1 := ⟨mI_X6_at, mS_X6_at, mN_X6, mC_X6_at, by decide +kernel⟩
theorem ok_X6_derivative : okV yX6_derivative RX6 cX6_derivative 2 (some .double) 1 := ⟨mI_X6_derivative, mS_X6_derivative, mN_X6, mC_X6_derivative, by decide +kernel⟩
theorem ok_X6_between : okV yX6_between RX6 cX6_between 4 (some .double) 2 := ⟨mI_X6_between, mS_X6_between, mN_X6, mC_X6_between, by decide +kernel⟩
set_option maxHeartbeats 4000000 in
set_option maxRecDepth 100000 in
theorem c_afresh (l : Launch) (D : va_G) (cD cI cM cL : ClassId) (A : Nat → Nat) (S : St) (v : Nat → Nat → UInt64) (n : Nat)  : Met l yX6_startAfresh (Cond.code yX6_startAfresh cX6_startAfresh 3 none :: lw_good) { frames := 1, cells := 0, slots := 0, locals := 21 } (xPc D (tyL cD cI cM cL) [.ref (A 0), .int (nI n)] [(A 0, .inr (6, [.ref (A 1), .ref (A 2), .ref (A 3), .ref (A 8), .ref (A 28), .ref (A 33), .double (gt S), .double (gh S), .double (gtol S), .int (gtk S), .int (grf S), .int (bI (ggo S))])), (A 1, dA cD 3 (gy S)), (A 3, .inr (0, [.ref (A 4), .ref (A 5), .ref (A 6), .ref (A 7), .int (nI (sn (gσ S))), .int (nI (sc (gσ S)))])), (A 28, .inr (2, [.ref (A 3), .ref (A 29), .ref (A 30), .ref (A 31), .ref (A 32), .int (bI (gkn S)), .double (gt0 S), .double (gsp S)])), (A 33, .inr (5, [.ref (A 34), .int (bI (gon S)), .int (nI (gwh S)), .double (glv S), .int (nI (gev S))]))]) (xQ D [A 0, A 1, A 3, A 28, A 33] (fun (_ : Unit) => none) (fun (_ : Unit) => True) (fun (_ : Unit) => [(A 0, .inr (6, [.ref (A 1), .ref (A 2), .ref (A 3), .ref (A 8), .ref (A 28), .ref (A 33), .double (gt (sysS S n)), .double (gh (sysS S n)), .double (gtol (sysS S n)), .int (gtk (sysS S n)), .int (grf (sysS S n)), .int (bI (ggo (sysS S n)))])), (A 1, dA cD 3 (gy (sysS S n))), (A 3, .inr (0, [.ref (A 4), .ref (A 5), .ref (A 6), .ref (A 7), .int (nI (sn (gσ (sysS S n)))), .int (nI (sc (gσ (sysS S n))))])), (A 28, .inr (2, [.ref (A 3), .ref (A 29), .ref (A 30), .ref (A 31), .ref (A 32), .int (bI (gkn (sysS S n))), .double (gt0 (sysS S n)), .double (gsp (sysS S n))])), (A 33, .inr (5, [.ref (A 34), .int (bI (gon (sysS S n))), .int (nI (gwh (sysS S n))), .double (glv (sysS S n)), .int (nI (gev (sysS S n)))]))])) 0 0 (fun q => q ∈ ([A 0, A 1, A 3, A 28, A 33] : List Nat)) := by
  refine xofW (adr := [A 0, A 1, A 3, A 28, A 33]) (by decide) (Nat.le_of_ble_eq_true rfl) ?_
  intro p e s m below meth c ls hx hb hr hml hg hown hlk hI hP hd hS hl
  have hown : s.vm.findClass RX6 = some m.cls := hown
  have hd : dj [A 0, A 1, A 3, A 28, A 33] := hd
  have hl : lv_has ls 3 [(0, .ref (A 0)), (1, .int (nI n))] := hl
  refine lv_aload_n hx hb dX6_startAfresh_0 rfl (lv_at hl 0 rfl) ?_
  refine gX6 hx hb hg hown hI hP 0 rfl 2 rfl mF_X6_19 rfl dX6_startAfresh_1 ?_
  refine lv_iload_n hx hb dX6_startAfresh_4 rfl (lv_at hl 1 rfl) ?_
  refine xcv (xV (As := [.int (nI n)]) (rest := []) hx hb hml hown hg (c_clear l D cD cI cM cL (A 3) (A 4) (A 5) (A 6) (A 7) (nI (sn (gσ S))) (nI (sc (gσ S))) (nI n)) mM_X6_190 ok_X0_clear rfl rfl ⟨Nat.le_of_ble_eq_true rfl, Nat.le_of_ble_eq_true rfl⟩ hI hP hd rfl [2] rfl rfl rfl rfl rfl hl.1 rfl (Nat.le_of_ble_eq_true rfl) dX6_startAfresh_5 ⟨Nat.zero_le _, Nat.zero_le _⟩) hP hd hS (fa1 (pmS (pmS pm0)) fa0) [2] rfl rfl (fun _ => rfl) (fun _u H locs hu hP hS => ?_)
  have hP : va_P D vwCl [(A 0, .inr (6, [.ref (A 1), .ref (A 2), .ref (A 3), .ref (A 8), .ref (A 28), .ref (A 33), .double (gt S), .double (gh S), .double (gtol S), .int (gtk S), .int (grf S), .int (bI (ggo S))])), (A 1, dA cD 3 (gy S)), (A 3, .inr (0, [.ref (A 4), .ref (A 5), .ref (A 6), .ref (A 7), .int (nI n), .int (nI 0)])), (A 28, .inr (2, [.ref (A 3), .ref (A 29), .ref (A 30), .ref (A 31), .ref (A 32), .int (bI (gkn S)), .double (gt0 S), .double (gsp S)])), (A 33, .inr (5, [.ref (A 34), .int (bI (gon S)), .int (nI (gwh S)), .double (glv S), .int (nI (gev S))]))] H := hP
  refine lv_aload_n hx hb dX6_startAfresh_8 rfl (lv_at hl 0 rfl) ?_
  refine gX6 hx hb hg hown hI hP 0 rfl 5 rfl mF_X6_44 rfl dX6_startAfresh_9 ?_
  refine xcv (xV (As := []) (rest := []) hx hb hml hown hg (c_wclear l D cD cI cM cL A (gon S) (gwh S) (glv S) (gev S)) mM_X6_193 ok_X5_clear rfl rfl ⟨Nat.le_of_ble_eq_true rfl, Nat.le_of_ble_eq_true rfl⟩ hI hP hd rfl [4] rfl rfl rfl rfl rfl hl.1 rfl (Nat.le_of_ble_eq_true rfl) dX6_startAfresh_12 ⟨Nat.zero_le _, Nat.zero_le _⟩) hP hd hS (fa1 (pmS (pmS (pmS (pmS pm0)))) fa0) [4] rfl rfl (fun _ => rfl) (fun _u H locs hu hP hS => ?_)
  have hP : va_P D vwCl [(A 0, .inr (6, [.ref (A 1), .ref (A 2), .ref (A 3), .ref (A 8), .ref (A 28), .ref (A 33), .double (gt S), .double (gh S), .double (gtol S), .int (gtk S), .int (grf S), .int (bI (ggo S))])), (A 1, dA cD 3 (gy S)), (A 3, .inr (0, [.ref (A 4), .ref (A 5), .ref (A 6), .ref (A 7), .int (nI n), .int (nI 0)])), (A 28, .inr (2, [.ref (A 3), .ref (A 29), .ref (A 30), .ref (A 31), .ref (A 32), .int (bI (gkn S)), .double (gt0 S), .double (gsp S)])), (A 33, .inr (5, [.ref (A 34), .int (nI 0), .int (nI (gwh S)), .double (glv S), .int (nI 0)]))] H := hP
  refine lv_iconst (v := nI 0) hx hb dX6_startAfresh_15 (by decide) ?_
  refine lv_istore_n (lv' := [(2, .int (nI 0)), (0, .ref (A 0)), (1, .int (nI n))]) hx hb dX6_startAfresh_16 rfl hl (by decide) rfl (fun ls hl => ?_)
  refine xfor (I := fun i H locs ls => ∃ (f' : Nat → UInt64), (f' = mix i (fun _ => FP.dconst0) (gy S)) ∧ va_P D vwCl [(A 0, .inr (6, [.ref (A 1), .ref (A 2), .ref (A 3), .ref (A 8), .ref (A 28), .ref (A 33), .double (gt S), .double (gh S), .double (gtol S), .int (gtk S), .int (grf S), .int (bI (ggo S))])), (A 1, dA cD 3 f'), (A 3, .inr (0, [.ref (A 4), .ref (A 5), .ref (A 6), .ref (A 7), .int (nI n), .int (nI 0)])), (A 28, .inr (2, [.ref (A 3), .ref (A 29), .ref (A 30), .ref (A 31), .ref (A 32), .int (bI (gkn S)), .double (gt0 S), .double (gsp S)])), (A 33, .inr (5, [.ref (A 34), .int (nI 0), .int (nI (gwh S)), .double (glv S), .int (nI 0)]))] H ∧ va_S (fun q => q ∈ ([A 0, A 1, A 3, A 28, A 33] : List Nat)) s.heap H locs ∧ lv_has ls 3 [(2, .int (nI i)), (0, .ref (A 0)), (1, .int (nI n))]) 3 0 ⟨_, (mix_0 _ _).symm, hP, hS, lv_sub hl [0, 1, 2] rfl⟩ (Nat.zero_le _) ?_ ?_
  ·
    intro i h_i ih H locs ls ⟨f', hf, hP, hS, hl⟩
    refine lv_iload_n hx hb dX6_startAfresh_17 rfl (lv_at hl 0 rfl) ?_
    refine lv_iconst (v := nI 3) hx hb dX6_startAfresh_18 (by decide) ?_
    refine lv_icmp_ge (tgt := 35) hx hb dX6_startAfresh_19 (by decide) (fun c_19 => absurd c_19 (nI_ge h_i (by omega))) (fun c_19 => ?_)
    refine lv_aload_n hx hb dX6_startAfresh_22 rfl (lv_at hl 1 rfl) ?_
    refine gX6 hx hb hg hown hI hP 0 rfl 0 rfl mF_X6_9 rfl dX6_startAfresh_23 ?_
    refine lv_iload_n hx hb dX6_startAfresh_26 rfl (lv_at hl 0 rfl) ?_
    refine lv_dconst0 hx hb dX6_startAfresh_27 ?_
    refine xpc (q := 28) rfl ?_
    refine xdast hx hb hI hP hd rfl hS 1 0 rfl rfl h_i (by decide) (pmS pm0) dX6_startAfresh_28 (fun H locs hP hS => ?_)
    have hP : va_P D vwCl [(A 0, .inr (6, [.ref (A 1), .ref (A 2), .ref (A 3), .ref (A 8), .ref (A 28), .ref (A 33), .double (gt S), .double (gh S), .double (gtol S), .int (gtk S), .int (grf S), .int (bI (ggo S))])), (A 1, dA cD 3 (vf_upd f' i FP.dconst0)), (A 3, .inr (0, [.ref (A 4), .ref (A 5), .ref (A 6), .ref (A 7), .int (nI n), .int (nI 0)])), (A 28, .inr (2, [.ref (A 3), .ref (A 29), .ref (A 30), .ref (A 31), .ref (A 32), .int (bI (gkn S)), .double (gt0 S), .double (gsp S)])), (A 33, .inr (5, [.ref (A 34), .int (nI 0), .int (nI (gwh S)), .double (glv S), .int (nI 0)]))] H := hP
    refine lv_iinc (v := nI (i + 1)) (lv' := [(2, .int (nI (i + 1))), (0, .ref (A 0)), (1, .int (nI n))]) hx hb dX6_startAfresh_29 hl (k := 0) rfl (nI_1 i) (by decide) rfl (fun ls hl => ?_)
    refine lv_goto (tgt := 17) hx hb dX6_startAfresh_32 (by decide) ?_
    exact ih _ _ _ ⟨_, mix_s hf rfl, hP, hS, lv_sub hl [0, 1, 2] rfl⟩
  ·
    intro H locs ls ⟨f', hf, hP, hS, hl⟩
    refine lv_iload_n hx hb dX6_startAfresh_17 rfl (lv_at hl 0 rfl) ?_
    refine lv_iconst (v := nI 3) hx hb dX6_startAfresh_18 (by decide) ?_
    refine lv_icmp_ge (tgt := 35) hx hb dX6_startAfresh_19 (by decide) (fun c_19 => ?_) (fun c_19 => absurd (Int32.le_refl _) c_19)
    subst hf
    refine lv_aload_n hx hb dX6_startAfresh_35 rfl (lv_at hl 1 rfl) ?_
    refine lv_dconst0 hx hb dX6_startAfresh_36 ?_
    refine pX6 hx hb hg hown hI hP hd rfl hS 0 rfl 6 rfl mF_X6_130 rfl rfl rfl (Nat.le_of_ble_eq_true rfl) pm0 dX6_startAfresh_37 (fun H locs hP hS => ?_)
    have hP : va_P D vwCl [(A 0, .inr (6, [.ref (A 1), .ref (A 2), .ref (A 3), .ref (A 8), .ref (A 28), .ref (A 33), .double FP.dconst0, .double (gh S), .double (gtol S), .int (gtk S), .int (grf S), .int (bI (ggo S))])), (A 1, dA cD 3 (mix 3 (fun _ => FP.dconst0) (gy S))), (A 3, .inr (0, [.ref (A 4), .ref (A 5), .ref (A 6), .ref (A 7), .int (nI n), .int (nI 0)])), (A 28, .inr (2, [.ref (A 3), .ref (A 29), .ref (A 30), .ref (A 31), .ref (A 32), .int (bI (gkn S)), .double (gt0 S), .double (gsp S)])), (A 33, .inr (5, [.ref (A 34), .int (nI 0), .int (nI (gwh S)), .double (glv S), .int (nI 0)]))] H := hP
    refine lv_aload_n hx hb dX6_startAfresh_40 rfl (lv_at hl 1 rfl) ?_
    refine xpc (q := 41) rfl ?_
    refine lv_ldc2d (v := k0_125) hx hb hown (hg _ mD_X6_195) dX6_startAfresh_41 ?_
    refine pX6 hx hb hg hown hI hP hd rfl hS 0 rfl 7 rfl mF_X6_106 rfl rfl rfl (Nat.le_of_ble_eq_true rfl) pm0 dX6_startAfresh_44 (fun H locs hP hS => ?_)
    have hP : va_P D vwCl [(A 0, .inr (6, [.ref (A 1), .ref (A 2), .ref (A 3), .ref (A 8), .ref (A 28), .ref (A 33), .double FP.dconst0, .double k0_125, .double (gtol S), .int (gtk S), .int (grf S), .int (bI (ggo S))])), (A 1, dA cD 3 (mix 3 (fun _ => FP.dconst0) (gy S))), (A 3, .inr (0, [.ref (A 4), .ref (A 5), .ref (A 6), .ref (A 7), .int (nI n), .int (nI 0)])), (A 28, .inr (2, [.ref (A 3), .ref (A 29), .ref (A 30), .ref (A 31), .ref (A 32), .int (bI (gkn S)), .double (gt0 S), .double (gsp S)])), (A 33, .inr (5, [.ref (A 34), .int (nI 0), .int (nI (gwh S)), .double (glv S), .int (nI 0)]))] H := hP
    refine lv_aload_n hx hb dX6_startAfresh_47 rfl (lv_at hl 1 rfl) ?_
    refine lv_ldc2d (v := k0_125) hx hb hown (hg _ mD_X6_195) dX6_startAfresh_48 ?_
    refine pX6 hx hb hg hown hI hP hd rfl hS 0 rfl 8 rfl mF_X6_110 rfl rfl rfl (Nat.le_of_ble_eq_true rfl) pm0 dX6_startAfresh_51 (fun H locs hP hS => ?_)
    have hP : va_P D vwCl [(A 0, .inr (6, [.ref (A 1), .ref (A 2), .ref (A 3), .ref (A 8), .ref (A 28), .ref (A 33), .double FP.dconst0, .double k0_125, .double k0_125, .int (gtk S), .int (grf S), .int (bI (ggo S))])), (A 1, dA cD 3 (mix 3 (fun _ => FP.dconst0) (gy S))), (A 3, .inr (0, [.ref (A 4), .ref (A 5), .ref (A 6), .ref (A 7), .int (nI n), .int (nI 0)])), (A 28, .inr (2, [.ref (A 3), .ref (A 29), .ref (A 30), .ref (A 31), .ref (A 32), .int (bI (gkn S)), .double (gt0 S), .double (gsp S)])), (A 33, .inr (5, [.ref (A 34), .int (nI 0), .int (nI (gwh S)), .double (glv S), .int (nI 0)]))] H := hP
    refine lv_aload_n hx hb dX6_startAfresh_54 rfl (lv_at hl 1 rfl) ?_
    refine lv_iconst (v := nI 0) hx hb dX6_startAfresh_55 (by decide) ?_
    refine pX6 hx hb hg hown hI hP hd rfl hS 0 rfl 9 rfl mF_X6_141 rfl rfl rfl (Nat.le_of_ble_eq_true rfl) pm0 dX6_startAfresh_56 (fun H locs hP hS => ?_)
    have hP : va_P D vwCl [(A 0, .inr (6, [.ref (A 1), .ref (A 2), .ref (A 3), .ref (A 8), .ref (A 28), .ref (A 33), .double FP.dconst0, .double k0_125, .double k0_125, .int (nI 0), .int (grf S), .int (bI (ggo S))])), (A 1, dA cD 3 (mix 3 (fun _ => FP.dconst0) (gy S))), (A 3, .inr (0, [.ref (A 4), .ref (A 5), .ref (A 6), .ref (A 7), .int (nI n), .int (nI 0)])), (A 28, .inr (2, [.ref (A 3), .ref (A 29), .ref (A 30), .ref (A 31), .ref (A 32), .int (bI (gkn S)), .double (gt0 S), .double (gsp S)])), (A 33, .inr (5, [.ref (A 34), .int (nI 0), .int (nI (gwh S)), .double (glv S), .int (nI 0)]))] H := hP
    refine lv_aload_n hx hb dX6_startAfresh_59 rfl (lv_at hl 1 rfl) ?_
    refine lv_iconst (v := nI 0) hx hb dX6_startAfresh_60 (by decide) ?_
    refine pX6 hx hb hg hown hI hP hd rfl hS 0 rfl 10 rfl mF_X6_187 rfl rfl rfl (Nat.le_of_ble_eq_true rfl) pm0 dX6_startAfresh_61 (fun H locs hP hS => ?_)
    have hP : va_P D vwCl [(A 0, .inr (6, [.ref (A 1), .ref (A 2), .ref (A 3), .ref (A 8), .ref (A 28), .ref (A 33), .double FP.dconst0, .double k0_125, .double k0_125, .int (nI 0), .int (nI 0), .int (bI (ggo S))])), (A 1, dA cD 3 (mix 3 (fun _ => FP.dconst0) (gy S))), (A 3, .inr (0, [.ref (A 4), .ref (A 5), .ref (A 6), .ref (A 7), .int (nI n), .int (nI 0)])), (A 28, .inr (2, [.ref (A 3), .ref (A 29), .ref (A 30), .ref (A 31), .ref (A 32), .int (bI (gkn S)), .double (gt0 S), .double (gsp S)])), (A 33, .inr (5, [.ref (A 34), .int (nI 0), .int (nI (gwh S)), .double (glv S), .int (nI 0)]))] H := hP
    refine lv_aload_n hx hb dX6_startAfresh_64 rfl (lv_at hl 1 rfl) ?_
    refine xcv (xV (As := []) (rest := []) hx hb hml hown hg (c_breakOff l D cD cI cM cL A (fun _ => none) ((n, 0, so (gσ S), sk (gσ S), sl (gσ S), sr (gσ S)), FP.dconst0, k0_125, gt0 S, gsp S, k0_125, glv S, mix 3 (fun _ => FP.dconst0) (gy S), gy0 S, gg S, gq S, gtm S, 0, gwh S, nI 0, nI 0, ggo S, gkn S, false) (v 0) (gt S) (gt S) (gt S) v) mM_X6_89 ok_X6_breakOff rfl rfl ⟨Nat.le_of_ble_eq_true rfl, Nat.le_of_ble_eq_true rfl⟩ hI hP hd rfl [0, 3] rfl rfl rfl rfl rfl hl.1 rfl (Nat.le_of_ble_eq_true rfl) dX6_startAfresh_65 ⟨Nat.zero_le _, Nat.zero_le _⟩) hP hd hS (fa1 pm0 (fa1 (pmS (pmS (pmS pm0))) fa0)) [0, 3] rfl rfl (fun _ => rfl) (fun _u H locs hu hP hS => ?_)
    have hP : va_P D vwCl [(A 0, .inr (6, [.ref (A 1), .ref (A 2), .ref (A 3), .ref (A 8), .ref (A 28), .ref (A 33), .double FP.dconst0, .double k0_125, .double k0_125, .int (nI 0), .int (nI 0), .int (nI 0)])), (A 1, dA cD 3 (mix 3 (fun _ => FP.dconst0) (gy S))), (A 3, .inr (0, [.ref (A 4), .ref (A 5), .ref (A 6), .ref (A 7), .int (nI n), .int (nI 0)])), (A 28, .inr (2, [.ref (A 3), .ref (A 29), .ref (A 30), .ref (A 31), .ref (A 32), .int (nI 0), .double (gt0 S), .double (gsp S)])), (A 33, .inr (5, [.ref (A 34), .int (nI 0), .int (nI (gwh S)), .double (glv S), .int (nI 0)]))] H := hP
    exact W.vret hx hb hr (fun tS hTS hWS => ⟨(), rfl, trivial, by rw [hTS]; exact hP.sub [0, 1, 2, 3, 4] rfl, hS.F hTS⟩) hS.2.2 dX6_startAfresh_68

set_option maxHeartbeats 4000000 in
set_option maxRecDepth 100000 in
theorem c_system (l : Launch) (htr : l.stackTraces = false) (D : va_G) (cD cI cM cL : ClassId) (A : Nat → Nat) (S : St) (v : Nat → Nat → UInt64) (n : Int32)  : vx_Met l yX6_system (Cond.code yX6_system cX6_system 2 none :: lw_good) { frames := 6, cells := 1, slots := 6, locals := 82 } (xPt D (tyL cD cI cM cL) [.ref (A 0), .int n] [(A 0, .inr (6, [.ref (A 1), .ref (A 2), .ref (A 3), .ref (A 8), .ref (A 28), .ref (A 33), .double (gt S), .double (gh S), .double (gtol S), .int (gtk S), .int (grf S), .int (bI (ggo S))])), (A 1, dA cD 3 (gy S)), (A 3, .inr (0, [.ref (A 4), .ref (A 5), .ref (A 6), .ref (A 7), .int (nI (sn (gσ S))), .int (nI (sc (gσ S)))])), (A 28, .inr (2, [.ref (A 3), .ref (A 29), .ref (A 30), .ref (A 31), .ref (A 32), .int (bI (gkn S)), .double (gt0 S), .double (gsp S)])), (A 33, .inr (5, [.ref (A 34), .int (bI (gon S)), .int (nI (gwh S)), .double (glv S), .int (nI (gev S))]))] [A 0, A 1, A 3, A 28, A 33]) (xQ D [A 0, A 1, A 3, A 28, A 33] (fun (_ : Unit) => none) (fun (_ : Unit) => (sysP S n).1 = 0) (fun (_ : Unit) => [(A 0, .inr (6, [.ref (A 1), .ref (A 2), .ref (A 3), .ref (A 8), .ref (A 28), .ref (A 33), .double (gt (sysP S n).2), .double (gh (sysP S n).2), .double (gtol (sysP S n).2), .int (gtk (sysP S n).2), .int (grf (sysP S n).2), .int (bI (ggo (sysP S n).2))])), (A 1, dA cD 3 (gy (sysP S n).2)), (A 3, .inr (0, [.ref (A 4), .ref (A 5), .ref (A 6), .ref (A 7), .int (nI (sn (gσ (sysP S n).2))), .int (nI (sc (gσ (sysP S n).2)))])), (A 28, .inr (2, [.ref (A 3), .ref (A 29), .ref (A 30), .ref (A 31), .ref (A 32), .int (bI (gkn (sysP S n).2)), .double (gt0 (sysP S n).2), .double (gsp (sysP S n).2)])), (A 33, .inr (5, [.ref (A 34), .int (bI (gon (sysP S n).2)), .int (nI (gwh (sysP S n).2)), .double (glv (sysP S n).2), .int (nI (gev (sysP S n).2))]))])) (yX D [A 0, A 1, A 3, A 28, A 33] (fun (E_ : String) (_ : Unit) => (sysP S n).1 = 1 ∧ E_ = eIA) (fun (_ : Unit) => [(A 0, .inr (6, [.ref (A 1), .ref (A 2), .ref (A 3), .ref (A 8), .ref (A 28), .ref (A 33), .double (gt (sysP S n).2), .double (gh (sysP S n).2), .double (gtol (sysP S n).2), .int (gtk (sysP S n).2), .int (grf (sysP S n).2), .int (bI (ggo (sysP S n).2))])), (A 1, dA cD 3 (gy (sysP S n).2)), (A 3, .inr (0, [.ref (A 4), .ref (A 5), .ref (A 6), .ref (A 7), .int (nI (sn (gσ (sysP S n).2))), .int (nI (sc (gσ (sysP S n).2)))])), (A 28, .inr (2, [.ref (A 3), .ref (A 29), .ref (A 30), .ref (A 31), .ref (A 32), .int (bI (gkn (sysP S n).2)), .double (gt0 (sysP S n).2), .double (gsp (sysP S n).2)])), (A 33, .inr (5, [.ref (A 34), .int (bI (gon (sysP S n).2)), .int (nI (gwh (sysP S n).2)), .double (glv (sysP S n).2), .int (nI (gev (sysP S n).2))]))])) 1 6 (fun q => q ∈ ([A 0, A 1, A 3, A 28, A 33] : List Nat)) := by
  refine xofT (by decide) (Nat.le_of_ble_eq_true rfl) ?_
  intro p e s m below meth c ls hx hb hr hml hg hown hlk hex hI hP hd hT hZ hS hl
  have hown : s.vm.findClass RX6 = some m.cls := hown
  have hd : dj [A 0, A 1, A 3, A 28, A 33] := hd
  have hl : lv_has ls 2 [(0, .ref (A 0)), (1, .int n)] := hl
  refine lv_iload_n hx hb dX6_system_0 rfl (lv_at hl 1 rfl) ?_
  refine lv_iconst (v := nI 1) hx hb dX6_system_1 (by decide) ?_
  refine lv_icmp_lt (tgt := 10) hx hb dX6_system_2 (by decide) (fun c_2 => ?_) (fun c_2 => ?_)
  ·
    have ho : sysP S n = (1, S) := if_neg (fun h => absurd c_2 (Int32.not_lt.mpr h.1))
    rw [ho]
    refine xpc (q := 10) rfl ?_
    exact xthrow hx hb htr hown hg hT hZ hT.2.1.1 f_IA mK_X6_52 in_IA at_IA bt_IA ot_IA st_54 hP hS (hl.1.trans hml.symm) hex hlk ⟨Nat.le_of_ble_eq_true rfl, Nat.le_of_ble_eq_true rfl, Nat.le_of_ble_eq_true rfl, Nat.le_of_ble_eq_true rfl⟩ (fun tS hPt hFt => ⟨(), ⟨rfl, rfl⟩, hPt.sub [0, 1, 2, 3, 4] rfl, hFt⟩) dX6_system_10 dX6_system_13 dX6_system_14 dX6_system_16 dX6_system_19
  ·
    refine lv_iload_n hx hb dX6_system_5 rfl (lv_at hl 1 rfl) ?_
    refine lv_iconst (v := nI 3) hx hb dX6_system_6 (by decide) ?_
    refine lv_icmp_le (tgt := 20) hx hb dX6_system_7 (by decide) (fun c_7 => ?_) (fun c_7 => ?_)
    ·
      have hin : nI 1 ≤ n ∧ n ≤ nI 3 := ⟨Int32.not_lt.mp c_2, c_7⟩
      have ho : sysP S n = (0, sysS S n.toNatClampNeg) := if_pos hin
      rw [ho]
      obtain ⟨j, hj⟩ : ∃ j : Nat, n = nI j ∧ n.toNatClampNeg = j := ⟨n.toNatClampNeg, n13 hin, rfl⟩
      obtain ⟨hj, hj2⟩ := hj
      rw [hj2]
      subst hj
      have hl : lv_has ls 2 [(0, .ref (A 0)), (1, .int (nI j))] := hl
      refine lv_aload_n hx hb dX6_system_20 rfl (lv_at hl 0 rfl) ?_
      refine lv_iload_n hx hb dX6_system_21 rfl (lv_at hl 1 rfl) ?_
      refine xcv (xV (As := [.int (nI j)]) (rest := []) hx hb hml hown hg (c_afresh l D cD cI cM cL A S v j) mM_X6_48 ok_X6_startAfresh rfl rfl ⟨Nat.le_of_ble_eq_true rfl, Nat.le_of_ble_eq_true rfl⟩ hI hP hd rfl [0, 1, 2, 3, 4] rfl rfl rfl rfl rfl hl.1 rfl (Nat.le_of_ble_eq_true rfl) dX6_system_22 ⟨Nat.zero_le _, Nat.zero_le _⟩) hP hd hS (fa1 pm0 (fa1 (pmS pm0) (fa1 (pmS (pmS pm0)) (fa1 (pmS (pmS (pmS pm0))) (fa1 (pmS (pmS (pmS (pmS pm0)))) fa0))))) [0, 1, 2, 3, 4] rfl rfl (fun _ => rfl) (fun _u H locs hu hP hS => ?_)
      have hP : va_P D vwCl [(A 0, .inr (6, [.ref (A 1), .ref (A 2), .ref (A 3), .ref (A 8), .ref (A 28), .ref (A 33), .double (gt (sysS S j)), .double (gh (sysS S j)), .double (gtol (sysS S j)), .int (gtk (sysS S j)), .int (grf (sysS S j)), .int (bI (ggo (sysS S j)))])), (A 1, dA cD 3 (gy (sysS S j))), (A 3, .inr (0, [.ref (A 4), .ref (A 5), .ref (A 6), .ref (A 7), .int (nI (sn (gσ (sysS S j)))), .int (nI (sc (gσ (sysS S j))))])), (A 28, .inr (2, [.ref (A 3), .ref (A 29), .ref (A 30), .ref (A 31), .ref (A 32), .int (bI (gkn (sysS S j))), .double (gt0 (sysS S j)), .double (gsp (sysS S j))])), (A 33, .inr (5, [.ref (A 34), .int (bI (gon (sysS S j))), .int (nI (gwh (sysS S j))), .double (glv (sysS S j)), .int (nI (gev (sysS S j)))]))] H := hP
      exact W.widen (Nat.zero_le 1) (Nat.zero_le 6) (vx_ret (W.vret hx hb hr (fun tS hTS hWS => ⟨(), rfl, rfl, by rw [hTS]; exact hP.sub [0, 1, 2, 3, 4] rfl, hS.F hTS⟩) hS.2.2 dX6_system_25))
    ·
      have ho : sysP S n = (1, S) := if_neg (fun h => c_7 h.2)
      rw [ho]
      refine xpc (q := 10) rfl ?_
      exact xthrow hx hb htr hown hg hT hZ hT.2.1.1 f_IA mK_X6_52 in_IA at_IA bt_IA ot_IA st_54 hP hS (hl.1.trans hml.symm) hex hlk ⟨Nat.le_of_ble_eq_true rfl, Nat.le_of_ble_eq_true rfl, Nat.le_of_ble_eq_true rfl, Nat.le_of_ble_eq_true rfl⟩ (fun tS hPt hFt => ⟨(), ⟨rfl, rfl⟩, hPt.sub [0, 1, 2, 3, 4] rfl, hFt⟩) dX6_system_10 dX6_system_13 dX6_system_14 dX6_system_16 dX6_system_19

set_option maxHeartbeats 4000000 in
set_option maxRecDepth 100000 in
theorem c_value (l : Launch) (htr : l.stackTraces = false) (D : va_G) (cD cI cM cL : ClassId) (A : Nat → Nat) (S : St) (v : Nat → Nat → UInt64) (i : Int32) (x : UInt64) (hn : sn (gσ S) ≤ 3) : vx_Met l yX6_value (Cond.code yX6_value cX6_value 4 none :: lw_good) { frames := 6, cells := 1, slots := 6, locals := 82 } (xPt D (tyL cD cI cM cL) [.ref (A 0), .int i, .double x] [(A 0, .inr (6, [.ref (A 1), .ref (A 2), .ref (A 3), .ref (A 8), .ref (A 28), .ref (A 33), .double (gt S), .double (gh S), .double (gtol S), .int (gtk S), .int (grf S), .int (bI (ggo S))])), (A 1, dA cD 3 (gy S)), (A 3, .inr (0, [.ref (A 4), .ref (A 5), .ref (A 6), .ref (A 7), .int (nI (sn (gσ S))), .int (nI (sc (gσ S)))])), (A 28, .inr (2, [.ref (A 3), .ref (A 29), .ref (A 30), .ref (A 31), .ref (A 32), .int (bI (gkn S)), .double (gt0 S), .double (gsp S)]))] [A 0, A 1, A 28]) (xQ D [A 0, A 1, A 28] (fun (_ : Unit) => none) (fun (_ : Unit) => (valP S i x).1 = 0) (fun (_ : Unit) => [(A 0, .inr (6, [.ref (A 1), .ref (A 2), .ref (A 3), .ref (A 8), .ref (A 28), .ref (A 33), .double (gt (valP S i x).2), .double (gh (valP S i x).2), .double (gtol (valP S i x).2), .int (gtk (valP S i x).2), .int (grf (valP S i x).2), .int (bI (ggo (valP S i x).2))])), (A 1, dA cD 3 (gy (valP S i x).2)), (A 28, .inr (2, [.ref (A 3), .ref (A 29), .ref (A 30), .ref (A 31), .ref (A 32), .int (bI (gkn (valP S i x).2)), .double (gt0 (valP S i x).2), .double (gsp (valP S i x).2)]))])) (yX D [A 0, A 1, A 28] (fun (E_ : String) (_ : Unit) => (valP S i x).1 = 1 ∧ E_ = eIA) (fun (_ : Unit) => [(A 0, .inr (6, [.ref (A 1), .ref (A 2), .ref (A 3), .ref (A 8), .ref (A 28), .ref (A 33), .double (gt (valP S i x).2), .double (gh (valP S i x).2), .double (gtol (valP S i x).2), .int (gtk (valP S i x).2), .int (grf (valP S i x).2), .int (bI (ggo (valP S i x).2))])), (A 1, dA cD 3 (gy (valP S i x).2)), (A 28, .inr (2, [.ref (A 3), .ref (A 29), .ref (A 30), .ref (A 31), .ref (A 32), .int (bI (gkn (valP S i x).2)), .double (gt0 (valP S i x).2), .double (gsp (valP S i x).2)]))])) 1 6 (fun q => q ∈ ([A 0, A 1, A 28] : List Nat)) := by
  refine xofT (by decide) (Nat.le_of_ble_eq_true rfl) ?_
  intro p e s m below meth c ls hx hb hr hml hg hown hlk hex hI hP hd hT hZ hS hl
  have hown : s.vm.findClass RX6 = some m.cls := hown
  have hd : dj [A 0, A 1, A 3, A 28] := hd
  have hl : lv_has ls 4 [(0, .ref (A 0)), (1, .int i), (2, .double x)] := hl
  refine lv_aload_n hx hb dX6_value_0 rfl (lv_at hl 0 rfl) ?_
  refine gX6 hx hb hg hown hI hP 0 rfl 2 rfl mF_X6_19 rfl dX6_value_1 ?_
  refine lv_iload_n hx hb dX6_value_4 rfl (lv_at hl 1 rfl) ?_
  refine xci (xV (As := [.int i]) (rest := []) hx hb hml hown hg (c_hasValue l D cD cI cM cL (A 3) (A 4) (A 5) (A 6) (A 7) (gσ S) i) mM_X6_59 ok_X0_hasValue rfl rfl ⟨Nat.le_of_ble_eq_true rfl, Nat.le_of_ble_eq_true rfl⟩ hI hP hd rfl [2] rfl rfl rfl rfl rfl hl.1 rfl (Nat.le_of_ble_eq_true rfl) dX6_value_5 ⟨Nat.zero_le _, Nat.zero_le _⟩) hP hd hS fa0 [] rfl rfl (fun _ => rfl) (fun _u H locs hu hP hS => ?_)
  have hP : va_P D vwCl [(A 0, .inr (6, [.ref (A 1), .ref (A 2), .ref (A 3), .ref (A 8), .ref (A 28), .ref (A 33), .double (gt S), .double (gh S), .double (gtol S), .int (gtk S), .int (grf S), .int (bI (ggo S))])), (A 1, dA cD 3 (gy S)), (A 3, .inr (0, [.ref (A 4), .ref (A 5), .ref (A 6), .ref (A 7), .int (nI (sn (gσ S))), .int (nI (sc (gσ S)))])), (A 28, .inr (2, [.ref (A 3), .ref (A 29), .ref (A 30), .ref (A 31), .ref (A 32), .int (bI (gkn S)), .double (gt0 S), .double (gsp S)]))] H := hP
  refine lv_if_eq (tgt := 21) hx hb dX6_value_8 (by decide) (fun c_8 => ?_) (fun c_8 => ?_)
  ·
    have hv0 : inV S i = false := bI_eq0.mp c_8
    have ho : valP S i x = (1, S) := by unfold valP; rw [hv0]; rfl
    rw [ho]
    refine xpc (q := 21) rfl ?_
    exact xthrow hx hb htr hown hg hT hZ hT.2.1.1 f_IA mK_X6_52 in_IA at_IA bt_IA ot_IA st_98 hP hS (hl.1.trans hml.symm) hex hlk ⟨Nat.le_of_ble_eq_true rfl, Nat.le_of_ble_eq_true rfl, Nat.le_of_ble_eq_true rfl, Nat.le_of_ble_eq_true rfl⟩ (fun tS hPt hFt => ⟨(), ⟨rfl, rfl⟩, hPt.sub [0, 1, 3] rfl, hFt⟩) dX6_value_21 dX6_value_24 dX6_value_25 dX6_value_27 dX6_value_30
  ·
    have hv0 : inV S i = true := bI_ne0.mp c_8
    refine lv_dload_n hx hb dX6_value_11 rfl (lv_at hl 2 rfl) ?_
    refine lv_ldc2d (v := k1000) hx hb hown (hg _ mD_X6_96) dX6_value_12 ?_
    refine xci (xS (As := [.double x, .double k1000]) (rest := []) hx hb hml hown hg (c_isWithin l D cD cI cM cL x k1000) mM_X6_70 ok_X6_isWithin rfl rfl ⟨Nat.le_of_ble_eq_true rfl, Nat.le_of_ble_eq_true rfl⟩ hI hP hd rfl [] rfl rfl rfl hl.1 rfl (Nat.le_of_ble_eq_true rfl) dX6_value_15 ⟨Nat.zero_le _, Nat.zero_le _⟩) hP hd hS fa0 [] rfl rfl (fun _ => rfl) (fun _u H locs hu hP hS => ?_)
    have hP : va_P D vwCl [(A 0, .inr (6, [.ref (A 1), .ref (A 2), .ref (A 3), .ref (A 8), .ref (A 28), .ref (A 33), .double (gt S), .double (gh S), .double (gtol S), .int (gtk S), .int (grf S), .int (bI (ggo S))])), (A 1, dA cD 3 (gy S)), (A 3, .inr (0, [.ref (A 4), .ref (A 5), .ref (A 6), .ref (A 7), .int (nI (sn (gσ S))), .int (nI (sc (gσ S)))])), (A 28, .inr (2, [.ref (A 3), .ref (A 29), .ref (A 30), .ref (A 31), .ref (A 32), .int (bI (gkn S)), .double (gt0 S), .double (gsp S)]))] H := hP
    refine lv_if_ne (tgt := 31) hx hb dX6_value_18 (by decide) (fun c_18 => ?_) (fun c_18 => ?_)
    ·
      have hw0 : wthn x k1000 = true := bI_ne0.mp c_18
      obtain ⟨j, hj, hji, hj3⟩ := inV_nat hn hv0
      subst hji
      have hl : lv_has ls 4 [(0, .ref (A 0)), (1, .int (nI j)), (2, .double x)] := hl
      have ho : valP S (nI j) x = (0, offS (valS S j x)) := by unfold valP; rw [hv0, hw0, hj3]; rfl
      rw [ho]
      refine lv_aload_n hx hb dX6_value_31 rfl (lv_at hl 0 rfl) ?_
      refine gX6 hx hb hg hown hI hP 0 rfl 0 rfl mF_X6_9 rfl dX6_value_32 ?_
      refine lv_iload_n hx hb dX6_value_35 rfl (lv_at hl 1 rfl) ?_
      refine lv_dload_n hx hb dX6_value_36 rfl (lv_at hl 2 rfl) ?_
      refine xdast hx hb hI hP hd rfl hS 1 0 rfl rfl (Nat.lt_of_lt_of_le hj hn) (by decide) (pmS pm0) dX6_value_37 (fun H locs hP hS => ?_)
      have hP : va_P D vwCl [(A 0, .inr (6, [.ref (A 1), .ref (A 2), .ref (A 3), .ref (A 8), .ref (A 28), .ref (A 33), .double (gt S), .double (gh S), .double (gtol S), .int (gtk S), .int (grf S), .int (bI (ggo S))])), (A 1, dA cD 3 (vf_upd (gy S) j x)), (A 3, .inr (0, [.ref (A 4), .ref (A 5), .ref (A 6), .ref (A 7), .int (nI (sn (gσ S))), .int (nI (sc (gσ S)))])), (A 28, .inr (2, [.ref (A 3), .ref (A 29), .ref (A 30), .ref (A 31), .ref (A 32), .int (bI (gkn S)), .double (gt0 S), .double (gsp S)]))] H := hP
      refine lv_aload_n hx hb dX6_value_38 rfl (lv_at hl 0 rfl) ?_
      refine xcv (xV (As := []) (rest := []) hx hb hml hown hg (c_breakOff l D cD cI cM cL A (fun _ => none) (valS S j x) (v 0) x x x v) mM_X6_89 ok_X6_breakOff rfl rfl ⟨Nat.le_of_ble_eq_true rfl, Nat.le_of_ble_eq_true rfl⟩ hI hP hd rfl [0, 3] rfl rfl rfl rfl rfl hl.1 rfl (Nat.le_of_ble_eq_true rfl) dX6_value_39 ⟨Nat.zero_le _, Nat.zero_le _⟩) hP hd hS (fa1 pm0 (fa1 (pmS (pmS pm0)) fa0)) [0, 3] rfl rfl (fun _ => rfl) (fun _u H locs hu hP hS => ?_)
      have hP : va_P D vwCl [(A 0, .inr (6, [.ref (A 1), .ref (A 2), .ref (A 3), .ref (A 8), .ref (A 28), .ref (A 33), .double (gt S), .double (gh S), .double (gtol S), .int (gtk S), .int (grf S), .int (nI 0)])), (A 1, dA cD 3 (vf_upd (gy S) j x)), (A 3, .inr (0, [.ref (A 4), .ref (A 5), .ref (A 6), .ref (A 7), .int (nI (sn (gσ S))), .int (nI (sc (gσ S)))])), (A 28, .inr (2, [.ref (A 3), .ref (A 29), .ref (A 30), .ref (A 31), .ref (A 32), .int (nI 0), .double (gt0 S), .double (gsp S)]))] H := hP
      exact W.widen (Nat.zero_le 1) (Nat.zero_le 6) (vx_ret (W.vret hx hb hr (fun tS hTS hWS => ⟨(), rfl, rfl, by rw [hTS]; exact hP.sub [0, 1, 3] rfl, hS.F hTS⟩) hS.2.2 dX6_value_42))
    ·
      have hw0 : wthn x k1000 = false := bI_eq0.mp c_18
      have ho : valP S i x = (1, S) := by unfold valP; rw [hv0, hw0]; rfl
      rw [ho]
      refine xpc (q := 21) rfl ?_
      exact xthrow hx hb htr hown hg hT hZ hT.2.1.1 f_IA mK_X6_52 in_IA at_IA bt_IA ot_IA st_98 hP hS (hl.1.trans hml.symm) hex hlk ⟨Nat.le_of_ble_eq_true rfl, Nat.le_of_ble_eq_true rfl, Nat.le_of_ble_eq_true rfl, Nat.le_of_ble_eq_true rfl⟩ (fun tS hPt hFt => ⟨(), ⟨rfl, rfl⟩, hPt.sub [0, 1, 3] rfl, hFt⟩) dX6_value_21 dX6_value_24 dX6_value_25 dX6_value_27 dX6_value_30

set_option maxHeartbeats 4000000 in
set_option maxRecDepth 100000 in
theorem c_size (l : Launch) (htr : l.stackTraces = false) (D : va_G) (cD cI cM cL : ClassId) (A : Nat → Nat) (S : St) (v : Nat → Nat → UInt64) (x0 x1 : UInt64)  : vx_Met l yX6_size (Cond.code yX6_size cX6_size 5 none :: lw_good) { frames := 6, cells := 1, slots := 6, locals := 82 } (xPt D (tyL cD cI cM cL) [.ref (A 0), .double x0, .double x1] [(A 0, .inr (6, [.ref (A 1), .ref (A 2), .ref (A 3), .ref (A 8), .ref (A 28), .ref (A 33), .double (gt S), .double (gh S), .double (gtol S), .int (gtk S), .int (grf S), .int (bI (ggo S))]))] [A 0]) (xQ D [A 0] (fun (_ : Unit) => none) (fun (_ : Unit) => (szP S x0 x1).1 = 0) (fun (_ : Unit) => [(A 0, .inr (6, [.ref (A 1), .ref (A 2), .ref (A 3), .ref (A 8), .ref (A 28), .ref (A 33), .double (gt (szP S x0 x1).2), .double (gh (szP S x0 x1).2), .double (gtol (szP S x0 x1).2), .int (gtk (szP S x0 x1).2), .int (grf (szP S x0 x1).2), .int (bI (ggo (szP S x0 x1).2))]))])) (yX D [A 0] (fun (E_ : String) (_ : Unit) => (szP S x0 x1).1 = 1 ∧ E_ = eIA) (fun (_ : Unit) => [(A 0, .inr (6, [.ref (A 1), .ref (A 2), .ref (A 3), .ref (A 8), .ref (A 28), .ref (A 33), .double (gt (szP S x0 x1).2), .double (gh (szP S x0 x1).2), .double (gtol (szP S x0 x1).2), .int (gtk (szP S x0 x1).2), .int (grf (szP S x0 x1).2), .int (bI (ggo (szP S x0 x1).2))]))])) 1 6 (fun q => q ∈ ([A 0] : List Nat)) := by
  refine xofT (by decide) (Nat.le_of_ble_eq_true rfl) ?_
  intro p e s m below meth c ls hx hb hr hml hg hown hlk hex hI hP hd hT hZ hS hl
  have hown : s.vm.findClass RX6 = some m.cls := hown
  have hd : dj [A 0] := hd
  have hl : lv_has ls 5 [(0, .ref (A 0)), (1, .double x0), (3, .double x1)] := hl
  refine lv_dload_n hx hb dX6_size_0 rfl (lv_at hl 1 rfl) ?_
  refine xci (xS (As := [.double x0]) (rest := []) hx hb hml hown hg (c_isSize l D cD cI cM cL x0) mM_X6_100 ok_X6_isSize rfl rfl ⟨Nat.le_of_ble_eq_true rfl, Nat.le_of_ble_eq_true rfl⟩ hI hP hd rfl [] rfl rfl rfl hl.1 rfl (Nat.le_of_ble_eq_true rfl) dX6_size_1 ⟨Nat.zero_le _, Nat.zero_le _⟩) hP hd hS fa0 [] rfl rfl (fun _ => rfl) (fun _u H locs hu hP hS => ?_)
  have hP : va_P D vwCl [(A 0, .inr (6, [.ref (A 1), .ref (A 2), .ref (A 3), .ref (A 8), .ref (A 28), .ref (A 33), .double (gt S), .double (gh S), .double (gtol S), .int (gtk S), .int (grf S), .int (bI (ggo S))]))] H := hP
  refine lv_if_eq (tgt := 14) hx hb dX6_size_4 (by decide) (fun c_4 => ?_) (fun c_4 => ?_)
  ·
    have h0 : szd x0 = false := bI_eq0.mp c_4
    have ho : szP S x0 x1 = (1, S) := by unfold szP; rw [h0]; rfl
    rw [ho]
    refine xpc (q := 14) rfl ?_
    exact xthrow hx hb htr hown hg hT hZ hT.2.1.1 f_IA mK_X6_52 in_IA at_IA bt_IA ot_IA st_104 hP hS (hl.1.trans hml.symm) hex hlk ⟨Nat.le_of_ble_eq_true rfl, Nat.le_of_ble_eq_true rfl, Nat.le_of_ble_eq_true rfl, Nat.le_of_ble_eq_true rfl⟩ (fun tS hPt hFt => ⟨(), ⟨rfl, rfl⟩, hPt.sub [0] rfl, hFt⟩) dX6_size_14 dX6_size_17 dX6_size_18 dX6_size_20 dX6_size_23
  ·
    have h0 : szd x0 = true := bI_ne0.mp c_4
    refine lv_dload_n hx hb dX6_size_7 rfl (lv_at hl 2 rfl) ?_
    refine xci (xS (As := [.double x1]) (rest := []) hx hb hml hown hg (c_isSize l D cD cI cM cL x1) mM_X6_100 ok_X6_isSize rfl rfl ⟨Nat.le_of_ble_eq_true rfl, Nat.le_of_ble_eq_true rfl⟩ hI hP hd rfl [] rfl rfl rfl hl.1 rfl (Nat.le_of_ble_eq_true rfl) dX6_size_8 ⟨Nat.zero_le _, Nat.zero_le _⟩) hP hd hS fa0 [] rfl rfl (fun _ => rfl) (fun _u H locs hu hP hS => ?_)
    have hP : va_P D vwCl [(A 0, .inr (6, [.ref (A 1), .ref (A 2), .ref (A 3), .ref (A 8), .ref (A 28), .ref (A 33), .double (gt S), .double (gh S), .double (gtol S), .int (gtk S), .int (grf S), .int (bI (ggo S))]))] H := hP
    refine lv_if_ne (tgt := 24) hx hb dX6_size_11 (by decide) (fun c_11 => ?_) (fun c_11 => ?_)
    ·
      have h1 : szd x1 = true := bI_ne0.mp c_11
      have ho : szP S x0 x1 = (0, szS S x0 x1) := by unfold szP; rw [h0, h1]; rfl
      rw [ho]
      refine lv_aload_n hx hb dX6_size_24 rfl (lv_at hl 0 rfl) ?_
      refine lv_dload_n hx hb dX6_size_25 rfl (lv_at hl 1 rfl) ?_
      refine pX6 hx hb hg hown hI hP hd rfl hS 0 rfl 7 rfl mF_X6_106 rfl rfl rfl (Nat.le_of_ble_eq_true rfl) pm0 dX6_size_26 (fun H locs hP hS => ?_)
      have hP : va_P D vwCl [(A 0, .inr (6, [.ref (A 1), .ref (A 2), .ref (A 3), .ref (A 8), .ref (A 28), .ref (A 33), .double (gt S), .double x0, .double (gtol S), .int (gtk S), .int (grf S), .int (bI (ggo S))]))] H := hP
      refine lv_aload_n hx hb dX6_size_29 rfl (lv_at hl 0 rfl) ?_
      refine lv_dload_n hx hb dX6_size_30 rfl (lv_at hl 2 rfl) ?_
      refine pX6 hx hb hg hown hI hP hd rfl hS 0 rfl 8 rfl mF_X6_110 rfl rfl rfl (Nat.le_of_ble_eq_true rfl) pm0 dX6_size_31 (fun H locs hP hS => ?_)
      have hP : va_P D vwCl [(A 0, .inr (6, [.ref (A 1), .ref (A 2), .ref (A 3), .ref (A 8), .ref (A 28), .ref (A 33), .double (gt S), .double x0, .double x1, .int (gtk S), .int (grf S), .int (bI (ggo S))]))] H := hP
      exact W.widen (Nat.zero_le 1) (Nat.zero_le 6) (vx_ret (W.vret hx hb hr (fun tS hTS hWS => ⟨(), rfl, rfl, by rw [hTS]; exact hP.sub [0] rfl, hS.F hTS⟩) hS.2.2 dX6_size_34))
    ·
      have h1 : szd x1 = false := bI_eq0.mp c_11
      have ho : szP S x0 x1 = (1, S) := by unfold szP; rw [h0, h1]; rfl
      rw [ho]
      refine xpc (q := 14) rfl ?_
      exact xthrow hx hb htr hown hg hT hZ hT.2.1.1 f_IA mK_X6_52 in_IA at_IA bt_IA ot_IA st_104 hP hS (hl.1.trans hml.symm) hex hlk ⟨Nat.le_of_ble_eq_true rfl, Nat.le_of_ble_eq_true rfl, Nat.le_of_ble_eq_true rfl, Nat.le_of_ble_eq_true rfl⟩ (fun tS hPt hFt => ⟨(), ⟨rfl, rfl⟩, hPt.sub [0] rfl, hFt⟩) dX6_size_14 dX6_size_17 dX6_size_18 dX6_size_20 dX6_size_23

set_option maxHeartbeats 4000000 in
set_option maxRecDepth 100000 in
theorem c_watch (l : Launch) (htr : l.stackTraces = false) (D : va_G) (cD cI cM cL : ClassId) (A : Nat → Nat) (S : St) (v : Nat → Nat → UInt64) (i : Int32) (x : UInt64) (hn : sn (gσ S) ≤ 3) : vx_Met l yX6_watch (Cond.code yX6_watch cX6_watch 4 none :: lw_good) { frames := 6, cells := 1, slots := 6, locals := 82 } (xPt D (tyL cD cI cM cL) [.ref (A 0), .int i, .double x] [(A 0, .inr (6, [.ref (A 1), .ref (A 2), .ref (A 3), .ref (A 8), .ref (A 28), .ref (A 33), .double (gt S), .double (gh S), .double (gtol S), .int (gtk S), .int (grf S), .int (bI (ggo S))])), (A 3, .inr (0, [.ref (A 4), .ref (A 5), .ref (A 6), .ref (A 7), .int (nI (sn (gσ S))), .int (nI (sc (gσ S)))])), (A 33, .inr (5, [.ref (A 34), .int (bI (gon S)), .int (nI (gwh S)), .double (glv S), .int (nI (gev S))]))] [A 33]) (xQ D [A 33] (fun (_ : Unit) => none) (fun (_ : Unit) => (watP S i x).1 = 0) (fun (_ : Unit) => [(A 33, .inr (5, [.ref (A 34), .int (bI (gon (watP S i x).2)), .int (nI (gwh (watP S i x).2)), .double (glv (watP S i x).2), .int (nI (gev (watP S i x).2))]))])) (yX D [A 33] (fun (E_ : String) (_ : Unit) => (watP S i x).1 = 1 ∧ E_ = eIA) (fun (_ : Unit) => [(A 33, .inr (5, [.ref (A 34), .int (bI (gon (watP S i x).2)), .int (nI (gwh (watP S i x).2)), .double (glv (watP S i x).2), .int (nI (gev (watP S i x).2))]))])) 1 6 (fun q => q ∈ ([A 33] : List Nat)) := by
  refine xofT (by decide) (Nat.le_of_ble_eq_true rfl) ?_
  intro p e s m below meth c ls hx hb hr hml hg hown hlk hex hI hP hd hT hZ hS hl
  have hown : s.vm.findClass RX6 = some m.cls := hown
  have hd : dj [A 0, A 3, A 33] := hd
  have hl : lv_has ls 4 [(0, .ref (A 0)), (1, .int i), (2, .double x)] := hl
  refine lv_aload_n hx hb dX6_watch_0 rfl (lv_at hl 0 rfl) ?_
  refine gX6 hx hb hg hown hI hP 0 rfl 2 rfl mF_X6_19 rfl dX6_watch_1 ?_
  refine lv_iload_n hx hb dX6_watch_4 rfl (lv_at hl 1 rfl) ?_
  refine xci (xV (As := [.int i]) (rest := []) hx hb hml hown hg (c_hasValue l D cD cI cM cL (A 3) (A 4) (A 5) (A 6) (A 7) (gσ S) i) mM_X6_59 ok_X0_hasValue rfl rfl ⟨Nat.le_of_ble_eq_true rfl, Nat.le_of_ble_eq_true rfl⟩ hI hP hd rfl [1] rfl rfl rfl rfl rfl hl.1 rfl (Nat.le_of_ble_eq_true rfl) dX6_watch_5 ⟨Nat.zero_le _, Nat.zero_le _⟩) hP hd hS fa0 [] rfl rfl (fun _ => rfl) (fun _u H locs hu hP hS => ?_)
  have hP : va_P D vwCl [(A 0, .inr (6, [.ref (A 1), .ref (A 2), .ref (A 3), .ref (A 8), .ref (A 28), .ref (A 33), .double (gt S), .double (gh S), .double (gtol S), .int (gtk S), .int (grf S), .int (bI (ggo S))])), (A 3, .inr (0, [.ref (A 4), .ref (A 5), .ref (A 6), .ref (A 7), .int (nI (sn (gσ S))), .int (nI (sc (gσ S)))])), (A 33, .inr (5, [.ref (A 34), .int (bI (gon S)), .int (nI (gwh S)), .double (glv S), .int (nI (gev S))]))] H := hP
  refine lv_if_eq (tgt := 21) hx hb dX6_watch_8 (by decide) (fun c_8 => ?_) (fun c_8 => ?_)
  ·
    have hv0 : inV S i = false := bI_eq0.mp c_8
    have ho : watP S i x = (1, S) := by unfold watP; rw [hv0]; rfl
    rw [ho]
    refine xpc (q := 21) rfl ?_
    exact xthrow hx hb htr hown hg hT hZ hT.2.1.1 f_IA mK_X6_52 in_IA at_IA bt_IA ot_IA st_151 hP hS (hl.1.trans hml.symm) hex hlk ⟨Nat.le_of_ble_eq_true rfl, Nat.le_of_ble_eq_true rfl, Nat.le_of_ble_eq_true rfl, Nat.le_of_ble_eq_true rfl⟩ (fun tS hPt hFt => ⟨(), ⟨rfl, rfl⟩, hPt.sub [2] rfl, hFt⟩) dX6_watch_21 dX6_watch_24 dX6_watch_25 dX6_watch_27 dX6_watch_30
  ·
    have hv0 : inV S i = true := bI_ne0.mp c_8
    refine lv_dload_n hx hb dX6_watch_11 rfl (lv_at hl 2 rfl) ?_
    refine lv_ldc2d (v := k1000) hx hb hown (hg _ mD_X6_96) dX6_watch_12 ?_
    refine xci (xS (As := [.double x, .double k1000]) (rest := []) hx hb hml hown hg (c_isWithin l D cD cI cM cL x k1000) mM_X6_70 ok_X6_isWithin rfl rfl ⟨Nat.le_of_ble_eq_true rfl, Nat.le_of_ble_eq_true rfl⟩ hI hP hd rfl [] rfl rfl rfl hl.1 rfl (Nat.le_of_ble_eq_true rfl) dX6_watch_15 ⟨Nat.zero_le _, Nat.zero_le _⟩) hP hd hS fa0 [] rfl rfl (fun _ => rfl) (fun _u H locs hu hP hS => ?_)
    have hP : va_P D vwCl [(A 0, .inr (6, [.ref (A 1), .ref (A 2), .ref (A 3), .ref (A 8), .ref (A 28), .ref (A 33), .double (gt S), .double (gh S), .double (gtol S), .int (gtk S), .int (grf S), .int (bI (ggo S))])), (A 3, .inr (0, [.ref (A 4), .ref (A 5), .ref (A 6), .ref (A 7), .int (nI (sn (gσ S))), .int (nI (sc (gσ S)))])), (A 33, .inr (5, [.ref (A 34), .int (bI (gon S)), .int (nI (gwh S)), .double (glv S), .int (nI (gev S))]))] H := hP
    refine lv_if_ne (tgt := 31) hx hb dX6_watch_18 (by decide) (fun c_18 => ?_) (fun c_18 => ?_)
    ·
      have hw0 : wthn x k1000 = true := bI_ne0.mp c_18
      obtain ⟨j, hj, hji, hj3⟩ := inV_nat hn hv0
      subst hji
      have hl : lv_has ls 4 [(0, .ref (A 0)), (1, .int (nI j)), (2, .double x)] := hl
      have ho : watP S (nI j) x = (0, watS S j x) := by unfold watP; rw [hv0, hw0, hj3]; rfl
      rw [ho]
      refine lv_aload_n hx hb dX6_watch_31 rfl (lv_at hl 0 rfl) ?_
      refine gX6 hx hb hg hown hI hP 0 rfl 5 rfl mF_X6_44 rfl dX6_watch_32 ?_
      refine lv_iload_n hx hb dX6_watch_35 rfl (lv_at hl 1 rfl) ?_
      refine lv_dload_n hx hb dX6_watch_36 rfl (lv_at hl 2 rfl) ?_
      refine xcv (xV (As := [.int (nI j), .double x]) (rest := []) hx hb hml hown hg (c_turnTo l D cD cI cM cL A (gon S) (gwh S) (glv S) (gev S) (nI j) x) mM_X6_153 ok_X5_turnTo rfl rfl ⟨Nat.le_of_ble_eq_true rfl, Nat.le_of_ble_eq_true rfl⟩ hI hP hd rfl [2] rfl rfl rfl rfl rfl hl.1 rfl (Nat.le_of_ble_eq_true rfl) dX6_watch_37 ⟨Nat.zero_le _, Nat.zero_le _⟩) hP hd hS (fa1 pm0 fa0) [2] rfl rfl (fun _ => rfl) (fun _u H locs hu hP hS => ?_)
      have hP : va_P D vwCl [(A 0, .inr (6, [.ref (A 1), .ref (A 2), .ref (A 3), .ref (A 8), .ref (A 28), .ref (A 33), .double (gt S), .double (gh S), .double (gtol S), .int (gtk S), .int (grf S), .int (bI (ggo S))])), (A 3, .inr (0, [.ref (A 4), .ref (A 5), .ref (A 6), .ref (A 7), .int (nI (sn (gσ S))), .int (nI (sc (gσ S)))])), (A 33, .inr (5, [.ref (A 34), .int (nI 1), .int (nI j), .double x, .int (nI (gev S))]))] H := hP
      exact W.widen (Nat.zero_le 1) (Nat.zero_le 6) (vx_ret (W.vret hx hb hr (fun tS hTS hWS => ⟨(), rfl, rfl, by rw [hTS]; exact hP.sub [2] rfl, hS.F hTS⟩) hS.2.2 dX6_watch_40))
    ·
      have hw0 : wthn x k1000 = false := bI_eq0.mp c_18
      have ho : watP S i x = (1, S) := by unfold watP; rw [hv0, hw0]; rfl
      rw [ho]
      refine xpc (q := 21) rfl ?_
      exact xthrow hx hb htr hown hg hT hZ hT.2.1.1 f_IA mK_X6_52 in_IA at_IA bt_IA ot_IA st_151 hP hS (hl.1.trans hml.symm) hex hlk ⟨Nat.le_of_ble_eq_true rfl, Nat.le_of_ble_eq_true rfl, Nat.le_of_ble_eq_true rfl, Nat.le_of_ble_eq_true rfl⟩ (fun tS hPt hFt => ⟨(), ⟨rfl, rfl⟩, hPt.sub [2] rfl, hFt⟩) dX6_watch_21 dX6_watch_24 dX6_watch_25 dX6_watch_27 dX6_watch_30

set_option maxHeartbeats 4000000 in
set_option maxRecDepth 100000 in
theorem c_at (l : Launch) (htr : l.stackTraces = false) (D : va_G) (cD cI cM cL : ClassId) (A : Nat → Nat) (S : St) (v : Nat → Nat → UInt64) (i : Int32) (hn : sn (gσ S) ≤ 3) : vx_Met l yX6_at (Cond.code yX6_at cX6_at 2 (some .double) :: lw_good) { frames := 6, cells := 1, slots := 6, locals := 82 } (xPt D (tyL cD cI cM cL) [.ref (A 0), .int i] [(A 0, .inr (6, [.ref (A 1), .ref (A 2), .ref (A 3), .ref (A 8), .ref (A 28), .ref (A 33), .double (gt S), .double (gh S), .double (gtol S), .int (gtk S), .int (grf S), .int (bI (ggo S))])), (A 1, dA cD 3 (gy S)), (A 3, .inr (0, [.ref (A 4), .ref (A 5), .ref (A 6), .ref (A 7), .int (nI (sn (gσ S))), .int (nI (sc (gσ S)))]))] []) (xQ D [] (fun (_ : Unit) => some (.double (gy S i.toNatClampNeg))) (fun (_ : Unit) => inV S i = true) (fun (_ : Unit) => [])) (yX D [] (fun (E_ : String) (_ : Unit) => inV S i = false ∧ E_ = eIA) (fun (_ : Unit) => [])) 1 6 (fun q => q ∈ ([] : List Nat)) := by
  refine xofT (by decide) (Nat.le_of_ble_eq_true rfl) ?_
  intro p e s m below meth c ls hx hb hr hml hg hown hlk hex hI hP hd hT hZ hS hl
  have hown : s.vm.findClass RX6 = some m.cls := hown
  have hd : dj [A 0, A 1, A 3] := hd
  have hl : lv_has ls 2 [(0, .ref (A 0)), (1, .int i)] := hl
  refine lv_aload_n hx hb dX6_at_0 rfl (lv_at hl 0 rfl) ?_
  refine gX6 hx hb hg hown hI hP 0 rfl 2 rfl mF_X6_19 rfl dX6_at_1 ?_
  refine lv_iload_n hx hb dX6_at_4 rfl (lv_at hl 1 rfl) ?_
  refine xci (xV (As := [.int i]) (rest := []) hx hb hml hown hg (c_hasValue l D cD cI cM cL (A 3) (A 4) (A 5) (A 6) (A 7) (gσ S) i) mM_X6_59 ok_X0_hasValue rfl rfl ⟨Nat.le_of_ble_eq_true rfl, Nat.le_of_ble_eq_true rfl⟩ hI hP hd rfl [2] rfl rfl rfl rfl rfl hl.1 rfl (Nat.le_of_ble_eq_true rfl) dX6_at_5 ⟨Nat.zero_le _, Nat.zero_le _⟩) hP hd hS fa0 [] rfl rfl (fun _ => rfl) (fun _u H locs hu hP hS => ?_)
  have hP : va_P D vwCl [(A 0, .inr (6, [.ref (A 1), .ref (A 2), .ref (A 3), .ref (A 8), .ref (A 28), .ref (A 33), .double (gt S), .double (gh S), .double (gtol S), .int (gtk S), .int (grf S), .int (bI (ggo S))])), (A 1, dA cD 3 (gy S)), (A 3, .inr (0, [.ref (A 4), .ref (A 5), .ref (A 6), .ref (A 7), .int (nI (sn (gσ S))), .int (nI (sc (gσ S)))]))] H := hP
  refine lv_if_ne (tgt := 21) hx hb dX6_at_8 (by decide) (fun c_8 => ?_) (fun c_8 => ?_)
  ·
    have hv0 : inV S i = true := bI_ne0.mp c_8
    obtain ⟨j, hj, hji, hj3⟩ := inV_nat hn hv0
    subst hji
    have hl : lv_has ls 2 [(0, .ref (A 0)), (1, .int (nI j))] := hl
    rw [hj3]
    refine lv_aload_n hx hb dX6_at_21 rfl (lv_at hl 0 rfl) ?_
    refine gX6 hx hb hg hown hI hP 0 rfl 0 rfl mF_X6_9 rfl dX6_at_22 ?_
    refine lv_iload_n hx hb dX6_at_25 rfl (lv_at hl 1 rfl) ?_
    refine xdald hx hb hI hP 1 0 rfl rfl (Nat.lt_of_lt_of_le hj hn) (by decide) dX6_at_26 ?_
    exact W.widen (Nat.zero_le 1) (Nat.zero_le 6) (vx_ret (W.dret hx hb hr (fun tS hTS hWS => ⟨(), rfl, hv0, by rw [hTS]; exact hP.sub [] rfl, hS.F hTS⟩) hS.2.2 dX6_at_27))
  ·
    have hv0 : inV S i = false := bI_eq0.mp c_8
    refine xpc (q := 11) rfl ?_
    exact xthrow hx hb htr hown hg hT hZ hT.2.1.1 f_IA mK_X6_52 in_IA at_IA bt_IA ot_IA st_169 hP hS (hl.1.trans hml.symm) hex hlk ⟨Nat.le_of_ble_eq_true rfl, Nat.le_of_ble_eq_true rfl, Nat.le_of_ble_eq_true rfl, Nat.le_of_ble_eq_true rfl⟩ (fun tS hPt hFt => ⟨(), ⟨hv0, rfl⟩, hPt.sub [] rfl, hFt⟩) dX6_at_11 dX6_at_14 dX6_at_15 dX6_at_17 dX6_at_20

set_option maxHeartbeats 4000000 in
set_option maxRecDepth 100000 in
theorem c_derivative (l : Launch) (htr : l.stackTraces = false) (D : va_G) (cD cI cM cL : ClassId) (A : Nat → Nat) (S : St) (v : Nat → Nat → UInt64) (i : Int32) (B : Int) (E : Nat) (hv : Inv B E S) (hB : B ≤ BT) : vx_Met l yX6_derivative (Cond.code yX6_derivative cX6_derivative 2 (some .double) :: lw_good) { frames := 6, cells := 1, slots := 6, locals := 82 } (xPt D (tyL cD cI cM cL) [.ref (A 0), .int i] [(A 0, .inr (6, [.ref (A 1), .ref (A 2), .ref (A 3), .ref (A 8), .ref (A 28), .ref (A 33), .double (gt S), .double (gh S), .double (gtol S), .int (gtk S), .int (grf S), .int (bI (ggo S))])), (A 1, dA cD 3 (gy S)), (A 2, dA cD 3 (v 16)), (A 3, .inr (0, [.ref (A 4), .ref (A 5), .ref (A 6), .ref (A 7), .int (nI (sn (gσ S))), .int (nI (sc (gσ S)))])), (A 4, iA cI 10 (so (gσ S))), (A 5, dA cD 10 (sk (gσ S))), (A 6, iA cI 10 (sl (gσ S))), (A 7, iA cI 10 (sr (gσ S)))] [A 2]) (xQ D [A 2] (fun (u : Nat → UInt64) => some (.double (fs (gσ S) (gt S) (gy S) i.toNatClampNeg))) (fun (u : Nat → UInt64) => inV S i = true) (fun (u : Nat → UInt64) => [(A 2, dA cD 3 u)])) (yX D [A 2] (fun (E_ : String) (u : Nat → UInt64) => inV S i = false ∧ E_ = eIA) (fun (u : Nat → UInt64) => [(A 2, dA cD 3 u)])) 1 6 (fun q => q ∈ ([A 2] : List Nat)) := by
  refine xofT (by decide) (Nat.le_of_ble_eq_true rfl) ?_
  intro p e s m below meth c ls hx hb hr hml hg hown hlk hex hI hP hd hT hZ hS hl
  have hown : s.vm.findClass RX6 = some m.cls := hown
  have hd : dj [A 0, A 1, A 2, A 3, A 4, A 5, A 6, A 7] := hd
  have hl : lv_has ls 2 [(0, .ref (A 0)), (1, .int i)] := hl
  have hn : sn (gσ S) ≤ 3 := hv.1.2.1
  refine lv_aload_n hx hb dX6_derivative_0 rfl (lv_at hl 0 rfl) ?_
  refine gX6 hx hb hg hown hI hP 0 rfl 2 rfl mF_X6_19 rfl dX6_derivative_1 ?_
  refine lv_iload_n hx hb dX6_derivative_4 rfl (lv_at hl 1 rfl) ?_
  refine xci (xV (As := [.int i]) (rest := []) hx hb hml hown hg (c_hasValue l D cD cI cM cL (A 3) (A 4) (A 5) (A 6) (A 7) (gσ S) i) mM_X6_59 ok_X0_hasValue rfl rfl ⟨Nat.le_of_ble_eq_true rfl, Nat.le_of_ble_eq_true rfl⟩ hI hP hd rfl [3] rfl rfl rfl rfl rfl hl.1 rfl (Nat.le_of_ble_eq_true rfl) dX6_derivative_5 ⟨Nat.zero_le _, Nat.zero_le _⟩) hP hd hS fa0 [] rfl rfl (fun _ => rfl) (fun _u H locs hu hP hS => ?_)
  have hP : va_P D vwCl [(A 0, .inr (6, [.ref (A 1), .ref (A 2), .ref (A 3), .ref (A 8), .ref (A 28), .ref (A 33), .double (gt S), .double (gh S), .double (gtol S), .int (gtk S), .int (grf S), .int (bI (ggo S))])), (A 1, dA cD 3 (gy S)), (A 2, dA cD 3 (v 16)), (A 3, .inr (0, [.ref (A 4), .ref (A 5), .ref (A 6), .ref (A 7), .int (nI (sn (gσ S))), .int (nI (sc (gσ S)))])), (A 4, iA cI 10 (so (gσ S))), (A 5, dA cD 10 (sk (gσ S))), (A 6, iA cI 10 (sl (gσ S))), (A 7, iA cI 10 (sr (gσ S)))] H := hP
  refine lv_if_ne (tgt := 21) hx hb dX6_derivative_8 (by decide) (fun c_8 => ?_) (fun c_8 => ?_)
  ·
    have hv0 : inV S i = true := bI_ne0.mp c_8
    obtain ⟨j, hj, hji, hj3⟩ := inV_nat hn hv0
    subst hji
    have hl : lv_has ls 2 [(0, .ref (A 0)), (1, .int (nI j))] := hl
    rw [hj3]
    refine lv_aload_n hx hb dX6_derivative_21 rfl (lv_at hl 0 rfl) ?_
    refine gX6 hx hb hg hown hI hP 0 rfl 2 rfl mF_X6_19 rfl dX6_derivative_22 ?_
    refine lv_aload_n hx hb dX6_derivative_25 rfl (lv_at hl 0 rfl) ?_
    refine gX6 hx hb hg hown hI hP 0 rfl 6 rfl mF_X6_130 rfl dX6_derivative_26 ?_
    refine lv_aload_n hx hb dX6_derivative_29 rfl (lv_at hl 0 rfl) ?_
    refine gX6 hx hb hg hown hI hP 0 rfl 0 rfl mF_X6_9 rfl dX6_derivative_30 ?_
    refine lv_aload_n hx hb dX6_derivative_33 rfl (lv_at hl 0 rfl) ?_
    refine gX6 hx hb hg hown hI hP 0 rfl 1 rfl mF_X6_13 rfl dX6_derivative_34 ?_
    refine xcv (xV (As := [.double (gt S), .ref (A 1), .ref (A 2)]) (rest := []) hx hb hml hown hg (c_slopes l D cD cI cM cL (A 3) (A 4) (A 5) (A 6) (A 7) (gσ S) (A 1) (A 2) (gt S) (gy S) (v 16) 20 hv.1 ((hv.t hB).up (by decide)) hv.2.2.2.2.1 (by decide)) mM_X6_171 ok_X0_slopes rfl rfl ⟨Nat.le_of_ble_eq_true rfl, Nat.le_of_ble_eq_true rfl⟩ hI hP hd rfl [3, 4, 5, 6, 7, 1, 2] rfl rfl rfl rfl rfl hl.1 rfl (Nat.le_of_ble_eq_true rfl) dX6_derivative_37 ⟨Nat.zero_le _, Nat.zero_le _⟩) hP hd hS (fa1 pm0 fa0) [2] rfl rfl (fun _ => rfl) (fun _u H locs hu hP hS => ?_)
    have hP : va_P D vwCl [(A 0, .inr (6, [.ref (A 1), .ref (A 2), .ref (A 3), .ref (A 8), .ref (A 28), .ref (A 33), .double (gt S), .double (gh S), .double (gtol S), .int (gtk S), .int (grf S), .int (bI (ggo S))])), (A 1, dA cD 3 (gy S)), (A 2, dA cD 3 (mix (sn (gσ S)) (fs (gσ S) (gt S) (gy S)) (v 16))), (A 3, .inr (0, [.ref (A 4), .ref (A 5), .ref (A 6), .ref (A 7), .int (nI (sn (gσ S))), .int (nI (sc (gσ S)))])), (A 4, iA cI 10 (so (gσ S))), (A 5, dA cD 10 (sk (gσ S))), (A 6, iA cI 10 (sl (gσ S))), (A 7, iA cI 10 (sr (gσ S)))] H := hP
    refine lv_aload_n hx hb dX6_derivative_40 rfl (lv_at hl 0 rfl) ?_
    refine gX6 hx hb hg hown hI hP 0 rfl 1 rfl mF_X6_13 rfl dX6_derivative_41 ?_
    refine lv_iload_n hx hb dX6_derivative_44 rfl (lv_at hl 1 rfl) ?_
    refine xdald hx hb hI hP 2 0 rfl rfl (Nat.lt_of_lt_of_le hj hn) (by decide) dX6_derivative_45 ?_
    refine xeqd (y := fs (gσ S) (gt S) (gy S) j) (mix_lt hj) ?_
    exact W.widen (Nat.zero_le 1) (Nat.zero_le 6) (vx_ret (W.dret hx hb hr (fun tS hTS hWS => ⟨(mix (sn (gσ S)) (fs (gσ S) (gt S) (gy S)) (v 16)), rfl, hv0, by rw [hTS]; exact hP.sub [2] rfl, hS.F hTS⟩) hS.2.2 dX6_derivative_46))
  ·
    have hv0 : inV S i = false := bI_eq0.mp c_8
    refine xpc (q := 11) rfl ?_
    exact xthrow hx hb htr hown hg hT hZ hT.2.1.1 f_IA mK_X6_52 in_IA at_IA bt_IA ot_IA st_169 hP hS (hl.1.trans hml.symm) hex hlk ⟨Nat.le_of_ble_eq_true rfl, Nat.le_of_ble_eq_true rfl, Nat.le_of_ble_eq_true rfl, Nat.le_of_ble_eq_true rfl⟩ (fun tS hPt hFt => ⟨v 16, ⟨hv0, rfl⟩, hPt.sub [2] rfl, hFt⟩) dX6_derivative_11 dX6_derivative_14 dX6_derivative_15 dX6_derivative_17 dX6_derivative_20

set_option maxHeartbeats 4000000 in
set_option maxRecDepth 100000 in
theorem c_step (l : Launch) (htr : l.stackTraces = false) (D : va_G) (cD cI cM cL : ClassId) (A : Nat → Nat) (rw : Nat → Option Nat) (S : St) (v : Nat → Nat → UInt64) (i : Int32) (B : Int) (E : Nat) (hv : Inv B E S) (hB : B ≤ BT) (hE : E < 2 ^ 29) (hen : enK S (v 17)) (hrw : ∀ i, i < 3 → rw i = some (A (17 + i))) : vx_Met l yX6_step (Cond.code yX6_step cX6_step 2 none :: lw_good) { frames := 6, cells := 1, slots := 6, locals := 158 } (xPt D (tyL cD cI cM cL) [.ref (A 0), .int i] [(A 0, .inr (6, [.ref (A 1), .ref (A 2), .ref (A 3), .ref (A 8), .ref (A 28), .ref (A 33), .double (gt S), .double (gh S), .double (gtol S), .int (gtk S), .int (grf S), .int (bI (ggo S))])), (A 1, dA cD 3 (gy S)), (A 3, .inr (0, [.ref (A 4), .ref (A 5), .ref (A 6), .ref (A 7), .int (nI (sn (gσ S))), .int (nI (sc (gσ S)))])), (A 4, iA cI 10 (so (gσ S))), (A 5, dA cD 10 (sk (gσ S))), (A 6, iA cI 10 (sl (gσ S))), (A 7, iA cI 10 (sr (gσ S))), (A 8, .inr (4, [.ref (A 3), .ref (A 15), .ref (A 22), .ref (A 9), .ref (A 10), .ref (A 11), .ref (A 12), .ref (A 1), .ref (A 13), .ref (A 14), .double (v 18 0), .double (v 18 1), .double (v 18 2)])), (A 9, dA cD 3 (v 0)), (A 10, dA cD 3 (v 1)), (A 11, dA cD 3 (v 2)), (A 12, dA cD 3 (v 3)), (A 13, dA cD 3 (v 4)), (A 14, dA cD 3 (v 5)), (A 15, .inr (1, [.ref (A 3), .ref (A 16), .ref (A 20), .ref (A 21)])), (A 16, rA cM 3 rw), (A 17, dA cD 3 (v 6)), (A 18, dA cD 3 (v 7)), (A 19, dA cD 3 (v 8)), (A 20, dA cD 3 (v 9)), (A 21, dA cD 3 (v 10)), (A 22, .inr (3, [.ref (A 3), .ref (A 23), .ref (A 24), .ref (A 25), .ref (A 26), .ref (A 27)])), (A 23, dA cD 3 (v 11)), (A 24, dA cD 3 (v 12)), (A 25, dA cD 3 (v 13)), (A 26, dA cD 3 (v 14)), (A 27, dA cD 3 (v 15)), (A 28, .inr (2, [.ref (A 3), .ref (A 29), .ref (A 30), .ref (A 31), .ref (A 32), .int (bI (gkn S)), .double (gt0 S), .double (gsp S)])), (A 29, dA cD 3 (gq S)), (A 30, dA cD 3 (gy0 S)), (A 31, dA cD 3 (gg S)), (A 32, dA cD 3 (v 17)), (A 33, .inr (5, [.ref (A 34), .int (bI (gon S)), .int (nI (gwh S)), .double (glv S), .int (nI (gev S))])), (A 34, dA cD 8 (gtm S))] [A 0, A 1, A 28, A 29, A 30, A 31, A 32, A 33, A 34, A 8, A 13, A 9, A 10, A 11, A 12, A 14, A 17, A 18, A 19, A 20, A 21, A 23, A 24, A 25, A 26, A 27]) (xQ D [A 0, A 1, A 28, A 29, A 30, A 31, A 32, A 33, A 34, A 8, A 13, A 9, A 10, A 11, A 12, A 14, A 17, A 18, A 19, A 20, A 21, A 23, A 24, A 25, A 26, A 27] (fun (u : Nat → Nat → UInt64) => none) (fun (u : Nat → Nat → UInt64) => (stpP S i).1 = 0 ∧ enK (stpP S i).2 (u 17)) (fun (u : Nat → Nat → UInt64) => [(A 0, .inr (6, [.ref (A 1), .ref (A 2), .ref (A 3), .ref (A 8), .ref (A 28), .ref (A 33), .double (gt (stpP S i).2), .double (gh (stpP S i).2), .double (gtol (stpP S i).2), .int (gtk (stpP S i).2), .int (grf (stpP S i).2), .int (bI (ggo (stpP S i).2))])), (A 1, dA cD 3 (gy (stpP S i).2)), (A 28, .inr (2, [.ref (A 3), .ref (A 29), .ref (A 30), .ref (A 31), .ref (A 32), .int (bI (gkn (stpP S i).2)), .double (gt0 (stpP S i).2), .double (gsp (stpP S i).2)])), (A 29, dA cD 3 (gq (stpP S i).2)), (A 30, dA cD 3 (gy0 (stpP S i).2)), (A 31, dA cD 3 (gg (stpP S i).2)), (A 32, dA cD 3 (u 17)), (A 33, .inr (5, [.ref (A 34), .int (bI (gon (stpP S i).2)), .int (nI (gwh (stpP S i).2)), .double (glv (stpP S i).2), .int (nI (gev (stpP S i).2))])), (A 34, dA cD 8 (gtm (stpP S i).2)), (A 8, .inr (4, [.ref (A 3), .ref (A 15), .ref (A 22), .ref (A 9), .ref (A 10), .ref (A 11), .ref (A 12), .ref (A 1), .ref (A 13), .ref (A 14), .double (u 18 0), .double (u 18 1), .double (u 18 2)])), (A 13, dA cD 3 (u 4)), (A 9, dA cD 3 (u 0)), (A 10, dA cD 3 (u 1)), (A 11, dA cD 3 (u 2)), (A 12, dA cD 3 (u 3)), (A 14, dA cD 3 (u 5)), (A 17, dA cD 3 (u 6)), (A 18, dA cD 3 (u 7)), (A 19, dA cD 3 (u 8)), (A 20, dA cD 3 (u 9)), (A 21, dA cD 3 (u 10)), (A 23, dA cD 3 (u 11)), (A 24, dA cD 3 (u 12)), (A 25, dA cD 3 (u 13)), (A 26, dA cD 3 (u 14)), (A 27, dA cD 3 (u 15))])) (yX D [A 0, A 1, A 28, A 29, A 30, A 31, A 32, A 33, A 34, A 8, A 13, A 9, A 10, A 11, A 12, A 14, A 17, A 18, A 19, A 20, A 21, A 23, A 24, A 25, A 26, A 27] (fun (E_ : String) (u : Nat → Nat → UInt64) => (((stpP S i).1 = 1 ∧ E_ = eIA) ∨ ((stpP S i).1 = 2 ∧ E_ = eAR)) ∧ enK (stpP S i).2 (u 17)) (fun (u : Nat → Nat → UInt64) => [(A 0, .inr (6, [.ref (A 1), .ref (A 2), .ref (A 3), .ref (A 8), .ref (A 28), .ref (A 33), .double (gt (stpP S i).2), .double (gh (stpP S i).2), .double (gtol (stpP S i).2), .int (gtk (stpP S i).2), .int (grf (stpP S i).2), .int (bI (ggo (stpP S i).2))])), (A 1, dA cD 3 (gy (stpP S i).2)), (A 28, .inr (2, [.ref (A 3), .ref (A 29), .ref (A 30), .ref (A 31), .ref (A 32), .int (bI (gkn (stpP S i).2)), .double (gt0 (stpP S i).2), .double (gsp (stpP S i).2)])), (A 29, dA cD 3 (gq (stpP S i).2)), (A 30, dA cD 3 (gy0 (stpP S i).2)), (A 31, dA cD 3 (gg (stpP S i).2)), (A 32, dA cD 3 (u 17)), (A 33, .inr (5, [.ref (A 34), .int (bI (gon (stpP S i).2)), .int (nI (gwh (stpP S i).2)), .double (glv (stpP S i).2), .int (nI (gev (stpP S i).2))])), (A 34, dA cD 8 (gtm (stpP S i).2)), (A 8, .inr (4, [.ref (A 3), .ref (A 15), .ref (A 22), .ref (A 9), .ref (A 10), .ref (A 11), .ref (A 12), .ref (A 1), .ref (A 13), .ref (A 14), .double (u 18 0), .double (u 18 1), .double (u 18 2)])), (A 13, dA cD 3 (u 4)), (A 9, dA cD 3 (u 0)), (A 10, dA cD 3 (u 1)), (A 11, dA cD 3 (u 2)), (A 12, dA cD 3 (u 3)), (A 14, dA cD 3 (u 5)), (A 17, dA cD 3 (u 6)), (A 18, dA cD 3 (u 7)), (A 19, dA cD 3 (u 8)), (A 20, dA cD 3 (u 9)), (A 21, dA cD 3 (u 10)), (A 23, dA cD 3 (u 11)), (A 24, dA cD 3 (u 12)), (A 25, dA cD 3 (u 13)), (A 26, dA cD 3 (u 14)), (A 27, dA cD 3 (u 15))])) 1 6 (fun q => q ∈ ([A 0, A 1, A 28, A 29, A 30, A 31, A 32, A 33, A 34, A 8, A 13, A 9, A 10, A 11, A 12, A 14, A 17, A 18, A 19, A 20, A 21, A 23, A 24, A 25, A 26, A 27] : List Nat)) := by
  refine xofT (by decide) (Nat.le_of_ble_eq_true rfl) ?_
  intro p e s m below meth c ls hx hb hr hml hg hown hlk hex hI hP hd hT hZ hS hl
  have hown : s.vm.findClass RX6 = some m.cls := hown
  have hd : dj [A 0, A 1, A 3, A 4, A 5, A 6, A 7, A 8, A 9, A 10, A 11, A 12, A 13, A 14, A 15, A 16, A 17, A 18, A 19, A 20, A 21, A 22, A 23, A 24, A 25, A 26, A 27, A 28, A 29, A 30, A 31, A 32, A 33, A 34] := hd
  have hl : lv_has ls 2 [(0, .ref (A 0)), (1, .int i)] := hl
  refine lv_iload_n hx hb dX6_step_0 rfl (lv_at hl 1 rfl) ?_
  refine xci (xS (As := [.int i]) (rest := []) hx hb hml hown hg (c_isMethod l D cD cI cM cL i) mM_X6_113 ok_X6_isMethod rfl rfl ⟨Nat.le_of_ble_eq_true rfl, Nat.le_of_ble_eq_true rfl⟩ hI hP hd rfl [] rfl rfl rfl hl.1 rfl (Nat.le_of_ble_eq_true rfl) dX6_step_1 ⟨Nat.zero_le _, Nat.zero_le _⟩) hP hd hS fa0 [] rfl rfl (fun _ => rfl) (fun _u H locs hu hP hS => ?_)
  have hP : va_P D vwCl [(A 0, .inr (6, [.ref (A 1), .ref (A 2), .ref (A 3), .ref (A 8), .ref (A 28), .ref (A 33), .double (gt S), .double (gh S), .double (gtol S), .int (gtk S), .int (grf S), .int (bI (ggo S))])), (A 1, dA cD 3 (gy S)), (A 3, .inr (0, [.ref (A 4), .ref (A 5), .ref (A 6), .ref (A 7), .int (nI (sn (gσ S))), .int (nI (sc (gσ S)))])), (A 4, iA cI 10 (so (gσ S))), (A 5, dA cD 10 (sk (gσ S))), (A 6, iA cI 10 (sl (gσ S))), (A 7, iA cI 10 (sr (gσ S))), (A 8, .inr (4, [.ref (A 3), .ref (A 15), .ref (A 22), .ref (A 9), .ref (A 10), .ref (A 11), .ref (A 12), .ref (A 1), .ref (A 13), .ref (A 14), .double (v 18 0), .double (v 18 1), .double (v 18 2)])), (A 9, dA cD 3 (v 0)), (A 10, dA cD 3 (v 1)), (A 11, dA cD 3 (v 2)), (A 12, dA cD 3 (v 3)), (A 13, dA cD 3 (v 4)), (A 14, dA cD 3 (v 5)), (A 15, .inr (1, [.ref (A 3), .ref (A 16), .ref (A 20), .ref (A 21)])), (A 16, rA cM 3 rw), (A 17, dA cD 3 (v 6)), (A 18, dA cD 3 (v 7)), (A 19, dA cD 3 (v 8)), (A 20, dA cD 3 (v 9)), (A 21, dA cD 3 (v 10)), (A 22, .inr (3, [.ref (A 3), .ref (A 23), .ref (A 24), .ref (A 25), .ref (A 26), .ref (A 27)])), (A 23, dA cD 3 (v 11)), (A 24, dA cD 3 (v 12)), (A 25, dA cD 3 (v 13)), (A 26, dA cD 3 (v 14)), (A 27, dA cD 3 (v 15)), (A 28, .inr (2, [.ref (A 3), .ref (A 29), .ref (A 30), .ref (A 31), .ref (A 32), .int (bI (gkn S)), .double (gt0 S), .double (gsp S)])), (A 29, dA cD 3 (gq S)), (A 30, dA cD 3 (gy0 S)), (A 31, dA cD 3 (gg S)), (A 32, dA cD 3 (v 17)), (A 33, .inr (5, [.ref (A 34), .int (bI (gon S)), .int (nI (gwh S)), .double (glv S), .int (nI (gev S))])), (A 34, dA cD 8 (gtm S))] H := hP
  refine lv_if_ne (tgt := 17) hx hb dX6_step_4 (by decide) (fun c_4 => ?_) (fun c_4 => ?_)
  ·
    have hm0 : mth i = true := bI_ne0.mp c_4
    obtain ⟨j, hmm, hji, hj3⟩ := mth_nat hm0
    subst hji
    have hl : lv_has ls 2 [(0, .ref (A 0)), (1, .int (nI j))] := hl
    refine lv_aload_n hx hb dX6_step_17 rfl (lv_at hl 0 rfl) ?_
    refine lv_iload_n hx hb dX6_step_18 rfl (lv_at hl 1 rfl) ?_
    refine lv_aload_n hx hb dX6_step_19 rfl (lv_at hl 0 rfl) ?_
    refine gX6 hx hb hg hown hI hP 0 rfl 7 rfl mF_X6_106 rfl dX6_step_20 ?_
    refine xci (xV (As := [.int (nI j), .double (gh S)]) (rest := []) hx hb hml hown hg (c_tryStep l D cD cI cM cL A rw S (v 17) (v 18 0) (v 18 1) (v 18 2) v j (gh S) B E hv hB hrw hv.2.2.1.1 hmm) mM_X6_118 ok_X6_tryStep rfl rfl ⟨Nat.le_of_ble_eq_true rfl, Nat.le_of_ble_eq_true rfl⟩ hI hP hd rfl [0, 27, 7, 2, 3, 4, 5, 6, 1, 12, 8, 9, 10, 11, 13, 14, 15, 16, 17, 18, 19, 20, 21, 22, 23, 24, 25, 26, 30] rfl rfl rfl rfl rfl hl.1 rfl (Nat.le_of_ble_eq_true rfl) dX6_step_23 ⟨Nat.zero_le _, Nat.zero_le _⟩) hP hd hS (fa1 (pmS (pmS (pmS (pmS (pmS (pmS (pmS (pmS (pmS pm0))))))))) (fa1 (pmS (pmS (pmS (pmS (pmS (pmS (pmS (pmS (pmS (pmS pm0)))))))))) (fa1 (pmS (pmS (pmS (pmS (pmS (pmS (pmS (pmS (pmS (pmS (pmS pm0))))))))))) (fa1 (pmS (pmS (pmS (pmS (pmS (pmS (pmS (pmS (pmS (pmS (pmS (pmS pm0)))))))))))) (fa1 (pmS (pmS (pmS (pmS (pmS (pmS (pmS (pmS (pmS (pmS (pmS (pmS (pmS pm0))))))))))))) (fa1 (pmS (pmS (pmS (pmS (pmS (pmS (pmS (pmS (pmS (pmS (pmS (pmS (pmS (pmS pm0)))))))))))))) (fa1 (pmS (pmS (pmS (pmS (pmS (pmS (pmS (pmS (pmS (pmS (pmS (pmS (pmS (pmS (pmS pm0))))))))))))))) (fa1 (pmS (pmS (pmS (pmS (pmS (pmS (pmS (pmS (pmS (pmS (pmS (pmS (pmS (pmS (pmS (pmS pm0)))))))))))))))) (fa1 (pmS (pmS (pmS (pmS (pmS (pmS (pmS (pmS (pmS (pmS (pmS (pmS (pmS (pmS (pmS (pmS (pmS pm0))))))))))))))))) (fa1 (pmS (pmS (pmS (pmS (pmS (pmS (pmS (pmS (pmS (pmS (pmS (pmS (pmS (pmS (pmS (pmS (pmS (pmS pm0)))))))))))))))))) (fa1 (pmS (pmS (pmS (pmS (pmS (pmS (pmS (pmS (pmS (pmS (pmS (pmS (pmS (pmS (pmS (pmS (pmS (pmS (pmS pm0))))))))))))))))))) (fa1 (pmS (pmS (pmS (pmS (pmS (pmS (pmS (pmS (pmS (pmS (pmS (pmS (pmS (pmS (pmS (pmS (pmS (pmS (pmS (pmS pm0)))))))))))))))))))) (fa1 (pmS (pmS (pmS (pmS (pmS (pmS (pmS (pmS (pmS (pmS (pmS (pmS (pmS (pmS (pmS (pmS (pmS (pmS (pmS (pmS (pmS pm0))))))))))))))))))))) (fa1 (pmS (pmS (pmS (pmS (pmS (pmS (pmS (pmS (pmS (pmS (pmS (pmS (pmS (pmS (pmS (pmS (pmS (pmS (pmS (pmS (pmS (pmS pm0)))))))))))))))))))))) (fa1 (pmS (pmS (pmS (pmS (pmS (pmS (pmS (pmS (pmS (pmS (pmS (pmS (pmS (pmS (pmS (pmS (pmS (pmS (pmS (pmS (pmS (pmS (pmS pm0))))))))))))))))))))))) (fa1 (pmS (pmS (pmS (pmS (pmS (pmS (pmS (pmS (pmS (pmS (pmS (pmS (pmS (pmS (pmS (pmS (pmS (pmS (pmS (pmS (pmS (pmS (pmS (pmS pm0)))))))))))))))))))))))) (fa1 (pmS (pmS (pmS (pmS (pmS (pmS (pmS (pmS (pmS (pmS (pmS (pmS (pmS (pmS (pmS (pmS (pmS (pmS (pmS (pmS (pmS (pmS (pmS (pmS (pmS pm0))))))))))))))))))))))))) fa0))))))))))))))))) [7, 12, 8, 9, 10, 11, 13, 16, 17, 18, 19, 20, 22, 23, 24, 25, 26] rfl rfl (fun _ => rfl) (fun u H locs hu hP hS => ?_)
    have hu1 := hu
    have hP : va_P D vwCl [(A 0, .inr (6, [.ref (A 1), .ref (A 2), .ref (A 3), .ref (A 8), .ref (A 28), .ref (A 33), .double (gt S), .double (gh S), .double (gtol S), .int (gtk S), .int (grf S), .int (bI (ggo S))])), (A 1, dA cD 3 (gy S)), (A 3, .inr (0, [.ref (A 4), .ref (A 5), .ref (A 6), .ref (A 7), .int (nI (sn (gσ S))), .int (nI (sc (gσ S)))])), (A 4, iA cI 10 (so (gσ S))), (A 5, dA cD 10 (sk (gσ S))), (A 6, iA cI 10 (sl (gσ S))), (A 7, iA cI 10 (sr (gσ S))), (A 8, .inr (4, [.ref (A 3), .ref (A 15), .ref (A 22), .ref (A 9), .ref (A 10), .ref (A 11), .ref (A 12), .ref (A 1), .ref (A 13), .ref (A 14), .double (gt S), .double (gh S), .double (if j = 2 then errP S (gh S) else v 18 2)])), (A 9, dA cD 3 (u 0)), (A 10, dA cD 3 (u 1)), (A 11, dA cD 3 (u 2)), (A 12, dA cD 3 (u 3)), (A 13, dA cD 3 (mix (sn (gσ S)) (fs (gσ S) (gt S) (gy S)) (v 4))), (A 14, dA cD 3 (u 5)), (A 15, .inr (1, [.ref (A 3), .ref (A 16), .ref (A 20), .ref (A 21)])), (A 16, rA cM 3 rw), (A 17, dA cD 3 (u 6)), (A 18, dA cD 3 (u 7)), (A 19, dA cD 3 (u 8)), (A 20, dA cD 3 (u 9)), (A 21, dA cD 3 (u 10)), (A 22, .inr (3, [.ref (A 3), .ref (A 23), .ref (A 24), .ref (A 25), .ref (A 26), .ref (A 27)])), (A 23, dA cD 3 (u 11)), (A 24, dA cD 3 (u 12)), (A 25, dA cD 3 (u 13)), (A 26, dA cD 3 (u 14)), (A 27, dA cD 3 (u 15)), (A 28, .inr (2, [.ref (A 3), .ref (A 29), .ref (A 30), .ref (A 31), .ref (A 32), .int (bI (gkn S)), .double (gt0 S), .double (gsp S)])), (A 29, dA cD 3 (gq S)), (A 30, dA cD 3 (gy0 S)), (A 31, dA cD 3 (gg S)), (A 32, dA cD 3 (v 17)), (A 33, .inr (5, [.ref (A 34), .int (bI (gon S)), .int (nI (gwh S)), .double (glv S), .int (nI (gev S))])), (A 34, dA cD 8 (gtm S))] H := hP
    refine lv_if_ne (tgt := 43) hx hb dX6_step_26 (by decide) (fun c_26 => ?_) (fun c_26 => ?_)
    ·
      obtain ⟨z, hz⟩ := no_some (bI_ne0.mp c_26)
      rw [stp_s hm0 hj3 hz]
      refine lv_aload_n hx hb dX6_step_43 rfl (lv_at hl 0 rfl) ?_
      refine lv_iload_n hx hb dX6_step_44 rfl (lv_at hl 1 rfl) ?_
      refine lv_aload_n hx hb dX6_step_45 rfl (lv_at hl 0 rfl) ?_
      refine gX6 hx hb hg hown hI hP 0 rfl 6 rfl mF_X6_130 rfl dX6_step_46 ?_
      refine lv_aload_n hx hb dX6_step_49 rfl (lv_at hl 0 rfl) ?_
      refine gX6 hx hb hg hown hI hP 0 rfl 7 rfl mF_X6_106 rfl dX6_step_50 ?_
      have b1 : bd 1 17 (FP.dadd (gt S) (gh S)) := bd_add (hv.t hB) hv.2.2.1.1 (by decide) (by decide) (by decide)
      refine lv_dadd hx hb dX6_step_53 b1.nn ?_
      refine xcv (xV (As := [.int (nI j), .double (FP.dadd (gt S) (gh S))]) (rest := []) hx hb hml hown hg (c_take l D cD cI cM cL A S (v 17) (if j = 2 then errP S (gh S) else v 18 2) v j (gh S) (FP.dadd (gt S) (gh S)) z (u 5) B E hv hB hv.2.2.1.1 hmm hE hz (hu1 z hz)) mM_X6_133 ok_X6_take rfl rfl ⟨Nat.le_of_ble_eq_true rfl, Nat.le_of_ble_eq_true rfl⟩ hI hP hd rfl [0, 1, 2, 3, 4, 5, 6, 7, 12, 13, 27, 28, 29, 30, 31, 32, 33] rfl rfl rfl rfl rfl hl.1 rfl (Nat.le_of_ble_eq_true rfl) dX6_step_54 ⟨Nat.zero_le _, Nat.zero_le _⟩) hP hd hS (fa1 pm0 (fa1 (pmS pm0) (fa1 (pmS (pmS pm0)) (fa1 (pmS (pmS (pmS pm0))) (fa1 (pmS (pmS (pmS (pmS pm0)))) (fa1 (pmS (pmS (pmS (pmS (pmS pm0))))) (fa1 (pmS (pmS (pmS (pmS (pmS (pmS pm0)))))) (fa1 (pmS (pmS (pmS (pmS (pmS (pmS (pmS pm0))))))) (fa1 (pmS (pmS (pmS (pmS (pmS (pmS (pmS (pmS pm0)))))))) fa0))))))))) [0, 1, 27, 28, 29, 30, 31, 32, 33] rfl rfl (fun _ => rfl) (fun _u H locs hu hP hS => ?_)
      have hP : va_P D vwCl [(A 0, .inr (6, [.ref (A 1), .ref (A 2), .ref (A 3), .ref (A 8), .ref (A 28), .ref (A 33), .double (gt (takeS S j (gh S) z (FP.dadd (gt S) (gh S)))), .double (gh (takeS S j (gh S) z (FP.dadd (gt S) (gh S)))), .double (gtol (takeS S j (gh S) z (FP.dadd (gt S) (gh S)))), .int (gtk (takeS S j (gh S) z (FP.dadd (gt S) (gh S)))), .int (grf (takeS S j (gh S) z (FP.dadd (gt S) (gh S)))), .int (bI (ggo (takeS S j (gh S) z (FP.dadd (gt S) (gh S)))))])), (A 1, dA cD 3 (gy (takeS S j (gh S) z (FP.dadd (gt S) (gh S))))), (A 3, .inr (0, [.ref (A 4), .ref (A 5), .ref (A 6), .ref (A 7), .int (nI (sn (gσ S))), .int (nI (sc (gσ S)))])), (A 4, iA cI 10 (so (gσ S))), (A 5, dA cD 10 (sk (gσ S))), (A 6, iA cI 10 (sl (gσ S))), (A 7, iA cI 10 (sr (gσ S))), (A 8, .inr (4, [.ref (A 3), .ref (A 15), .ref (A 22), .ref (A 9), .ref (A 10), .ref (A 11), .ref (A 12), .ref (A 1), .ref (A 13), .ref (A 14), .double (gt S), .double (gh S), .double (if j = 2 then errP S (gh S) else v 18 2)])), (A 9, dA cD 3 (u 0)), (A 10, dA cD 3 (u 1)), (A 11, dA cD 3 (u 2)), (A 12, dA cD 3 (u 3)), (A 13, dA cD 3 (mix (sn (gσ S)) (fs (gσ S) (gt S) (gy S)) (v 4))), (A 14, dA cD 3 (u 5)), (A 15, .inr (1, [.ref (A 3), .ref (A 16), .ref (A 20), .ref (A 21)])), (A 16, rA cM 3 rw), (A 17, dA cD 3 (u 6)), (A 18, dA cD 3 (u 7)), (A 19, dA cD 3 (u 8)), (A 20, dA cD 3 (u 9)), (A 21, dA cD 3 (u 10)), (A 22, .inr (3, [.ref (A 3), .ref (A 23), .ref (A 24), .ref (A 25), .ref (A 26), .ref (A 27)])), (A 23, dA cD 3 (u 11)), (A 24, dA cD 3 (u 12)), (A 25, dA cD 3 (u 13)), (A 26, dA cD 3 (u 14)), (A 27, dA cD 3 (u 15)), (A 28, .inr (2, [.ref (A 3), .ref (A 29), .ref (A 30), .ref (A 31), .ref (A 32), .int (bI (gkn (takeS S j (gh S) z (FP.dadd (gt S) (gh S))))), .double (gt0 (takeS S j (gh S) z (FP.dadd (gt S) (gh S)))), .double (gsp (takeS S j (gh S) z (FP.dadd (gt S) (gh S))))])), (A 29, dA cD 3 (gq (takeS S j (gh S) z (FP.dadd (gt S) (gh S))))), (A 30, dA cD 3 (gy0 (takeS S j (gh S) z (FP.dadd (gt S) (gh S))))), (A 31, dA cD 3 (gg (takeS S j (gh S) z (FP.dadd (gt S) (gh S))))), (A 32, dA cD 3 (mix (sn (gσ S)) z (v 17))), (A 33, .inr (5, [.ref (A 34), .int (bI (gon (takeS S j (gh S) z (FP.dadd (gt S) (gh S))))), .int (nI (gwh (takeS S j (gh S) z (FP.dadd (gt S) (gh S))))), .double (glv (takeS S j (gh S) z (FP.dadd (gt S) (gh S)))), .int (nI (gev (takeS S j (gh S) z (FP.dadd (gt S) (gh S)))))])), (A 34, dA cD 8 (gtm (takeS S j (gh S) z (FP.dadd (gt S) (gh S)))))] H := hP
      exact W.widen (Nat.zero_le 1) (Nat.zero_le 6) (vx_ret (W.vret hx hb hr (fun tS hTS hWS => ⟨pk u (mix (sn (gσ S)) (fs (gσ S) (gt S) (gy S)) (v 4)) (mix (sn (gσ S)) z (v 17)) (gt S) (gh S) (if j = 2 then errP S (gh S) else v 18 2), rfl, ⟨rfl, enK_take⟩, by rw [hTS]; exact hP.sub [0, 1, 27, 28, 29, 30, 31, 32, 33, 7, 12, 8, 9, 10, 11, 13, 16, 17, 18, 19, 20, 22, 23, 24, 25, 26] rfl, hS.F hTS⟩) hS.2.2 dX6_step_57))
    ·
      rw [stp_n hm0 hj3 (no_none (bI_eq0.mp c_26))]
      refine lv_aload_n hx hb dX6_step_29 rfl (lv_at hl 0 rfl) ?_
      refine xcv (xV (As := []) (rest := []) hx hb hml hown hg (c_refuse l D cD cI cM cL A rw S (v 17) (v 18 0) (v 18 1) (v 18 2) v) mM_X6_122 ok_X6_refuse rfl rfl ⟨Nat.le_of_ble_eq_true rfl, Nat.le_of_ble_eq_true rfl⟩ hI hP hd rfl [0] rfl rfl rfl rfl rfl hl.1 rfl (Nat.le_of_ble_eq_true rfl) dX6_step_30 ⟨Nat.zero_le _, Nat.zero_le _⟩) hP hd hS (fa1 pm0 fa0) [0] rfl rfl (fun _ => rfl) (fun _u H locs hu hP hS => ?_)
      have hP : va_P D vwCl [(A 0, .inr (6, [.ref (A 1), .ref (A 2), .ref (A 3), .ref (A 8), .ref (A 28), .ref (A 33), .double (gt S), .double (gh S), .double (gtol S), .int (gtk S), .int (grf S + nI 1), .int (nI 0)])), (A 1, dA cD 3 (gy S)), (A 3, .inr (0, [.ref (A 4), .ref (A 5), .ref (A 6), .ref (A 7), .int (nI (sn (gσ S))), .int (nI (sc (gσ S)))])), (A 4, iA cI 10 (so (gσ S))), (A 5, dA cD 10 (sk (gσ S))), (A 6, iA cI 10 (sl (gσ S))), (A 7, iA cI 10 (sr (gσ S))), (A 8, .inr (4, [.ref (A 3), .ref (A 15), .ref (A 22), .ref (A 9), .ref (A 10), .ref (A 11), .ref (A 12), .ref (A 1), .ref (A 13), .ref (A 14), .double (gt S), .double (gh S), .double (if j = 2 then errP S (gh S) else v 18 2)])), (A 9, dA cD 3 (u 0)), (A 10, dA cD 3 (u 1)), (A 11, dA cD 3 (u 2)), (A 12, dA cD 3 (u 3)), (A 13, dA cD 3 (mix (sn (gσ S)) (fs (gσ S) (gt S) (gy S)) (v 4))), (A 14, dA cD 3 (u 5)), (A 15, .inr (1, [.ref (A 3), .ref (A 16), .ref (A 20), .ref (A 21)])), (A 16, rA cM 3 rw), (A 17, dA cD 3 (u 6)), (A 18, dA cD 3 (u 7)), (A 19, dA cD 3 (u 8)), (A 20, dA cD 3 (u 9)), (A 21, dA cD 3 (u 10)), (A 22, .inr (3, [.ref (A 3), .ref (A 23), .ref (A 24), .ref (A 25), .ref (A 26), .ref (A 27)])), (A 23, dA cD 3 (u 11)), (A 24, dA cD 3 (u 12)), (A 25, dA cD 3 (u 13)), (A 26, dA cD 3 (u 14)), (A 27, dA cD 3 (u 15)), (A 28, .inr (2, [.ref (A 3), .ref (A 29), .ref (A 30), .ref (A 31), .ref (A 32), .int (bI (gkn S)), .double (gt0 S), .double (gsp S)])), (A 29, dA cD 3 (gq S)), (A 30, dA cD 3 (gy0 S)), (A 31, dA cD 3 (gg S)), (A 32, dA cD 3 (v 17)), (A 33, .inr (5, [.ref (A 34), .int (bI (gon S)), .int (nI (gwh S)), .double (glv S), .int (nI (gev S))])), (A 34, dA cD 8 (gtm S))] H := hP
      refine xpc (q := 33) rfl ?_
      exact xthrow hx hb htr hown hg hT hZ hT.2.1.2.2.1 f_AR mK_X6_125 in_AR at_AR bt_AR ot_AR st_127 hP hS (hl.1.trans hml.symm) hex hlk ⟨Nat.le_of_ble_eq_true rfl, Nat.le_of_ble_eq_true rfl, Nat.le_of_ble_eq_true rfl, Nat.le_of_ble_eq_true rfl⟩ (fun tS hPt hFt => ⟨pk u (mix (sn (gσ S)) (fs (gσ S) (gt S) (gy S)) (v 4)) (v 17) (gt S) (gh S) (if j = 2 then errP S (gh S) else v 18 2), ⟨Or.inr ⟨rfl, rfl⟩, hen⟩, hPt.sub [0, 1, 27, 28, 29, 30, 31, 32, 33, 7, 12, 8, 9, 10, 11, 13, 16, 17, 18, 19, 20, 22, 23, 24, 25, 26] rfl, hFt⟩) dX6_step_33 dX6_step_36 dX6_step_37 dX6_step_39 dX6_step_42
  ·
    rw [stp_f (show mth i = false from bI_eq0.mp c_4)]
    refine xpc (q := 7) rfl ?_
    exact xthrow hx hb htr hown hg hT hZ hT.2.1.1 f_IA mK_X6_52 in_IA at_IA bt_IA ot_IA st_116 hP hS (hl.1.trans hml.symm) hex hlk ⟨Nat.le_of_ble_eq_true rfl, Nat.le_of_ble_eq_true rfl, Nat.le_of_ble_eq_true rfl, Nat.le_of_ble_eq_true rfl⟩ (fun tS hPt hFt => ⟨v, ⟨Or.inl ⟨rfl, rfl⟩, hen⟩, hPt.sub [0, 1, 27, 28, 29, 30, 31, 32, 33, 7, 12, 8, 9, 10, 11, 13, 16, 17, 18, 19, 20, 22, 23, 24, 25, 26] rfl, hFt⟩) dX6_step_7 dX6_step_10 dX6_step_11 dX6_step_13 dX6_step_16

set_option maxHeartbeats 4000000 in
set_option maxRecDepth 100000 in
theorem c_term (l : Launch) (htr : l.stackTraces = false) (D : va_G) (cD cI cM cL : ClassId) (A : Nat → Nat) (S : St) (v : Nat → Nat → UInt64) (i : Int32) (x : UInt64) (a b : Int32) (hc : sc (gσ S) ≤ 10) : vx_Met l yX6_term (Cond.code yX6_term cX6_term 6 (some .int) :: lw_good) { frames := 6, cells := 1, slots := 6, locals := 82 } (xPt D (tyL cD cI cM cL) [.ref (A 0), .int i, .double x, .int a, .int b] [(A 0, .inr (6, [.ref (A 1), .ref (A 2), .ref (A 3), .ref (A 8), .ref (A 28), .ref (A 33), .double (gt S), .double (gh S), .double (gtol S), .int (gtk S), .int (grf S), .int (bI (ggo S))])), (A 3, .inr (0, [.ref (A 4), .ref (A 5), .ref (A 6), .ref (A 7), .int (nI (sn (gσ S))), .int (nI (sc (gσ S)))])), (A 4, iA cI 10 (so (gσ S))), (A 5, dA cD 10 (sk (gσ S))), (A 6, iA cI 10 (sl (gσ S))), (A 7, iA cI 10 (sr (gσ S))), (A 28, .inr (2, [.ref (A 3), .ref (A 29), .ref (A 30), .ref (A 31), .ref (A 32), .int (bI (gkn S)), .double (gt0 S), .double (gsp S)]))] [A 0, A 3, A 4, A 5, A 6, A 7, A 28]) (xQ D [A 0, A 3, A 4, A 5, A 6, A 7, A 28] (fun (_ : Unit) => some (.int (nI (sc (gσ S) + 1)))) (fun (_ : Unit) => (trmP S i x a b).1 = 0) (fun (_ : Unit) => [(A 0, .inr (6, [.ref (A 1), .ref (A 2), .ref (A 3), .ref (A 8), .ref (A 28), .ref (A 33), .double (gt (trmP S i x a b).2), .double (gh (trmP S i x a b).2), .double (gtol (trmP S i x a b).2), .int (gtk (trmP S i x a b).2), .int (grf (trmP S i x a b).2), .int (bI (ggo (trmP S i x a b).2))])), (A 3, .inr (0, [.ref (A 4), .ref (A 5), .ref (A 6), .ref (A 7), .int (nI (sn (gσ (trmP S i x a b).2))), .int (nI (sc (gσ (trmP S i x a b).2)))])), (A 4, iA cI 10 (so (gσ (trmP S i x a b).2))), (A 5, dA cD 10 (sk (gσ (trmP S i x a b).2))), (A 6, iA cI 10 (sl (gσ (trmP S i x a b).2))), (A 7, iA cI 10 (sr (gσ (trmP S i x a b).2))), (A 28, .inr (2, [.ref (A 3), .ref (A 29), .ref (A 30), .ref (A 31), .ref (A 32), .int (bI (gkn (trmP S i x a b).2)), .double (gt0 (trmP S i x a b).2), .double (gsp (trmP S i x a b).2)]))])) (yX D [A 0, A 3, A 4, A 5, A 6, A 7, A 28] (fun (E_ : String) (_ : Unit) => ((trmP S i x a b).1 = 1 ∧ E_ = eIA) ∨ ((trmP S i x a b).1 = 2 ∧ E_ = eIS)) (fun (_ : Unit) => [(A 0, .inr (6, [.ref (A 1), .ref (A 2), .ref (A 3), .ref (A 8), .ref (A 28), .ref (A 33), .double (gt (trmP S i x a b).2), .double (gh (trmP S i x a b).2), .double (gtol (trmP S i x a b).2), .int (gtk (trmP S i x a b).2), .int (grf (trmP S i x a b).2), .int (bI (ggo (trmP S i x a b).2))])), (A 3, .inr (0, [.ref (A 4), .ref (A 5), .ref (A 6), .ref (A 7), .int (nI (sn (gσ (trmP S i x a b).2))), .int (nI (sc (gσ (trmP S i x a b).2)))])), (A 4, iA cI 10 (so (gσ (trmP S i x a b).2))), (A 5, dA cD 10 (sk (gσ (trmP S i x a b).2))), (A 6, iA cI 10 (sl (gσ (trmP S i x a b).2))), (A 7, iA cI 10 (sr (gσ (trmP S i x a b).2))), (A 28, .inr (2, [.ref (A 3), .ref (A 29), .ref (A 30), .ref (A 31), .ref (A 32), .int (bI (gkn (trmP S i x a b).2)), .double (gt0 (trmP S i x a b).2), .double (gsp (trmP S i x a b).2)]))])) 1 6 (fun q => q ∈ ([A 0, A 3, A 4, A 5, A 6, A 7, A 28] : List Nat)) := by
  refine xofT (by decide) (Nat.le_of_ble_eq_true rfl) ?_
  intro p e s m below meth c ls hx hb hr hml hg hown hlk hex hI hP hd hT hZ hS hl
  have hown : s.vm.findClass RX6 = some m.cls := hown
  have hd : dj [A 0, A 3, A 4, A 5, A 6, A 7, A 28] := hd
  have hl : lv_has ls 6 [(0, .ref (A 0)), (1, .int i), (2, .double x), (4, .int a), (5, .int b)] := hl
  refine lv_aload_n hx hb dX6_term_0 rfl (lv_at hl 0 rfl) ?_
  refine gX6 hx hb hg hown hI hP 0 rfl 2 rfl mF_X6_19 rfl dX6_term_1 ?_
  refine lv_iload_n hx hb dX6_term_4 rfl (lv_at hl 1 rfl) ?_
  refine xci (xV (As := [.int i]) (rest := []) hx hb hml hown hg (c_hasValue l D cD cI cM cL (A 3) (A 4) (A 5) (A 6) (A 7) (gσ S) i) mM_X6_59 ok_X0_hasValue rfl rfl ⟨Nat.le_of_ble_eq_true rfl, Nat.le_of_ble_eq_true rfl⟩ hI hP hd rfl [1] rfl rfl rfl rfl rfl hl.1 rfl (Nat.le_of_ble_eq_true rfl) dX6_term_5 ⟨Nat.zero_le _, Nat.zero_le _⟩) hP hd hS fa0 [] rfl rfl (fun _ => rfl) (fun _u H locs hu hP hS => ?_)
  have hP : va_P D vwCl [(A 0, .inr (6, [.ref (A 1), .ref (A 2), .ref (A 3), .ref (A 8), .ref (A 28), .ref (A 33), .double (gt S), .double (gh S), .double (gtol S), .int (gtk S), .int (grf S), .int (bI (ggo S))])), (A 3, .inr (0, [.ref (A 4), .ref (A 5), .ref (A 6), .ref (A 7), .int (nI (sn (gσ S))), .int (nI (sc (gσ S)))])), (A 4, iA cI 10 (so (gσ S))), (A 5, dA cD 10 (sk (gσ S))), (A 6, iA cI 10 (sl (gσ S))), (A 7, iA cI 10 (sr (gσ S))), (A 28, .inr (2, [.ref (A 3), .ref (A 29), .ref (A 30), .ref (A 31), .ref (A 32), .int (bI (gkn S)), .double (gt0 S), .double (gsp S)]))] H := hP
  refine lv_if_eq (tgt := 35) hx hb dX6_term_8 (by decide) (fun c_8 => ?_) (fun c_8 => ?_)
  ·
    have h1 : inV S i = false := bI_eq0.mp c_8
    have ho : trmP S i x a b = (1, S) := by unfold trmP; rw [h1]; rfl
    rw [ho]
    refine xpc (q := 35) rfl ?_
    exact xthrow hx hb htr hown hg hT hZ hT.2.1.1 f_IA mK_X6_52 in_IA at_IA bt_IA ot_IA st_66 hP hS (hl.1.trans hml.symm) hex hlk ⟨Nat.le_of_ble_eq_true rfl, Nat.le_of_ble_eq_true rfl, Nat.le_of_ble_eq_true rfl, Nat.le_of_ble_eq_true rfl⟩ (fun tS hPt hFt => ⟨(), Or.inl ⟨rfl, rfl⟩, hPt.sub [0, 1, 2, 3, 4, 5, 6] rfl, hFt⟩) dX6_term_35 dX6_term_38 dX6_term_39 dX6_term_41 dX6_term_44
  ·
    have h1 : inV S i = true := bI_ne0.mp c_8
    refine lv_aload_n hx hb dX6_term_11 rfl (lv_at hl 0 rfl) ?_
    refine gX6 hx hb hg hown hI hP 0 rfl 2 rfl mF_X6_19 rfl dX6_term_12 ?_
    refine lv_iload hx hb dX6_term_15 (lv_at hl 3 rfl) ?_
    refine xci (xV (As := [.int a]) (rest := []) hx hb hml hown hg (c_hasFactor l D cD cI cM cL (A 3) (A 4) (A 5) (A 6) (A 7) (gσ S) a) mM_X6_63 ok_X0_hasFactor rfl rfl ⟨Nat.le_of_ble_eq_true rfl, Nat.le_of_ble_eq_true rfl⟩ hI hP hd rfl [1] rfl rfl rfl rfl rfl hl.1 rfl (Nat.le_of_ble_eq_true rfl) dX6_term_17 ⟨Nat.zero_le _, Nat.zero_le _⟩) hP hd hS fa0 [] rfl rfl (fun _ => rfl) (fun _u H locs hu hP hS => ?_)
    have hP : va_P D vwCl [(A 0, .inr (6, [.ref (A 1), .ref (A 2), .ref (A 3), .ref (A 8), .ref (A 28), .ref (A 33), .double (gt S), .double (gh S), .double (gtol S), .int (gtk S), .int (grf S), .int (bI (ggo S))])), (A 3, .inr (0, [.ref (A 4), .ref (A 5), .ref (A 6), .ref (A 7), .int (nI (sn (gσ S))), .int (nI (sc (gσ S)))])), (A 4, iA cI 10 (so (gσ S))), (A 5, dA cD 10 (sk (gσ S))), (A 6, iA cI 10 (sl (gσ S))), (A 7, iA cI 10 (sr (gσ S))), (A 28, .inr (2, [.ref (A 3), .ref (A 29), .ref (A 30), .ref (A 31), .ref (A 32), .int (bI (gkn S)), .double (gt0 S), .double (gsp S)]))] H := hP
    refine lv_if_eq (tgt := 35) hx hb dX6_term_20 (by decide) (fun c_20 => ?_) (fun c_20 => ?_)
    ·
      have h2 : inF S a = false := bI_eq0.mp c_20
      have ho : trmP S i x a b = (1, S) := by unfold trmP; rw [h1, h2]; rfl
      rw [ho]
      refine xpc (q := 35) rfl ?_
      exact xthrow hx hb htr hown hg hT hZ hT.2.1.1 f_IA mK_X6_52 in_IA at_IA bt_IA ot_IA st_66 hP hS (hl.1.trans hml.symm) hex hlk ⟨Nat.le_of_ble_eq_true rfl, Nat.le_of_ble_eq_true rfl, Nat.le_of_ble_eq_true rfl, Nat.le_of_ble_eq_true rfl⟩ (fun tS hPt hFt => ⟨(), Or.inl ⟨rfl, rfl⟩, hPt.sub [0, 1, 2, 3, 4, 5, 6] rfl, hFt⟩) dX6_term_35 dX6_term_38 dX6_term_39 dX6_term_41 dX6_term_44
    ·
      have h2 : inF S a = true := bI_ne0.mp c_20
      refine lv_aload_n hx hb dX6_term_23 rfl (lv_at hl 0 rfl) ?_
      refine gX6 hx hb hg hown hI hP 0 rfl 2 rfl mF_X6_19 rfl dX6_term_24 ?_
      refine lv_iload hx hb dX6_term_27 (lv_at hl 4 rfl) ?_
      refine xci (xV (As := [.int b]) (rest := []) hx hb hml hown hg (c_hasFactor l D cD cI cM cL (A 3) (A 4) (A 5) (A 6) (A 7) (gσ S) b) mM_X6_63 ok_X0_hasFactor rfl rfl ⟨Nat.le_of_ble_eq_true rfl, Nat.le_of_ble_eq_true rfl⟩ hI hP hd rfl [1] rfl rfl rfl rfl rfl hl.1 rfl (Nat.le_of_ble_eq_true rfl) dX6_term_29 ⟨Nat.zero_le _, Nat.zero_le _⟩) hP hd hS fa0 [] rfl rfl (fun _ => rfl) (fun _u H locs hu hP hS => ?_)
      have hP : va_P D vwCl [(A 0, .inr (6, [.ref (A 1), .ref (A 2), .ref (A 3), .ref (A 8), .ref (A 28), .ref (A 33), .double (gt S), .double (gh S), .double (gtol S), .int (gtk S), .int (grf S), .int (bI (ggo S))])), (A 3, .inr (0, [.ref (A 4), .ref (A 5), .ref (A 6), .ref (A 7), .int (nI (sn (gσ S))), .int (nI (sc (gσ S)))])), (A 4, iA cI 10 (so (gσ S))), (A 5, dA cD 10 (sk (gσ S))), (A 6, iA cI 10 (sl (gσ S))), (A 7, iA cI 10 (sr (gσ S))), (A 28, .inr (2, [.ref (A 3), .ref (A 29), .ref (A 30), .ref (A 31), .ref (A 32), .int (bI (gkn S)), .double (gt0 S), .double (gsp S)]))] H := hP
      refine lv_if_ne (tgt := 45) hx hb dX6_term_32 (by decide) (fun c_32 => ?_) (fun c_32 => ?_)
      ·
        have h3 : inF S b = true := bI_ne0.mp c_32
        refine lv_dload_n hx hb dX6_term_45 rfl (lv_at hl 2 rfl) ?_
        refine lv_ldc2d (v := k64) hx hb hown (hg _ mD_X6_68) dX6_term_46 ?_
        refine xci (xS (As := [.double x, .double k64]) (rest := []) hx hb hml hown hg (c_isWithin l D cD cI cM cL x k64) mM_X6_70 ok_X6_isWithin rfl rfl ⟨Nat.le_of_ble_eq_true rfl, Nat.le_of_ble_eq_true rfl⟩ hI hP hd rfl [] rfl rfl rfl hl.1 rfl (Nat.le_of_ble_eq_true rfl) dX6_term_49 ⟨Nat.zero_le _, Nat.zero_le _⟩) hP hd hS fa0 [] rfl rfl (fun _ => rfl) (fun _u H locs hu hP hS => ?_)
        have hP : va_P D vwCl [(A 0, .inr (6, [.ref (A 1), .ref (A 2), .ref (A 3), .ref (A 8), .ref (A 28), .ref (A 33), .double (gt S), .double (gh S), .double (gtol S), .int (gtk S), .int (grf S), .int (bI (ggo S))])), (A 3, .inr (0, [.ref (A 4), .ref (A 5), .ref (A 6), .ref (A 7), .int (nI (sn (gσ S))), .int (nI (sc (gσ S)))])), (A 4, iA cI 10 (so (gσ S))), (A 5, dA cD 10 (sk (gσ S))), (A 6, iA cI 10 (sl (gσ S))), (A 7, iA cI 10 (sr (gσ S))), (A 28, .inr (2, [.ref (A 3), .ref (A 29), .ref (A 30), .ref (A 31), .ref (A 32), .int (bI (gkn S)), .double (gt0 S), .double (gsp S)]))] H := hP
        refine lv_if_ne (tgt := 65) hx hb dX6_term_52 (by decide) (fun c_52 => ?_) (fun c_52 => ?_)
        ·
          have h4 : wthn x k64 = true := bI_ne0.mp c_52
          refine lv_aload_n hx hb dX6_term_65 rfl (lv_at hl 0 rfl) ?_
          refine gX6 hx hb hg hown hI hP 0 rfl 2 rfl mF_X6_19 rfl dX6_term_66 ?_
          refine xci (xV (As := []) (rest := []) hx hb hml hown hg (c_isFull l D cD cI cM cL (A 3) (A 4) (A 5) (A 6) (A 7) (gσ S) hc) mM_X6_76 ok_X0_isFull rfl rfl ⟨Nat.le_of_ble_eq_true rfl, Nat.le_of_ble_eq_true rfl⟩ hI hP hd rfl [1] rfl rfl rfl rfl rfl hl.1 rfl (Nat.le_of_ble_eq_true rfl) dX6_term_69 ⟨Nat.zero_le _, Nat.zero_le _⟩) hP hd hS fa0 [] rfl rfl (fun _ => rfl) (fun _u H locs hu hP hS => ?_)
          have hP : va_P D vwCl [(A 0, .inr (6, [.ref (A 1), .ref (A 2), .ref (A 3), .ref (A 8), .ref (A 28), .ref (A 33), .double (gt S), .double (gh S), .double (gtol S), .int (gtk S), .int (grf S), .int (bI (ggo S))])), (A 3, .inr (0, [.ref (A 4), .ref (A 5), .ref (A 6), .ref (A 7), .int (nI (sn (gσ S))), .int (nI (sc (gσ S)))])), (A 4, iA cI 10 (so (gσ S))), (A 5, dA cD 10 (sk (gσ S))), (A 6, iA cI 10 (sl (gσ S))), (A 7, iA cI 10 (sr (gσ S))), (A 28, .inr (2, [.ref (A 3), .ref (A 29), .ref (A 30), .ref (A 31), .ref (A 32), .int (bI (gkn S)), .double (gt0 S), .double (gsp S)]))] H := hP
          refine lv_if_eq (tgt := 85) hx hb dX6_term_72 (by decide) (fun c_72 => ?_) (fun c_72 => ?_)
          ·
            have h5 := bI_eq0.mp c_72
            have ho : trmP S i x a b = (0, offS (trmS S i x a b)) := by unfold trmP; rw [h1, h2, h3, h4, h5]; rfl
            rw [ho]
            refine lv_aload_n hx hb dX6_term_85 rfl (lv_at hl 0 rfl) ?_
            refine gX6 hx hb hg hown hI hP 0 rfl 2 rfl mF_X6_19 rfl dX6_term_86 ?_
            refine lv_iload_n hx hb dX6_term_89 rfl (lv_at hl 1 rfl) ?_
            refine lv_dload_n hx hb dX6_term_90 rfl (lv_at hl 2 rfl) ?_
            refine lv_iload hx hb dX6_term_91 (lv_at hl 3 rfl) ?_
            refine lv_iload hx hb dX6_term_93 (lv_at hl 4 rfl) ?_
            refine xcv (xV (As := [.int i, .double x, .int a, .int b]) (rest := []) hx hb hml hown hg (c_add l D cD cI cM cL (A 3) (A 4) (A 5) (A 6) (A 7) (gσ S) i x a b (Nat.lt_of_not_le (of_decide_eq_false h5))) mM_X6_85 ok_X0_add rfl rfl ⟨Nat.le_of_ble_eq_true rfl, Nat.le_of_ble_eq_true rfl⟩ hI hP hd rfl [1, 2, 3, 4, 5] rfl rfl rfl rfl rfl hl.1 rfl (Nat.le_of_ble_eq_true rfl) dX6_term_95 ⟨Nat.zero_le _, Nat.zero_le _⟩) hP hd hS (fa1 (pmS pm0) (fa1 (pmS (pmS pm0)) (fa1 (pmS (pmS (pmS pm0))) (fa1 (pmS (pmS (pmS (pmS pm0)))) (fa1 (pmS (pmS (pmS (pmS (pmS pm0))))) fa0))))) [1, 2, 3, 4, 5] rfl rfl (fun _ => rfl) (fun _u H locs hu hP hS => ?_)
            have hP : va_P D vwCl [(A 0, .inr (6, [.ref (A 1), .ref (A 2), .ref (A 3), .ref (A 8), .ref (A 28), .ref (A 33), .double (gt S), .double (gh S), .double (gtol S), .int (gtk S), .int (grf S), .int (bI (ggo S))])), (A 3, .inr (0, [.ref (A 4), .ref (A 5), .ref (A 6), .ref (A 7), .int (nI (sn (gσ (trmS S i x a b)))), .int (nI (sc (gσ (trmS S i x a b))))])), (A 4, iA cI 10 (so (gσ (trmS S i x a b)))), (A 5, dA cD 10 (sk (gσ (trmS S i x a b)))), (A 6, iA cI 10 (sl (gσ (trmS S i x a b)))), (A 7, iA cI 10 (sr (gσ (trmS S i x a b)))), (A 28, .inr (2, [.ref (A 3), .ref (A 29), .ref (A 30), .ref (A 31), .ref (A 32), .int (bI (gkn S)), .double (gt0 S), .double (gsp S)]))] H := hP
            refine lv_aload_n hx hb dX6_term_98 rfl (lv_at hl 0 rfl) ?_
            refine xcv (xV (As := []) (rest := []) hx hb hml hown hg (c_breakOff l D cD cI cM cL A (fun _ => none) (trmS S i x a b) (v 0) x x x v) mM_X6_89 ok_X6_breakOff rfl rfl ⟨Nat.le_of_ble_eq_true rfl, Nat.le_of_ble_eq_true rfl⟩ hI hP hd rfl [0, 6] rfl rfl rfl rfl rfl hl.1 rfl (Nat.le_of_ble_eq_true rfl) dX6_term_99 ⟨Nat.zero_le _, Nat.zero_le _⟩) hP hd hS (fa1 pm0 (fa1 (pmS (pmS (pmS (pmS (pmS (pmS pm0)))))) fa0)) [0, 6] rfl rfl (fun _ => rfl) (fun _u H locs hu hP hS => ?_)
            have hP : va_P D vwCl [(A 0, .inr (6, [.ref (A 1), .ref (A 2), .ref (A 3), .ref (A 8), .ref (A 28), .ref (A 33), .double (gt S), .double (gh S), .double (gtol S), .int (gtk S), .int (grf S), .int (nI 0)])), (A 3, .inr (0, [.ref (A 4), .ref (A 5), .ref (A 6), .ref (A 7), .int (nI (sn (gσ (trmS S i x a b)))), .int (nI (sc (gσ (trmS S i x a b))))])), (A 4, iA cI 10 (so (gσ (trmS S i x a b)))), (A 5, dA cD 10 (sk (gσ (trmS S i x a b)))), (A 6, iA cI 10 (sl (gσ (trmS S i x a b)))), (A 7, iA cI 10 (sr (gσ (trmS S i x a b)))), (A 28, .inr (2, [.ref (A 3), .ref (A 29), .ref (A 30), .ref (A 31), .ref (A 32), .int (nI 0), .double (gt0 S), .double (gsp S)]))] H := hP
            refine lv_aload_n hx hb dX6_term_102 rfl (lv_at hl 0 rfl) ?_
            refine gX6 hx hb hg hown hI hP 0 rfl 2 rfl mF_X6_19 rfl dX6_term_103 ?_
            refine gX0 hx hb hg hown hI hP 1 rfl 5 rfl mF_X6_92 rfl dX6_term_106 ?_
            exact W.widen (Nat.zero_le 1) (Nat.zero_le 6) (vx_ret (W.iret hx hb hr (fun tS hTS hWS => ⟨(), rfl, rfl, by rw [hTS]; exact hP.sub [0, 1, 2, 3, 4, 5, 6] rfl, hS.F hTS⟩) hS.2.2 dX6_term_109))
          ·
            have h5 := bI_ne0.mp c_72
            have ho : trmP S i x a b = (2, S) := by unfold trmP; rw [h1, h2, h3, h4, h5]; rfl
            rw [ho]
            refine xpc (q := 75) rfl ?_
            exact xthrow hx hb htr hown hg hT hZ hT.2.1.2.1 f_IS mK_X6_80 in_IS at_IS bt_IS ot_IS st_82 hP hS (hl.1.trans hml.symm) hex hlk ⟨Nat.le_of_ble_eq_true rfl, Nat.le_of_ble_eq_true rfl, Nat.le_of_ble_eq_true rfl, Nat.le_of_ble_eq_true rfl⟩ (fun tS hPt hFt => ⟨(), Or.inr ⟨rfl, rfl⟩, hPt.sub [0, 1, 2, 3, 4, 5, 6] rfl, hFt⟩) dX6_term_75 dX6_term_78 dX6_term_79 dX6_term_81 dX6_term_84
        ·
          have h4 : wthn x k64 = false := bI_eq0.mp c_52
          have ho : trmP S i x a b = (1, S) := by unfold trmP; rw [h1, h2, h3, h4]; rfl
          rw [ho]
          refine xpc (q := 55) rfl ?_
          exact xthrow hx hb htr hown hg hT hZ hT.2.1.1 f_IA mK_X6_52 in_IA at_IA bt_IA ot_IA st_74 hP hS (hl.1.trans hml.symm) hex hlk ⟨Nat.le_of_ble_eq_true rfl, Nat.le_of_ble_eq_true rfl, Nat.le_of_ble_eq_true rfl, Nat.le_of_ble_eq_true rfl⟩ (fun tS hPt hFt => ⟨(), Or.inl ⟨rfl, rfl⟩, hPt.sub [0, 1, 2, 3, 4, 5, 6] rfl, hFt⟩) dX6_term_55 dX6_term_58 dX6_term_59 dX6_term_61 dX6_term_64
      ·
        have h3 : inF S b = false := bI_eq0.mp c_32
        have ho : trmP S i x a b = (1, S) := by unfold trmP; rw [h1, h2, h3]; rfl
        rw [ho]
        refine xpc (q := 35) rfl ?_
        exact xthrow hx hb htr hown hg hT hZ hT.2.1.1 f_IA mK_X6_52 in_IA at_IA bt_IA ot_IA st_66 hP hS (hl.1.trans hml.symm) hex hlk ⟨Nat.le_of_ble_eq_true rfl, Nat.le_of_ble_eq_true rfl, Nat.le_of_ble_eq_true rfl, Nat.le_of_ble_eq_true rfl⟩ (fun tS hPt hFt => ⟨(), Or.inl ⟨rfl, rfl⟩, hPt.sub [0, 1, 2, 3, 4, 5, 6] rfl, hFt⟩) dX6_term_35 dX6_term_38 dX6_term_39 dX6_term_41 dX6_term_44
