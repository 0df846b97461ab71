theorem adz_ag {σ : Sys} {t r : UInt64} {y g g' : Nat → UInt64} (hn : sn σ ≤ 3) (h : agV (sn σ) g g') : adz σ t y r g = adz σ t y r g' := by
  have e : agV (sn σ) (adp σ t y r g) (adp σ t y r g') := fun i hi => by unfold adp; rw [h i hi]
  funext i
  unfold adz
  rw [fs_ag hn e]
theorem stepZ_ag {σ : Sys} {t r : UInt64} {y g g' : Nat → UInt64} {b : Bool} (hn : sn σ ≤ 3) (h : b = true → agV (sn σ) g g') (m : Nat) : stepZ σ t y r g b m = stepZ σ t y r g' b m := by
  rcases (show m = 0 ∨ m = 1 ∨ m = 2 ∨ m = 3 ∨ m = 4 ∨ ∃ k, m = k + 5 by
    rcases Nat.lt_or_ge m 5 with h | h
    · omega
    · exact Or.inr (Or.inr (Or.inr (Or.inr (Or.inr ⟨m - 5, by omega⟩))))) with rfl | rfl | rfl | rfl | rfl | ⟨k, rfl⟩
  · exact Eq.trans (show stepZ σ t y r g b 0 = some (mv y r (fs σ t y)) from rfl) (show some (mv y r (fs σ t y)) = stepZ σ t y r g' b 0 from rfl)
  · exact Eq.trans (show stepZ σ t y r g b 1 = some (rgz σ t y r) from rfl) (show some (rgz σ t y r) = stepZ σ t y r g' b 1 from rfl)
  · exact Eq.trans (show stepZ σ t y r g b 2 = some (paz σ t y r) from rfl) (show some (paz σ t y r) = stepZ σ t y r g' b 2 from rfl)
  · have e : (if b then adz σ t y r g else rgz σ t y r) = (if b then adz σ t y r g' else rgz σ t y r) := by
      by_cases hb : b = true
      · rw [adz_ag hn (h hb)]
      · rw [if_neg hb, if_neg hb]
    exact Eq.trans (show stepZ σ t y r g b 3 = some (if b then adz σ t y r g else rgz σ t y r) from rfl) ((congrArg some e).trans (show some (if b then adz σ t y r g' else rgz σ t y r) = stepZ σ t y r g' b 3 from rfl))
  · exact Eq.trans (show stepZ σ t y r g b 4 = imp σ (FP.dadd t r) r y 8 y from rfl) (show imp σ (FP.dadd t r) r y 8 y = stepZ σ t y r g' b 4 from rfl)
  · exact Eq.trans (show stepZ σ t y r g b (k + 5) = some (miz σ t y r) from rfl) (show some (miz σ t y r) = stepZ σ t y r g' b (k + 5) from rfl)
theorem stepR_ag {σ : Sys} {t r : UInt64} {y g g' : Nat → UInt64} {b : Bool} {m : Nat} (hn : sn σ ≤ 3) (h : b = true → agV (sn σ) g g') : stepR σ t y r g b m = stepR σ t y r g' b m := by
  unfold stepR
  rw [stepZ_ag hn h m]
/-- what the reference keeps for ADAMS -/
def kpK (S : St) (v : Nat → Nat → UInt64) : Prop := ggo S = true → v 10 1 = gsp S ∧ agV (sn (gσ S)) (v 8) (gg S)
theorem tryR_kp {S : St} {v : Nat → Nat → UInt64} {m : Nat} {r : UInt64} (hn : sn (gσ S) ≤ 3) (h : kpK S v) : stepR (gσ S) (gt S) (gy S) r (v 8) (ggo S && decide (deq (v 10 1) r)) m = tryR S m r := by
  show stepR (gσ S) (gt S) (gy S) r (v 8) (ggo S && decide (deq (v 10 1) r)) m = stepR (gσ S) (gt S) (gy S) r (gg S) (ggo S && decide (deq (gsp S) r)) m
  rcases Bool.eq_false_or_eq_true (ggo S) with hg | hg
  · obtain ⟨h1, h2⟩ := h hg
    rw [h1]
    exact stepR_ag hn (fun _ => h2)
  · rw [hg]
    exact stepR_ag hn (fun q => by cases q)
theorem kp_g {S : St} {v : Nat → Nat → UInt64} {B : Int} {E : Nat} {r : UInt64} (hv : Inv B E S) (h : kpK S v) : (ggo S && decide (deq (v 10 1) r)) = true → ∀ i, i < sn (gσ S) → bd 1 50 (v 8 i) := fun hb i hi => by
  have h1 : ggo S = true := by
    cases hg : ggo S with
    | true => rfl
    | false => rw [hg] at hb; cases hb
  rw [(h h1).2 i hi]
  exact ((hv.2.2.2.2.2.1 (hv.2.2.2.2.2.2.1 h1)).1 i hi).2.1
def pkM (u : Nat → Nat → UInt64) (bf : Nat → UInt64) (e ks : UInt64) : Nat → Nat → UInt64 := fun k => bif Nat.beq k 8 then bf else bif Nat.beq k 10 then (fun j => bif Nat.beq j 0 then e else ks) else u k
theorem kpK_rf {S : St} {v : Nat → Nat → UInt64} : kpK (rfS S) v := fun h => by cases h
theorem kpK_take {S : St} {u : Nat → Nat → UInt64} {m : Nat} {r tb e ks : UInt64} {z g : Nat → UInt64} : kpK (takeS S m r z tb) (pkM u (if m = 3 then mix (sn (gσ S)) (fs (gσ S) (gt S) (gy S)) g else g) e (if m = 3 then r else ks)) := fun h => by
  have hm : m = 3 := of_decide_eq_true h
  subst hm
  exact ⟨rfl, fun i hi => by
    have hi : i < sn (gσ S) := hi
    show mix _ _ _ i = mix _ _ _ i
    rw [mix_lt hi, mix_lt hi]⟩
set_option maxHeartbeats 4000000 in
set_option maxRecDepth 100000 in
theorem r_step (l : Launch) (D : va_G) (cD cI cM cL : ClassId) (A : Nat → Nat) (S : St) (th fl : Int32) (v : Nat → Nat → UInt64) (i : Int32) (B : Int) (E : Nat) (hv : Inv B E S) (hB : B ≤ BT) (hE : E < 2 ^ 29) (hkp : kpK S v) : Met l yX7_step (Cond.code yX7_step cX7_step 4 none :: lw_good) { frames := 5, cells := 0, slots := 0, locals := 121 } (xPc D (tyL cD cI cM cL) [.ref (A 0), .int i] [(A 0, mO A th (nI (sn (gσ S))) (nI (sc (gσ S))) (gt S) (gh S) (gtol S) (v 10 0) fl (bI (ggo S)) (v 10 1) (bI (gkn S)) (gt0 S) (gsp S) (wdI S) (glv S) (gtk S) (grf S) (nI (gev S))), (A 1, iA cI 10 (so (gσ S))), (A 2, iA cI 10 (sl (gσ S))), (A 3, iA cI 10 (sr (gσ S))), (A 4, dA cD 10 (sk (gσ S))), (A 5, dA cD 3 (gy S)), (A 6, dA cD 3 (v 0)), (A 7, dA cD 3 (v 1)), (A 8, dA cD 3 (v 2)), (A 9, dA cD 3 (v 3)), (A 10, dA cD 3 (v 4)), (A 11, dA cD 3 (v 5)), (A 12, dA cD 3 (v 6)), (A 13, dA cD 9 (v 7)), (A 14, dA cD 3 (v 8)), (A 15, dA cD 3 (v 9)), (A 16, dA cD 3 (gy0 S)), (A 17, dA cD 3 (gg S)), (A 18, dA cD 3 (gq S)), (A 19, dA cD 8 (gtm S))]) (xQ D [A 0, A 5, A 6, A 7, A 8, A 9, A 10, A 11, A 12, A 13, A 14, A 15, A 16, A 17, A 18, A 19] (fun (u : (Nat → Nat → UInt64) × Int32) => none) (fun (u : (Nat → Nat → UInt64) × Int32) => kpK (stpP S i).2 u.1) (fun (u : (Nat → Nat → UInt64) × Int32) => [(A 0, mO A (nI (stpP S i).1) (nI (sn (gσ ((stpP S i).2)))) (nI (sc (gσ ((stpP S i).2)))) (gt ((stpP S i).2)) (gh ((stpP S i).2)) (gtol ((stpP S i).2)) (u.1 10 0) u.2 (bI (ggo ((stpP S i).2))) (u.1 10 1) (bI (gkn ((stpP S i).2))) (gt0 ((stpP S i).2)) (gsp ((stpP S i).2)) (wdI ((stpP S i).2)) (glv ((stpP S i).2)) (gtk ((stpP S i).2)) (grf ((stpP S i).2)) (nI (gev ((stpP S i).2)))), (A 5, dA cD 3 (gy ((stpP S i).2))), (A 6, dA cD 3 (u.1 0)), (A 7, dA cD 3 (u.1 1)), (A 8, dA cD 3 (u.1 2)), (A 9, dA cD 3 (u.1 3)), (A 10, dA cD 3 (u.1 4)), (A 11, dA cD 3 (u.1 5)), (A 12, dA cD 3 (u.1 6)), (A 13, dA cD 9 (u.1 7)), (A 14, dA cD 3 (u.1 8)), (A 15, dA cD 3 (u.1 9)), (A 16, dA cD 3 (gy0 ((stpP S i).2))), (A 17, dA cD 3 (gg ((stpP S i).2))), (A 18, dA cD 3 (gq ((stpP S i).2))), (A 19, dA cD 8 (gtm ((stpP S i).2)))])) 0 0 (fun q => q ∈ ([A 0, A 5, A 6, A 7, A 8, A 9, A 10, A 11, A 12, A 13, A 14, A 15, A 16, A 17, A 18, A 19] : List Nat)) := by
  refine xofW (adr := [A 0, A 5, A 6, A 7, A 8, A 9, A 10, A 11, A 12, A 13, A 14, A 15, A 16, A 17, A 18, A 19]) (by decide) (Nat.le_of_ble_eq_true rfl) ?_
  intro p e s m below meth c ls hx hb hr hml hg hown hlk hI hP hd hS hl
  have hown : s.vm.findClass RX7 = some m.cls := hown
  have hd : dj [A 0, A 1, A 2, A 3, A 4, A 5, A 6, A 7, A 8, A 9, A 10, A 11, A 12, A 13, A 14, A 15, A 16, A 17, A 18, A 19] := hd
  have hl : lv_has ls 4 [(0, .ref (A 0)), (1, .int i)] := hl
  have hn : sn (gσ S) ≤ 3 := hv.1.2.1
  have hk := hv.st hB hv.2.2.1.1
  refine lv_aload_n hx hb dX7_step_0 rfl (lv_at hl 0 rfl) ?_
  refine lv_iload_n hx hb dX7_step_1 rfl (lv_at hl 1 rfl) ?_
  refine lv_bipush (v := nI 6) hx hb dX7_step_2 (by decide) ?_
  refine xci (xS (As := [.int i, .int (nI 6)]) (rest := [.ref (A 0)]) hx hb hml hown hg (r_out l D cD cI cM cL i (nI 6)) mM_X7_206 ok_X7_out rfl rfl ⟨Nat.le_of_ble_eq_true rfl, Nat.le_of_ble_eq_true rfl⟩ hI hP hd rfl [] rfl rfl rfl hl.1 rfl (Nat.le_of_ble_eq_true rfl) dX7_step_4 ⟨Nat.zero_le _, Nat.zero_le _⟩) hP hd hS fa0 [] rfl rfl (fun _ => rfl) (fun _u H locs hu hP hS => ?_)
  have hP : va_P D vwCl [(A 0, mO A th (nI (sn (gσ S))) (nI (sc (gσ S))) (gt S) (gh S) (gtol S) (v 10 0) fl (bI (ggo S)) (v 10 1) (bI (gkn S)) (gt0 S) (gsp S) (wdI S) (glv S) (gtk S) (grf S) (nI (gev S))), (A 1, iA cI 10 (so (gσ S))), (A 2, iA cI 10 (sl (gσ S))), (A 3, iA cI 10 (sr (gσ S))), (A 4, dA cD 10 (sk (gσ S))), (A 5, dA cD 3 (gy S)), (A 6, dA cD 3 (v 0)), (A 7, dA cD 3 (v 1)), (A 8, dA cD 3 (v 2)), (A 9, dA cD 3 (v 3)), (A 10, dA cD 3 (v 4)), (A 11, dA cD 3 (v 5)), (A 12, dA cD 3 (v 6)), (A 13, dA cD 9 (v 7)), (A 14, dA cD 3 (v 8)), (A 15, dA cD 3 (v 9)), (A 16, dA cD 3 (gy0 S)), (A 17, dA cD 3 (gg S)), (A 18, dA cD 3 (gq S)), (A 19, dA cD 8 (gtm S))] H := hP
  refine lv_if_eq (tgt := 14) hx hb dX7_step_7 (by decide) (fun c_7 => ?_) (fun c_7 => ?_)
  ·
    have hm0 : mth i = true := by rw [← mth6]; exact bn0.mp c_7
    obtain ⟨j, hmm, hji, hj3⟩ := mth_nat hm0
    subst hji
    have hl : lv_has ls 4 [(0, .ref (A 0)), (1, .int (nI j))] := hl
    refine lv_iconst (v := nI 0) hx hb dX7_step_14 (by decide) ?_
    refine pX7 hx hb hg hown hI hP hd rfl hS 0 rfl 0 rfl mF_X7_84 rfl rfl rfl (Nat.le_of_ble_eq_true rfl) pm0 dX7_step_15 (fun H locs hP hS => ?_)
    have hP : va_P D vwCl [(A 0, mO A (nI 0) (nI (sn (gσ S))) (nI (sc (gσ S))) (gt S) (gh S) (gtol S) (v 10 0) fl (bI (ggo S)) (v 10 1) (bI (gkn S)) (gt0 S) (gsp S) (wdI S) (glv S) (gtk S) (grf S) (nI (gev S))), (A 1, iA cI 10 (so (gσ S))), (A 2, iA cI 10 (sl (gσ S))), (A 3, iA cI 10 (sr (gσ S))), (A 4, dA cD 10 (sk (gσ S))), (A 5, dA cD 3 (gy S)), (A 6, dA cD 3 (v 0)), (A 7, dA cD 3 (v 1)), (A 8, dA cD 3 (v 2)), (A 9, dA cD 3 (v 3)), (A 10, dA cD 3 (v 4)), (A 11, dA cD 3 (v 5)), (A 12, dA cD 3 (v 6)), (A 13, dA cD 9 (v 7)), (A 14, dA cD 3 (v 8)), (A 15, dA cD 3 (v 9)), (A 16, dA cD 3 (gy0 S)), (A 17, dA cD 3 (gg S)), (A 18, dA cD 3 (gq S)), (A 19, dA cD 8 (gtm S))] H := hP
    refine lv_aload_n hx hb dX7_step_18 rfl (lv_at hl 0 rfl) ?_
    refine gX7 hx hb hg hown hI hP 0 rfl 0 rfl mF_X7_84 rfl dX7_step_19 ?_
    refine lv_if_le (tgt := 26) hx hb dX7_step_22 (by decide) (fun c_22 => ?_) (fun c_22 => (c_22 (by decide)).elim)
    refine lv_aload_n hx hb dX7_step_26 rfl (lv_at hl 0 rfl) ?_
    refine gX7 hx hb hg hown hI hP 0 rfl 8 rfl mF_X7_29 rfl dX7_step_27 ?_
    refine lv_dstore_n (lv' := [(2, .double (gh S)), (0, .ref (A 0)), (1, .int (nI j))]) hx hb dX7_step_30 rfl hl (by decide) rfl (fun ls hl => ?_)
    refine lv_aload_n hx hb dX7_step_31 rfl (lv_at hl 1 rfl) ?_
    refine lv_iload_n hx hb dX7_step_32 rfl (lv_at hl 2 rfl) ?_
    refine lv_dload_n hx hb dX7_step_33 rfl (lv_at hl 0 rfl) ?_
    have htr := tryR_kp (m := j) (r := gh S) hn hkp
    rcases hz : tryR S j (gh S) with _ | z
    ·
      refine xci (xV (As := [.int (nI j), .double (gh S)]) (rest := []) hx hb hml hown hg (r_tried l D cD cI cM cL A (gσ S) (nI 0) (gt S) (gh S) (gtol S) (v 10 0) fl (ggo S) (v 10 1) (bI (gkn S)) (gt0 S) (gsp S) (wdI S) (glv S) (gtk S) (grf S) (nI (gev S)) (gy S) (v 8) v (gh S) j (none) hk (kp_g hv hkp) hmm (htr.trans hz)) mM_X7_222 ok_X7_tried rfl rfl ⟨Nat.le_of_ble_eq_true rfl, Nat.le_of_ble_eq_true rfl⟩ hI hP hd rfl [0, 1, 2, 3, 4, 5, 6, 7, 8, 9, 10, 11, 12, 13, 14, 15] rfl rfl rfl rfl rfl hl.1 rfl (Nat.le_of_ble_eq_true rfl) dX7_step_34 ⟨Nat.zero_le _, Nat.zero_le _⟩) hP hd hS (fa1 pm0 (fa1 (pmS (pmS pm0)) (fa1 (pmS (pmS (pmS pm0))) (fa1 (pmS (pmS (pmS (pmS pm0)))) (fa1 (pmS (pmS (pmS (pmS (pmS pm0))))) (fa1 (pmS (pmS (pmS (pmS (pmS (pmS pm0)))))) (fa1 (pmS (pmS (pmS (pmS (pmS (pmS (pmS pm0))))))) (fa1 (pmS (pmS (pmS (pmS (pmS (pmS (pmS (pmS pm0)))))))) (fa1 (pmS (pmS (pmS (pmS (pmS (pmS (pmS (pmS (pmS pm0))))))))) (fa1 (pmS (pmS (pmS (pmS (pmS (pmS (pmS (pmS (pmS (pmS pm0)))))))))) (fa1 (pmS (pmS (pmS (pmS (pmS (pmS (pmS (pmS (pmS (pmS (pmS pm0))))))))))) fa0))))))))))) [0, 6, 7, 8, 9, 10, 11, 12, 13, 14, 15] rfl rfl (fun _ => rfl) (fun u H locs hu hP hS => ?_)
      have hu1 := hu
      have hP : va_P D vwCl [(A 0, mO A (nI 0) (nI (sn (gσ S))) (nI (sc (gσ S))) (gt S) (gh S) (gtol S) (if j = 2 then errP S (gh S) else FP.dconst0) (nI 1) (nI 0) (if j = 3 then gh S else v 10 1) (bI (gkn S)) (gt0 S) (gsp S) (wdI S) (glv S) (gtk S) (grf S + nI 1) (nI (gev S))), (A 1, iA cI 10 (so (gσ S))), (A 2, iA cI 10 (sl (gσ S))), (A 3, iA cI 10 (sr (gσ S))), (A 4, dA cD 10 (sk (gσ S))), (A 5, dA cD 3 (gy S)), (A 6, dA cD 3 (u 0)), (A 7, dA cD 3 (u 1)), (A 8, dA cD 3 (u 2)), (A 9, dA cD 3 (u 3)), (A 10, dA cD 3 (u 4)), (A 11, dA cD 3 (u 5)), (A 12, dA cD 3 (u 6)), (A 13, dA cD 9 (u 7)), (A 14, dA cD 3 (if j = 3 then mix (sn (gσ S)) (fs (gσ S) (gt S) (gy S)) (v 8) else v 8)), (A 15, dA cD 3 (u 9)), (A 16, dA cD 3 (gy0 S)), (A 17, dA cD 3 (gg S)), (A 18, dA cD 3 (gq S)), (A 19, dA cD 8 (gtm S))] H := hP
      refine lv_if_eq (tgt := 54) hx hb dX7_step_37 (by decide) (fun c_37 => ?_) (fun c_37 => (c_37 (bI_eq0.mpr rfl)).elim)
      rw [stp_n hm0 hj3 hz]
      refine lv_aload_n hx hb dX7_step_54 rfl (lv_at hl 1 rfl) ?_
      refine lv_iconst (v := nI 2) hx hb dX7_step_55 (by decide) ?_
      refine pX7 hx hb hg hown hI hP hd rfl hS 0 rfl 0 rfl mF_X7_84 rfl rfl rfl (Nat.le_of_ble_eq_true rfl) pm0 dX7_step_56 (fun H locs hP hS => ?_)
      have hP : va_P D vwCl [(A 0, mO A (nI 2) (nI (sn (gσ S))) (nI (sc (gσ S))) (gt S) (gh S) (gtol S) (if j = 2 then errP S (gh S) else FP.dconst0) (nI 1) (nI 0) (if j = 3 then gh S else v 10 1) (bI (gkn S)) (gt0 S) (gsp S) (wdI S) (glv S) (gtk S) (grf S + nI 1) (nI (gev S))), (A 1, iA cI 10 (so (gσ S))), (A 2, iA cI 10 (sl (gσ S))), (A 3, iA cI 10 (sr (gσ S))), (A 4, dA cD 10 (sk (gσ S))), (A 5, dA cD 3 (gy S)), (A 6, dA cD 3 (u 0)), (A 7, dA cD 3 (u 1)), (A 8, dA cD 3 (u 2)), (A 9, dA cD 3 (u 3)), (A 10, dA cD 3 (u 4)), (A 11, dA cD 3 (u 5)), (A 12, dA cD 3 (u 6)), (A 13, dA cD 9 (u 7)), (A 14, dA cD 3 (if j = 3 then mix (sn (gσ S)) (fs (gσ S) (gt S) (gy S)) (v 8) else v 8)), (A 15, dA cD 3 (u 9)), (A 16, dA cD 3 (gy0 S)), (A 17, dA cD 3 (gg S)), (A 18, dA cD 3 (gq S)), (A 19, dA cD 8 (gtm S))] H := hP
      exact W.vret hx hb hr (fun tS hTS hWS => ⟨(pkM u (if j = 3 then mix (sn (gσ S)) (fs (gσ S) (gt S) (gy S)) (v 8) else v 8) (if j = 2 then errP S (gh S) else FP.dconst0) (if j = 3 then gh S else v 10 1), nI 1), rfl, kpK_rf, by rw [hTS]; exact hP.sub [0, 5, 6, 7, 8, 9, 10, 11, 12, 13, 14, 15, 16, 17, 18, 19] rfl, hS.F hTS⟩) hS.2.2 dX7_step_59
    ·
      refine xci (xV (As := [.int (nI j), .double (gh S)]) (rest := []) hx hb hml hown hg (r_tried l D cD cI cM cL A (gσ S) (nI 0) (gt S) (gh S) (gtol S) (v 10 0) fl (ggo S) (v 10 1) (bI (gkn S)) (gt0 S) (gsp S) (wdI S) (glv S) (gtk S) (grf S) (nI (gev S)) (gy S) (v 8) v (gh S) j (some z) hk (kp_g hv hkp) hmm (htr.trans hz)) mM_X7_222 ok_X7_tried rfl rfl ⟨Nat.le_of_ble_eq_true rfl, Nat.le_of_ble_eq_true rfl⟩ hI hP hd rfl [0, 1, 2, 3, 4, 5, 6, 7, 8, 9, 10, 11, 12, 13, 14, 15] rfl rfl rfl rfl rfl hl.1 rfl (Nat.le_of_ble_eq_true rfl) dX7_step_34 ⟨Nat.zero_le _, Nat.zero_le _⟩) hP hd hS (fa1 pm0 (fa1 (pmS (pmS pm0)) (fa1 (pmS (pmS (pmS pm0))) (fa1 (pmS (pmS (pmS (pmS pm0)))) (fa1 (pmS (pmS (pmS (pmS (pmS pm0))))) (fa1 (pmS (pmS (pmS (pmS (pmS (pmS pm0)))))) (fa1 (pmS (pmS (pmS (pmS (pmS (pmS (pmS pm0))))))) (fa1 (pmS (pmS (pmS (pmS (pmS (pmS (pmS (pmS pm0)))))))) (fa1 (pmS (pmS (pmS (pmS (pmS (pmS (pmS (pmS (pmS pm0))))))))) (fa1 (pmS (pmS (pmS (pmS (pmS (pmS (pmS (pmS (pmS (pmS pm0)))))))))) (fa1 (pmS (pmS (pmS (pmS (pmS (pmS (pmS (pmS (pmS (pmS (pmS pm0))))))))))) fa0))))))))))) [0, 6, 7, 8, 9, 10, 11, 12, 13, 14, 15] rfl rfl (fun _ => rfl) (fun u H locs hu hP hS => ?_)
      have hu1 := hu
      have hP : va_P D vwCl [(A 0, mO A (nI 0) (nI (sn (gσ S))) (nI (sc (gσ S))) (gt S) (gh S) (gtol S) (if j = 2 then errP S (gh S) else FP.dconst0) (nI 0) (bI (decide (j = 3))) (if j = 3 then gh S else v 10 1) (bI (gkn S)) (gt0 S) (gsp S) (wdI S) (glv S) (gtk S) (grf S) (nI (gev S))), (A 1, iA cI 10 (so (gσ S))), (A 2, iA cI 10 (sl (gσ S))), (A 3, iA cI 10 (sr (gσ S))), (A 4, dA cD 10 (sk (gσ S))), (A 5, dA cD 3 (gy S)), (A 6, dA cD 3 (u 0)), (A 7, dA cD 3 (u 1)), (A 8, dA cD 3 (u 2)), (A 9, dA cD 3 (u 3)), (A 10, dA cD 3 (u 4)), (A 11, dA cD 3 (u 5)), (A 12, dA cD 3 (u 6)), (A 13, dA cD 9 (u 7)), (A 14, dA cD 3 (if j = 3 then mix (sn (gσ S)) (fs (gσ S) (gt S) (gy S)) (v 8) else v 8)), (A 15, dA cD 3 (u 9)), (A 16, dA cD 3 (gy0 S)), (A 17, dA cD 3 (gg S)), (A 18, dA cD 3 (gq S)), (A 19, dA cD 8 (gtm S))] H := hP
      refine lv_if_eq (tgt := 54) hx hb dX7_step_37 (by decide) (fun c_37 => absurd c_37 (bI_ne0.mpr rfl)) (fun c_37 => ?_)
      rw [stp_s hm0 hj3 hz]
      refine lv_aload_n hx hb dX7_step_40 rfl (lv_at hl 1 rfl) ?_
      refine lv_dload_n hx hb dX7_step_41 rfl (lv_at hl 0 rfl) ?_
      refine lv_aload_n hx hb dX7_step_42 rfl (lv_at hl 1 rfl) ?_
      refine gX7 hx hb hg hown hI hP 0 rfl 7 rfl mF_X7_98 rfl dX7_step_43 ?_
      refine lv_dload_n hx hb dX7_step_46 rfl (lv_at hl 0 rfl) ?_
      refine lv_dadd hx hb dX7_step_47 ((t2_bd hk hv.2.2.1.1).nn) ?_
      refine xcv (xV (As := [.double (gh S), .double (FP.dadd (gt S) (gh S))]) (rest := []) hx hb hml hown hg (r_take l D cD cI cM cL A S (nI 0) (if j = 2 then errP S (gh S) else FP.dconst0) (nI 0) (bI (decide (j = 3))) (if j = 3 then gh S else v 10 1) j (gh S) (FP.dadd (gt S) (gh S)) z (u 0) B E hv hB hv.2.2.1.1 hE (hu1 z rfl) (stepR_bd hk hv.g hz)) mM_X7_226 ok_X7_take rfl rfl ⟨Nat.le_of_ble_eq_true rfl, Nat.le_of_ble_eq_true rfl⟩ hI hP hd rfl [0, 1, 2, 3, 4, 5, 6, 16, 17, 18, 19] rfl rfl rfl rfl rfl hl.1 rfl (Nat.le_of_ble_eq_true rfl) dX7_step_48 ⟨Nat.zero_le _, Nat.zero_le _⟩) hP hd hS (fa1 pm0 (fa1 (pmS pm0) (fa1 (pmS (pmS (pmS (pmS (pmS (pmS (pmS (pmS (pmS (pmS (pmS (pmS pm0)))))))))))) (fa1 (pmS (pmS (pmS (pmS (pmS (pmS (pmS (pmS (pmS (pmS (pmS (pmS (pmS pm0))))))))))))) (fa1 (pmS (pmS (pmS (pmS (pmS (pmS (pmS (pmS (pmS (pmS (pmS (pmS (pmS (pmS pm0)))))))))))))) (fa1 (pmS (pmS (pmS (pmS (pmS (pmS (pmS (pmS (pmS (pmS (pmS (pmS (pmS (pmS (pmS pm0))))))))))))))) fa0)))))) [0, 5, 16, 17, 18, 19] rfl rfl (fun _ => rfl) (fun _u H locs hu hP hS => ?_)
      have hP : va_P D vwCl [(A 0, mO A (nI 0) (nI (sn (gσ (takeS S j (gh S) z (FP.dadd (gt S) (gh S)))))) (nI (sc (gσ (takeS S j (gh S) z (FP.dadd (gt S) (gh S)))))) (gt (takeS S j (gh S) z (FP.dadd (gt S) (gh S)))) (gh (takeS S j (gh S) z (FP.dadd (gt S) (gh S)))) (gtol (takeS S j (gh S) z (FP.dadd (gt S) (gh S)))) (if j = 2 then errP S (gh S) else FP.dconst0) (nI 0) (bI (decide (j = 3))) (if j = 3 then gh S else v 10 1) (bI (gkn (takeS S j (gh S) z (FP.dadd (gt S) (gh S))))) (gt0 (takeS S j (gh S) z (FP.dadd (gt S) (gh S)))) (gsp (takeS S j (gh S) z (FP.dadd (gt S) (gh S)))) (wdI (takeS S j (gh S) z (FP.dadd (gt S) (gh S)))) (glv (takeS S j (gh S) z (FP.dadd (gt S) (gh S)))) (gtk (takeS S j (gh S) z (FP.dadd (gt S) (gh S)))) (grf (takeS S j (gh S) z (FP.dadd (gt S) (gh S)))) (nI (gev (takeS S j (gh S) z (FP.dadd (gt S) (gh S)))))), (A 1, iA cI 10 (so (gσ S))), (A 2, iA cI 10 (sl (gσ S))), (A 3, iA cI 10 (sr (gσ S))), (A 4, dA cD 10 (sk (gσ S))), (A 5, dA cD 3 (gy (takeS S j (gh S) z (FP.dadd (gt S) (gh S))))), (A 6, dA cD 3 (u 0)), (A 7, dA cD 3 (u 1)), (A 8, dA cD 3 (u 2)), (A 9, dA cD 3 (u 3)), (A 10, dA cD 3 (u 4)), (A 11, dA cD 3 (u 5)), (A 12, dA cD 3 (u 6)), (A 13, dA cD 9 (u 7)), (A 14, dA cD 3 (if j = 3 then mix (sn (gσ S)) (fs (gσ S) (gt S) (gy S)) (v 8) else v 8)), (A 15, dA cD 3 (u 9)), (A 16, dA cD 3 (gy0 (takeS S j (gh S) z (FP.dadd (gt S) (gh S))))), (A 17, dA cD 3 (gg (takeS S j (gh S) z (FP.dadd (gt S) (gh S))))), (A 18, dA cD 3 (gq (takeS S j (gh S) z (FP.dadd (gt S) (gh S))))), (A 19, dA cD 8 (gtm (takeS S j (gh S) z (FP.dadd (gt S) (gh S)))))] H := hP
      refine lv_goto (tgt := 59) hx hb dX7_step_51 (by decide) ?_
      exact W.vret hx hb hr (fun tS hTS hWS => ⟨(pkM u (if j = 3 then mix (sn (gσ S)) (fs (gσ S) (gt S) (gy S)) (v 8) else v 8) (if j = 2 then errP S (gh S) else FP.dconst0) (if j = 3 then gh S else v 10 1), nI 0), rfl, kpK_take, by rw [hTS]; exact hP.sub [0, 5, 6, 7, 8, 9, 10, 11, 12, 13, 14, 15, 16, 17, 18, 19] rfl, hS.F hTS⟩) hS.2.2 dX7_step_59
  ·
    rw [stp_f (show mth i = false by rw [← mth6]; exact bn1.mp c_7)]
    refine lv_iconst (v := nI 1) hx hb dX7_step_10 (by decide) ?_
    refine lv_goto (tgt := 15) hx hb dX7_step_11 (by decide) ?_
    refine pX7 hx hb hg hown hI hP hd rfl hS 0 rfl 0 rfl mF_X7_84 rfl rfl rfl (Nat.le_of_ble_eq_true rfl) pm0 dX7_step_15 (fun H locs hP hS => ?_)
    have hP : va_P D vwCl [(A 0, mO A (nI 1) (nI (sn (gσ S))) (nI (sc (gσ S))) (gt S) (gh S) (gtol S) (v 10 0) fl (bI (ggo S)) (v 10 1) (bI (gkn S)) (gt0 S) (gsp S) (wdI S) (glv S) (gtk S) (grf S) (nI (gev S))), (A 1, iA cI 10 (so (gσ S))), (A 2, iA cI 10 (sl (gσ S))), (A 3, iA cI 10 (sr (gσ S))), (A 4, dA cD 10 (sk (gσ S))), (A 5, dA cD 3 (gy S)), (A 6, dA cD 3 (v 0)), (A 7, dA cD 3 (v 1)), (A 8, dA cD 3 (v 2)), (A 9, dA cD 3 (v 3)), (A 10, dA cD 3 (v 4)), (A 11, dA cD 3 (v 5)), (A 12, dA cD 3 (v 6)), (A 13, dA cD 9 (v 7)), (A 14, dA cD 3 (v 8)), (A 15, dA cD 3 (v 9)), (A 16, dA cD 3 (gy0 S)), (A 17, dA cD 3 (gg S)), (A 18, dA cD 3 (gq S)), (A 19, dA cD 8 (gtm S))] H := hP
    refine lv_aload_n hx hb dX7_step_18 rfl (lv_at hl 0 rfl) ?_
    refine gX7 hx hb hg hown hI hP 0 rfl 0 rfl mF_X7_84 rfl dX7_step_19 ?_
    refine lv_if_le (tgt := 26) hx hb dX7_step_22 (by decide) (fun c_22 => absurd c_22 (by decide)) (fun c_22 => ?_)
    exact W.vret hx hb hr (fun tS hTS hWS => ⟨(v, fl), rfl, hkp, by rw [hTS]; exact hP.sub [0, 5, 6, 7, 8, 9, 10, 11, 12, 13, 14, 15, 16, 17, 18, 19] rfl, hS.F hTS⟩) hS.2.2 dX7_step_25
