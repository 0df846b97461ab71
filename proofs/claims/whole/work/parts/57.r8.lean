set_option maxHeartbeats 4000000 in
set_option maxRecDepth 100000 in
theorem r_take (l : Launch) (D : va_G) (cD cI cM cL : ClassId) (A : Nat → Nat) (S : St) (th : Int32) (er : UInt64) (fl kp : Int32) (ks : UInt64) (mm : Nat) (r tb : UInt64) (z Z1 : Nat → UInt64) (B : Int) (E : Nat) (hv : Inv B E S) (hB : B ≤ BT) (hr0 : bd 1 2 r) (hE : E < 2 ^ 29) (hag : agV (sn (gσ S)) Z1 z) (hzb : ∀ i, i < sn (gσ S) → bd 1 20 (z i)) : Met l yX7_take (Cond.code yX7_take cX7_take 6 none :: lw_good) { frames := 2, cells := 0, slots := 0, locals := 52 } (xPc D (tyL cD cI cM cL) [.ref (A 0), .double r, .double tb] [(A 0, mO A th (nI (sn (gσ S))) (nI (sc (gσ S))) (gt S) (gh S) (gtol S) er fl kp ks (bI (gkn S)) (gt0 S) (gsp S) (wdI S) (glv S) (gtk S) (grf S) (nI (gev S))), (A 1, iA cI 10 (so (gσ S))), (A 2, iA cI 10 (sl (gσ S))), (A 3, iA cI 10 (sr (gσ S))), (A 4, dA cD 10 (sk (gσ S))), (A 5, dA cD 3 (gy S)), (A 6, dA cD 3 Z1), (A 16, dA cD 3 (gy0 S)), (A 17, dA cD 3 (gg S)), (A 18, dA cD 3 (gq S)), (A 19, dA cD 8 (gtm S))]) (xQ D [A 0, A 5, A 16, A 17, A 18, A 19] (fun (_ : Unit) => none) (fun (_ : Unit) => True) (fun (_ : Unit) => [(A 0, mO A th (nI (sn (gσ (takeS S mm r z tb)))) (nI (sc (gσ (takeS S mm r z tb)))) (gt (takeS S mm r z tb)) (gh (takeS S mm r z tb)) (gtol (takeS S mm r z tb)) er fl kp ks (bI (gkn (takeS S mm r z tb))) (gt0 (takeS S mm r z tb)) (gsp (takeS S mm r z tb)) (wdI (takeS S mm r z tb)) (glv (takeS S mm r z tb)) (gtk (takeS S mm r z tb)) (grf (takeS S mm r z tb)) (nI (gev (takeS S mm r z tb)))), (A 5, dA cD 3 (gy (takeS S mm r z tb))), (A 16, dA cD 3 (gy0 (takeS S mm r z tb))), (A 17, dA cD 3 (gg (takeS S mm r z tb))), (A 18, dA cD 3 (gq (takeS S mm r z tb))), (A 19, dA cD 8 (gtm (takeS S mm r z tb)))])) 0 0 (fun q => q ∈ ([A 0, A 5, A 16, A 17, A 18, A 19] : List Nat)) := by
  refine xofW (adr := [A 0, A 5, A 16, A 17, A 18, A 19]) (by decide) (Nat.le_of_ble_eq_true rfl) ?_
  intro p e s m below meth c ls hx hb hr hml hg hown hlk hI hP hd hS hl
  have hown : s.vm.findClass RX7 = some m.cls := hown
  have hd : dj [A 0, A 1, A 2, A 3, A 4, A 5, A 6, A 16, A 17, A 18, A 19] := hd
  have hl : lv_has ls 6 [(0, .ref (A 0)), (1, .double r), (3, .double tb)] := hl
  have hk := hv.st hB hr0
  have hn : sn (gσ S) ≤ 3 := hk.1.2.1
  refine lv_aload_n hx hb dX7_take_0 rfl (lv_at hl 0 rfl) ?_
  refine lv_aload_n hx hb dX7_take_1 rfl (lv_at hl 0 rfl) ?_
  refine gX7 hx hb hg hown hI hP 0 rfl 7 rfl mF_X7_98 rfl dX7_take_2 ?_
  refine lv_aload_n hx hb dX7_take_5 rfl (lv_at hl 0 rfl) ?_
  refine gX7 hx hb hg hown hI hP 0 rfl 10 rfl mF_X7_36 rfl dX7_take_6 ?_
  refine lv_aload_n hx hb dX7_take_9 rfl (lv_at hl 0 rfl) ?_
  refine gX7 hx hb hg hown hI hP 0 rfl 29 rfl mF_X7_72 rfl dX7_take_10 ?_
  refine xcv (xV (As := [.double (gt S), .ref (A 5), .ref (A 17)]) (rest := []) hx hb hml hown hg (r_derive l D cD cI cM cL A (gσ S) th (gt S) (gh S) (gtol S) er fl kp ks (bI (gkn S)) (gt0 S) (gsp S) (wdI S) (glv S) (gtk S) (grf S) (nI (gev S)) (A 5) (A 17) (gt S) (gy S) (gg S) 20 hk.1 (hk.2.1.up (by decide)) hk.2.2.2 (by decide)) mM_X7_101 ok_X7_derive rfl rfl ⟨Nat.le_of_ble_eq_true rfl, Nat.le_of_ble_eq_true rfl⟩ hI hP hd rfl [0, 1, 2, 3, 4, 5, 8] rfl rfl rfl rfl rfl hl.1 rfl (Nat.le_of_ble_eq_true rfl) dX7_take_13 ⟨Nat.zero_le _, Nat.zero_le _⟩) hP hd hS (fa1 (pmS (pmS (pmS pm0))) fa0) [8] rfl rfl (fun _ => rfl) (fun _u H locs hu hP hS => ?_)
  have hP : va_P D vwCl [(A 0, mO A th (nI (sn (gσ S))) (nI (sc (gσ S))) (gt S) (gh S) (gtol S) er fl kp ks (bI (gkn S)) (gt0 S) (gsp S) (wdI S) (glv S) (gtk S) (grf S) (nI (gev S))), (A 1, iA cI 10 (so (gσ S))), (A 2, iA cI 10 (sl (gσ S))), (A 3, iA cI 10 (sr (gσ S))), (A 4, dA cD 10 (sk (gσ S))), (A 5, dA cD 3 (gy S)), (A 6, dA cD 3 Z1), (A 16, dA cD 3 (gy0 S)), (A 17, dA cD 3 (mix (sn (gσ S)) (fs (gσ S) (gt S) (gy S)) (gg S))), (A 18, dA cD 3 (gq S)), (A 19, dA cD 8 (gtm S))] H := hP
  refine lv_iconst (v := nI 0) hx hb dX7_take_16 (by decide) ?_
  refine lv_istore (lv' := [(5, .int (nI 0)), (0, .ref (A 0)), (1, .double r), (3, .double tb)]) hx hb dX7_take_17 hl (by decide) rfl (fun ls hl => ?_)
  refine xfor (I := fun i H locs ls => ∃ (f1 : Nat → UInt64) (f2 : Nat → UInt64), (f1 = mix i (gy S) (gy0 S)) ∧ (f2 = mix i z (gy S)) ∧ va_P D vwCl [(A 0, mO A th (nI (sn (gσ S))) (nI (sc (gσ S))) (gt S) (gh S) (gtol S) er fl kp ks (bI (gkn S)) (gt0 S) (gsp S) (wdI S) (glv S) (gtk S) (grf S) (nI (gev S))), (A 1, iA cI 10 (so (gσ S))), (A 2, iA cI 10 (sl (gσ S))), (A 3, iA cI 10 (sr (gσ S))), (A 4, dA cD 10 (sk (gσ S))), (A 5, dA cD 3 f2), (A 6, dA cD 3 Z1), (A 16, dA cD 3 f1), (A 17, dA cD 3 (mix (sn (gσ S)) (fs (gσ S) (gt S) (gy S)) (gg S))), (A 18, dA cD 3 (gq S)), (A 19, dA cD 8 (gtm S))] H ∧ va_S (fun q => q ∈ ([A 0, A 5, A 16, A 17, A 18, A 19] : List Nat)) s.heap H locs ∧ lv_has ls 6 [(5, .int (nI i)), (0, .ref (A 0)), (1, .double r), (3, .double tb)]) (sn (gσ S)) 0 ⟨_, _, (mix_0 _ _).symm, (mix_0 _ _).symm, hP, hS, lv_sub hl [0, 1, 2, 3] rfl⟩ (Nat.zero_le _) ?_ ?_
  ·
    intro i h_i ih H locs ls ⟨f1, f2, h1, h2, hP, hS, hl⟩
    refine lv_iload hx hb dX7_take_19 (lv_at hl 0 rfl) ?_
    refine lv_aload_n hx hb dX7_take_21 rfl (lv_at hl 1 rfl) ?_
    refine gX7 hx hb hg hown hI hP 0 rfl 1 rfl mF_X7_7 rfl dX7_take_22 ?_
    refine lv_icmp_ge (tgt := 62) hx hb dX7_take_25 (by decide) (fun c_25 => absurd c_25 (nI_ge h_i (by omega))) (fun c_25 => ?_)
    refine lv_aload_n hx hb dX7_take_28 rfl (lv_at hl 1 rfl) ?_
    refine xpc (q := 29) rfl ?_
    refine gX7 hx hb hg hown hI hP 0 rfl 28 rfl mF_X7_69 rfl dX7_take_29 ?_
    refine lv_iload hx hb dX7_take_32 (lv_at hl 0 rfl) ?_
    refine lv_aload_n hx hb dX7_take_34 rfl (lv_at hl 1 rfl) ?_
    refine gX7 hx hb hg hown hI hP 0 rfl 10 rfl mF_X7_36 rfl dX7_take_35 ?_
    refine lv_iload hx hb dX7_take_38 (lv_at hl 0 rfl) ?_
    refine xdald hx hb hI hP 5 0 rfl rfl (Nat.lt_of_lt_of_le h_i hn) (by decide) dX7_take_40 ?_
    refine xeqd (y := (gy S) i) (show f2 i = gy S i by rw [h2, mix_ge (Nat.le_refl _)]) ?_
    refine xdast hx hb hI hP hd rfl hS 7 0 rfl rfl (Nat.lt_of_lt_of_le h_i hn) (by decide) (pmS (pmS pm0)) dX7_take_41 (fun H locs hP hS => ?_)
    have hP : va_P D vwCl [(A 0, mO A th (nI (sn (gσ S))) (nI (sc (gσ S))) (gt S) (gh S) (gtol S) er fl kp ks (bI (gkn S)) (gt0 S) (gsp S) (wdI S) (glv S) (gtk S) (grf S) (nI (gev S))), (A 1, iA cI 10 (so (gσ S))), (A 2, iA cI 10 (sl (gσ S))), (A 3, iA cI 10 (sr (gσ S))), (A 4, dA cD 10 (sk (gσ S))), (A 5, dA cD 3 f2), (A 6, dA cD 3 Z1), (A 16, dA cD 3 (vf_upd f1 i ((gy S) i))), (A 17, dA cD 3 (mix (sn (gσ S)) (fs (gσ S) (gt S) (gy S)) (gg S))), (A 18, dA cD 3 (gq S)), (A 19, dA cD 8 (gtm S))] H := hP
    refine lv_aload_n hx hb dX7_take_42 rfl (lv_at hl 1 rfl) ?_
    refine gX7 hx hb hg hown hI hP 0 rfl 10 rfl mF_X7_36 rfl dX7_take_43 ?_
    refine lv_iload hx hb dX7_take_46 (lv_at hl 0 rfl) ?_
    refine lv_aload_n hx hb dX7_take_48 rfl (lv_at hl 1 rfl) ?_
    refine gX7 hx hb hg hown hI hP 0 rfl 11 rfl mF_X7_39 rfl dX7_take_49 ?_
    refine lv_iload hx hb dX7_take_52 (lv_at hl 0 rfl) ?_
    refine xdald hx hb hI hP 6 0 rfl rfl (Nat.lt_of_lt_of_le h_i hn) (by decide) dX7_take_54 ?_
    refine xeqd (y := z i) (hag i h_i) ?_
    refine xpc (q := 55) rfl ?_
    refine xdast hx hb hI hP hd rfl hS 5 0 rfl rfl (Nat.lt_of_lt_of_le h_i hn) (by decide) (pmS pm0) dX7_take_55 (fun H locs hP hS => ?_)
    have hP : va_P D vwCl [(A 0, mO A th (nI (sn (gσ S))) (nI (sc (gσ S))) (gt S) (gh S) (gtol S) er fl kp ks (bI (gkn S)) (gt0 S) (gsp S) (wdI S) (glv S) (gtk S) (grf S) (nI (gev S))), (A 1, iA cI 10 (so (gσ S))), (A 2, iA cI 10 (sl (gσ S))), (A 3, iA cI 10 (sr (gσ S))), (A 4, dA cD 10 (sk (gσ S))), (A 5, dA cD 3 (vf_upd f2 i (z i))), (A 6, dA cD 3 Z1), (A 16, dA cD 3 (vf_upd f1 i ((gy S) i))), (A 17, dA cD 3 (mix (sn (gσ S)) (fs (gσ S) (gt S) (gy S)) (gg S))), (A 18, dA cD 3 (gq S)), (A 19, dA cD 8 (gtm S))] H := hP
    refine lv_iinc (v := nI (i + 1)) (lv' := [(5, .int (nI (i + 1))), (0, .ref (A 0)), (1, .double r), (3, .double tb)]) hx hb dX7_take_56 hl (k := 0) rfl (nI_1 i) (by decide) rfl (fun ls hl => ?_)
    refine lv_goto (tgt := 19) hx hb dX7_take_59 (by decide) ?_
    exact ih _ _ _ ⟨_, _, mix_s h1 rfl, mix_s h2 rfl, hP, hS, lv_sub hl [0, 1, 2, 3] rfl⟩
  ·
    intro H locs ls ⟨f1, f2, h1, h2, hP, hS, hl⟩
    refine lv_iload hx hb dX7_take_19 (lv_at hl 0 rfl) ?_
    refine lv_aload_n hx hb dX7_take_21 rfl (lv_at hl 1 rfl) ?_
    refine gX7 hx hb hg hown hI hP 0 rfl 1 rfl mF_X7_7 rfl dX7_take_22 ?_
    refine lv_icmp_ge (tgt := 62) hx hb dX7_take_25 (by decide) (fun c_25 => ?_) (fun c_25 => absurd (Int32.le_refl _) c_25)
    subst h1
    subst h2
    refine lv_aload_n hx hb dX7_take_62 rfl (lv_at hl 1 rfl) ?_
    refine xpc (q := 63) rfl ?_
    refine lv_aload_n hx hb dX7_take_63 rfl (lv_at hl 1 rfl) ?_
    refine gX7 hx hb hg hown hI hP 0 rfl 7 rfl mF_X7_98 rfl dX7_take_64 ?_
    refine pX7 hx hb hg hown hI hP hd rfl hS 0 rfl 26 rfl mF_X7_181 rfl rfl rfl (Nat.le_of_ble_eq_true rfl) pm0 dX7_take_67 (fun H locs hP hS => ?_)
    have hP : va_P D vwCl [(A 0, mO A th (nI (sn (gσ S))) (nI (sc (gσ S))) (gt S) (gh S) (gtol S) er fl kp ks (bI (gkn S)) (gt S) (gsp S) (wdI S) (glv S) (gtk S) (grf S) (nI (gev S))), (A 1, iA cI 10 (so (gσ S))), (A 2, iA cI 10 (sl (gσ S))), (A 3, iA cI 10 (sr (gσ S))), (A 4, dA cD 10 (sk (gσ S))), (A 5, dA cD 3 (mix (sn (gσ S)) z (gy S))), (A 6, dA cD 3 Z1), (A 16, dA cD 3 (mix (sn (gσ S)) (gy S) (gy0 S))), (A 17, dA cD 3 (mix (sn (gσ S)) (fs (gσ S) (gt S) (gy S)) (gg S))), (A 18, dA cD 3 (gq S)), (A 19, dA cD 8 (gtm S))] H := hP
    refine lv_aload_n hx hb dX7_take_70 rfl (lv_at hl 1 rfl) ?_
    refine lv_dload_n hx hb dX7_take_71 rfl (lv_at hl 2 rfl) ?_
    refine pX7 hx hb hg hown hI hP hd rfl hS 0 rfl 27 rfl mF_X7_184 rfl rfl rfl (Nat.le_of_ble_eq_true rfl) pm0 dX7_take_72 (fun H locs hP hS => ?_)
    have hP : va_P D vwCl [(A 0, mO A th (nI (sn (gσ S))) (nI (sc (gσ S))) (gt S) (gh S) (gtol S) er fl kp ks (bI (gkn S)) (gt S) r (wdI S) (glv S) (gtk S) (grf S) (nI (gev S))), (A 1, iA cI 10 (so (gσ S))), (A 2, iA cI 10 (sl (gσ S))), (A 3, iA cI 10 (sr (gσ S))), (A 4, dA cD 10 (sk (gσ S))), (A 5, dA cD 3 (mix (sn (gσ S)) z (gy S))), (A 6, dA cD 3 Z1), (A 16, dA cD 3 (mix (sn (gσ S)) (gy S) (gy0 S))), (A 17, dA cD 3 (mix (sn (gσ S)) (fs (gσ S) (gt S) (gy S)) (gg S))), (A 18, dA cD 3 (gq S)), (A 19, dA cD 8 (gtm S))] H := hP
    refine lv_aload_n hx hb dX7_take_75 rfl (lv_at hl 1 rfl) ?_
    refine lv_dload_n hx hb dX7_take_76 rfl (lv_at hl 3 rfl) ?_
    refine pX7 hx hb hg hown hI hP hd rfl hS 0 rfl 7 rfl mF_X7_98 rfl rfl rfl (Nat.le_of_ble_eq_true rfl) pm0 dX7_take_77 (fun H locs hP hS => ?_)
    have hP : va_P D vwCl [(A 0, mO A th (nI (sn (gσ S))) (nI (sc (gσ S))) tb (gh S) (gtol S) er fl kp ks (bI (gkn S)) (gt S) r (wdI S) (glv S) (gtk S) (grf S) (nI (gev S))), (A 1, iA cI 10 (so (gσ S))), (A 2, iA cI 10 (sl (gσ S))), (A 3, iA cI 10 (sr (gσ S))), (A 4, dA cD 10 (sk (gσ S))), (A 5, dA cD 3 (mix (sn (gσ S)) z (gy S))), (A 6, dA cD 3 Z1), (A 16, dA cD 3 (mix (sn (gσ S)) (gy S) (gy0 S))), (A 17, dA cD 3 (mix (sn (gσ S)) (fs (gσ S) (gt S) (gy S)) (gg S))), (A 18, dA cD 3 (gq S)), (A 19, dA cD 8 (gtm S))] H := hP
    refine lv_aload_n hx hb dX7_take_80 rfl (lv_at hl 1 rfl) ?_
    refine lv_aload_n hx hb dX7_take_81 rfl (lv_at hl 1 rfl) ?_
    refine gX7 hx hb hg hown hI hP 0 rfl 26 rfl mF_X7_181 rfl dX7_take_82 ?_
    refine lv_aload_n hx hb dX7_take_85 rfl (lv_at hl 1 rfl) ?_
    refine gX7 hx hb hg hown hI hP 0 rfl 27 rfl mF_X7_184 rfl dX7_take_86 ?_
    refine lv_dadd hx hb dX7_take_89 ((t2_bd hk hr0).nn) ?_
    refine xpc (q := 90) rfl ?_
    refine lv_aload_n hx hb dX7_take_90 rfl (lv_at hl 1 rfl) ?_
    refine gX7 hx hb hg hown hI hP 0 rfl 10 rfl mF_X7_36 rfl dX7_take_91 ?_
    refine lv_aload_n hx hb dX7_take_94 rfl (lv_at hl 1 rfl) ?_
    refine gX7 hx hb hg hown hI hP 0 rfl 30 rfl mF_X7_75 rfl dX7_take_95 ?_
    refine xcv (xV (As := [.double (FP.dadd (gt S) r), .ref (A 5), .ref (A 18)]) (rest := []) hx hb hml hown hg (r_derive l D cD cI cM cL A (gσ S) th tb (gh S) (gtol S) er fl kp ks (bI (gkn S)) (gt S) r (wdI S) (glv S) (gtk S) (grf S) (nI (gev S)) (A 5) (A 18) (FP.dadd (gt S) r) (mix (sn (gσ S)) z (gy S)) (gq S) 20 hk.1 ((t2_bd hk hr0).up (by decide)) (fun i hi => by rw [mix_lt hi]; exact hzb i hi) (by decide)) mM_X7_101 ok_X7_derive rfl rfl ⟨Nat.le_of_ble_eq_true rfl, Nat.le_of_ble_eq_true rfl⟩ hI hP hd rfl [0, 1, 2, 3, 4, 5, 9] rfl rfl rfl rfl rfl hl.1 rfl (Nat.le_of_ble_eq_true rfl) dX7_take_98 ⟨Nat.zero_le _, Nat.zero_le _⟩) hP hd hS (fa1 (pmS (pmS (pmS (pmS pm0)))) fa0) [9] rfl rfl (fun _ => rfl) (fun _u H locs hu hP hS => ?_)
    have hP : va_P D vwCl [(A 0, mO A th (nI (sn (gσ S))) (nI (sc (gσ S))) tb (gh S) (gtol S) er fl kp ks (bI (gkn S)) (gt S) r (wdI S) (glv S) (gtk S) (grf S) (nI (gev S))), (A 1, iA cI 10 (so (gσ S))), (A 2, iA cI 10 (sl (gσ S))), (A 3, iA cI 10 (sr (gσ S))), (A 4, dA cD 10 (sk (gσ S))), (A 5, dA cD 3 (mix (sn (gσ S)) z (gy S))), (A 6, dA cD 3 Z1), (A 16, dA cD 3 (mix (sn (gσ S)) (gy S) (gy0 S))), (A 17, dA cD 3 (mix (sn (gσ S)) (fs (gσ S) (gt S) (gy S)) (gg S))), (A 18, dA cD 3 (mix (sn (gσ S)) (fs (gσ S) (FP.dadd (gt S) r) (mix (sn (gσ S)) z (gy S))) (gq S))), (A 19, dA cD 8 (gtm S))] H := hP
    have hP : va_P D vwCl [(A 0, mO A th (nI (sn (gσ S))) (nI (sc (gσ S))) tb (gh S) (gtol S) er fl kp ks (bI (gkn S)) (gt S) r (wdI S) (glv S) (gtk S) (grf S) (nI (gev S))), (A 1, iA cI 10 (so (gσ S))), (A 2, iA cI 10 (sl (gσ S))), (A 3, iA cI 10 (sr (gσ S))), (A 4, dA cD 10 (sk (gσ S))), (A 5, dA cD 3 (mix (sn (gσ S)) z (gy S))), (A 6, dA cD 3 Z1), (A 16, dA cD 3 (mix (sn (gσ S)) (gy S) (gy0 S))), (A 17, dA cD 3 (mix (sn (gσ S)) (fs (gσ S) (gt S) (gy S)) (gg S))), (A 18, dA cD 3 (mix (sn (gσ S)) (fs (gσ S) (FP.dadd (gt S) r) z) (gq S))), (A 19, dA cD 8 (gtm S))] H := by rw [← fs_mix (σ := gσ S) (t := FP.dadd (gt S) r) (g := z) (f := gy S) hn]; exact hP
    refine lv_aload_n hx hb dX7_take_101 rfl (lv_at hl 1 rfl) ?_
    refine lv_iconst (v := nI 1) hx hb dX7_take_102 (by decide) ?_
    refine pX7 hx hb hg hown hI hP hd rfl hS 0 rfl 25 rfl mF_X7_187 rfl (by decide) (by decide) (Nat.le_of_ble_eq_true rfl) pm0 dX7_take_103 (fun H locs hP hS => ?_)
    have hP : va_P D vwCl [(A 0, mO A th (nI (sn (gσ S))) (nI (sc (gσ S))) tb (gh S) (gtol S) er fl kp ks (nI 1) (gt S) r (wdI S) (glv S) (gtk S) (grf S) (nI (gev S))), (A 1, iA cI 10 (so (gσ S))), (A 2, iA cI 10 (sl (gσ S))), (A 3, iA cI 10 (sr (gσ S))), (A 4, dA cD 10 (sk (gσ S))), (A 5, dA cD 3 (mix (sn (gσ S)) z (gy S))), (A 6, dA cD 3 Z1), (A 16, dA cD 3 (mix (sn (gσ S)) (gy S) (gy0 S))), (A 17, dA cD 3 (mix (sn (gσ S)) (fs (gσ S) (gt S) (gy S)) (gg S))), (A 18, dA cD 3 (mix (sn (gσ S)) (fs (gσ S) (FP.dadd (gt S) r) z) (gq S))), (A 19, dA cD 8 (gtm S))] H := hP
    refine lv_aload_n hx hb dX7_take_106 rfl (lv_at hl 1 rfl) ?_
    refine lv_dup hx hb dX7_take_107 rfl ?_
    refine gX7 hx hb hg hown hI hP 0 rfl 33 rfl mF_X7_190 rfl dX7_take_108 ?_
    refine lv_iconst (v := nI 1) hx hb dX7_take_111 (by decide) ?_
    refine lv_iadd hx hb dX7_take_112 ?_
    refine pX7 hx hb hg hown hI hP hd rfl hS 0 rfl 33 rfl mF_X7_190 rfl rfl rfl (Nat.le_of_ble_eq_true rfl) pm0 dX7_take_113 (fun H locs hP hS => ?_)
    have hP : va_P D vwCl [(A 0, mO A th (nI (sn (gσ S))) (nI (sc (gσ S))) tb (gh S) (gtol S) er fl kp ks (nI 1) (gt S) r (wdI S) (glv S) ((gtk S) + (nI 1)) (grf S) (nI (gev S))), (A 1, iA cI 10 (so (gσ S))), (A 2, iA cI 10 (sl (gσ S))), (A 3, iA cI 10 (sr (gσ S))), (A 4, dA cD 10 (sk (gσ S))), (A 5, dA cD 3 (mix (sn (gσ S)) z (gy S))), (A 6, dA cD 3 Z1), (A 16, dA cD 3 (mix (sn (gσ S)) (gy S) (gy0 S))), (A 17, dA cD 3 (mix (sn (gσ S)) (fs (gσ S) (gt S) (gy S)) (gg S))), (A 18, dA cD 3 (mix (sn (gσ S)) (fs (gσ S) (FP.dadd (gt S) r) z) (gq S))), (A 19, dA cD 8 (gtm S))] H := hP
    refine lv_aload_n hx hb dX7_take_116 rfl (lv_at hl 1 rfl) ?_
    refine xpc (q := 117) rfl ?_
    refine gX7 hx hb hg hown hI hP 0 rfl 31 rfl mF_X7_78 rfl dX7_take_117 ?_
    have hwn : gon S = true → gwh S < sn (gσ S) := fun h => (hv.2.2.2.2.2.2.2.1 h).1
    refine lv_if_lt (tgt := 127) hx hb dX7_take_120 (by decide) (fun c_120 => ?_) (fun c_120 => ?_)
    ·
      have hon : gon S = false := (wd_lt (fun h => Nat.lt_of_lt_of_le (hwn h) hn)).mp c_120
      have eT : gtm (takeS S mm r z tb) = gtm S := by show lookT (gon S) _ _ _ _ _ _ _ _ _ = _; rw [hon]; rfl
      have eN : gev (takeS S mm r z tb) = gev S := by show lookN (gon S) _ _ _ _ = _; rw [hon]; rfl
      rw [← eT, ← eN] at hP
      exact W.vret hx hb hr (fun tS hTS hWS => ⟨(), rfl, trivial, by rw [hTS]; exact hP.sub [0, 5, 7, 8, 9, 10] rfl, hS.F hTS⟩) hS.2.2 dX7_take_127
    ·
      have hon : gon S = true := by cases h : gon S with | true => rfl | false => exact absurd ((wd_lt (fun h => Nat.lt_of_lt_of_le (hwn h) hn)).mpr h) c_120
      have hw := hwn hon
      have hP : va_P D vwCl [(A 0, mO A th (nI (sn (gσ S))) (nI (sc (gσ S))) tb (gh S) (gtol S) er fl kp ks (nI 1) (gt S) r (nI (gwh S)) (glv S) ((gtk S) + (nI 1)) (grf S) (nI (gev S))), (A 1, iA cI 10 (so (gσ S))), (A 2, iA cI 10 (sl (gσ S))), (A 3, iA cI 10 (sr (gσ S))), (A 4, dA cD 10 (sk (gσ S))), (A 5, dA cD 3 (mix (sn (gσ S)) z (gy S))), (A 6, dA cD 3 Z1), (A 16, dA cD 3 (mix (sn (gσ S)) (gy S) (gy0 S))), (A 17, dA cD 3 (mix (sn (gσ S)) (fs (gσ S) (gt S) (gy S)) (gg S))), (A 18, dA cD 3 (mix (sn (gσ S)) (fs (gσ S) (FP.dadd (gt S) r) z) (gq S))), (A 19, dA cD 8 (gtm S))] H := by rw [← wd_on hon]; exact hP
      refine lv_aload_n hx hb dX7_take_123 rfl (lv_at hl 1 rfl) ?_
      refine xcv (xV (As := []) (rest := []) hx hb hml hown hg (r_watchStep l D cD cI cM cL A (gσ S) th tb (gh S) (gtol S) er fl kp ks (nI 1) (gt S) r (gwh S) (glv S) ((gtk S) + (nI 1)) (grf S) (gev S) (mix (sn (gσ S)) z (gy S)) (mix (sn (gσ S)) (gy S) (gy0 S)) (mix (sn (gσ S)) (fs (gσ S) (gt S) (gy S)) (gg S)) (mix (sn (gσ S)) (fs (gσ S) (FP.dadd (gt S) r) z) (gq S)) (gtm S) (Nat.lt_of_lt_of_le hw hn) (by rw [mix_lt hw, mix_lt hw, mix_lt hw, mix_lt hw]; exact ⟨hk.2.2.2 _ hw, f0_bd hk, hzb _ hw, fs_bd (K := 20) hk.1 ((t2_bd hk hr0).up (by decide)) hzb (by decide), hr0, hk.2.1, (hv.2.2.2.2.2.2.2.1 hon).2⟩) (by have := hv.2.2.2.2.2.2.2.2; omega)) mM_X7_193 ok_X7_watchStep rfl rfl ⟨Nat.le_of_ble_eq_true rfl, Nat.le_of_ble_eq_true rfl⟩ hI hP hd rfl [0, 5, 7, 8, 9, 10] rfl rfl rfl rfl rfl hl.1 rfl (Nat.le_of_ble_eq_true rfl) dX7_take_124 ⟨Nat.zero_le _, Nat.zero_le _⟩) hP hd hS (fa1 pm0 (fa1 (pmS (pmS (pmS (pmS (pmS pm0))))) fa0)) [0, 10] rfl rfl (fun _ => rfl) (fun _u H locs hu hP hS => ?_)
      have hP : va_P D vwCl [(A 0, mO A th (nI (sn (gσ S))) (nI (sc (gσ S))) tb (gh S) (gtol S) er fl kp ks (nI 1) (gt S) r (nI (gwh S)) (glv S) ((gtk S) + (nI 1)) (grf S) (nI (lookN true (glv S) ((mix (sn (gσ S)) (gy S) (gy0 S)) (gwh S)) ((mix (sn (gσ S)) z (gy S)) (gwh S)) (gev S)))), (A 1, iA cI 10 (so (gσ S))), (A 2, iA cI 10 (sl (gσ S))), (A 3, iA cI 10 (sr (gσ S))), (A 4, dA cD 10 (sk (gσ S))), (A 5, dA cD 3 (mix (sn (gσ S)) z (gy S))), (A 6, dA cD 3 Z1), (A 16, dA cD 3 (mix (sn (gσ S)) (gy S) (gy0 S))), (A 17, dA cD 3 (mix (sn (gσ S)) (fs (gσ S) (gt S) (gy S)) (gg S))), (A 18, dA cD 3 (mix (sn (gσ S)) (fs (gσ S) (FP.dadd (gt S) r) z) (gq S))), (A 19, dA cD 8 (lookT true (glv S) ((mix (sn (gσ S)) (gy S) (gy0 S)) (gwh S)) ((mix (sn (gσ S)) (fs (gσ S) (gt S) (gy S)) (gg S)) (gwh S)) ((mix (sn (gσ S)) z (gy S)) (gwh S)) ((mix (sn (gσ S)) (fs (gσ S) (FP.dadd (gt S) r) z) (gq S)) (gwh S)) r (gt S) (gev S) (gtm S)))] H := hP
      have eN : lookN true (glv S) ((mix (sn (gσ S)) (gy S) (gy0 S)) (gwh S)) ((mix (sn (gσ S)) z (gy S)) (gwh S)) (gev S) = gev (takeS S mm r z tb) := by show _ = lookN (gon S) _ _ _ _; rw [hon]; exact look_eqN (fun _ => hw)
      have eT : lookT true (glv S) ((mix (sn (gσ S)) (gy S) (gy0 S)) (gwh S)) ((mix (sn (gσ S)) (fs (gσ S) (gt S) (gy S)) (gg S)) (gwh S)) ((mix (sn (gσ S)) z (gy S)) (gwh S)) ((mix (sn (gσ S)) (fs (gσ S) (FP.dadd (gt S) r) z) (gq S)) (gwh S)) r (gt S) (gev S) (gtm S) = gtm (takeS S mm r z tb) := by show _ = lookT (gon S) _ _ _ _ _ _ _ _ _; rw [hon]; exact look_eqT (fun _ => hw)
      rw [eN, eT] at hP
      have hP : va_P D vwCl [(A 0, mO A th (nI (sn (gσ S))) (nI (sc (gσ S))) tb (gh S) (gtol S) er fl kp ks (nI 1) (gt S) r (wdI S) (glv S) ((gtk S) + (nI 1)) (grf S) (nI (gev (takeS S mm r z tb)))), (A 1, iA cI 10 (so (gσ S))), (A 2, iA cI 10 (sl (gσ S))), (A 3, iA cI 10 (sr (gσ S))), (A 4, dA cD 10 (sk (gσ S))), (A 5, dA cD 3 (mix (sn (gσ S)) z (gy S))), (A 6, dA cD 3 Z1), (A 16, dA cD 3 (mix (sn (gσ S)) (gy S) (gy0 S))), (A 17, dA cD 3 (mix (sn (gσ S)) (fs (gσ S) (gt S) (gy S)) (gg S))), (A 18, dA cD 3 (mix (sn (gσ S)) (fs (gσ S) (FP.dadd (gt S) r) z) (gq S))), (A 19, dA cD 8 (gtm (takeS S mm r z tb)))] H := by rw [wd_on hon]; exact hP
      exact W.vret hx hb hr (fun tS hTS hWS => ⟨(), rfl, trivial, by rw [hTS]; exact hP.sub [0, 5, 7, 8, 9, 10] rfl, hS.F hTS⟩) hS.2.2 dX7_take_127
