theorem dm64 : FP.dneg k64 = km64 := by decide +kernel
theorem dm1000 : FP.dneg k1000 = km1000 := by decide +kernel
theorem wth_i {x b nb : UInt64} (hb : FP.dneg b = nb) : wthn x b = decide ((dgt x nb ∨ deq x nb) ∧ (dlt x b ∨ deq x b)) := by unfold wthn; rw [hb]
theorem wth_t {x b nb : UInt64} (hb : FP.dneg b = nb) (h1 : dgt x nb ∨ deq x nb) (h2 : dlt x b ∨ deq x b) : wthn x b = true := by rw [wth_i hb]; exact dt ⟨h1, h2⟩
theorem wth_f1 {x b nb : UInt64} (hb : FP.dneg b = nb) (h1 : ¬ (dgt x nb ∨ deq x nb)) : wthn x b = false := by rw [wth_i hb]; exact df (fun q => h1 q.1)
theorem wth_f2 {x b : UInt64} (h1 : ¬ (dlt x b ∨ deq x b)) : wthn x b = false := df (fun q => h1 q.2)
theorem bn0 {b : Bool} : bI (!b) = 0 ↔ b = true := by cases b <;> decide
theorem bn1 {b : Bool} : ¬ bI (!b) = 0 ↔ b = false := by cases b <;> decide
theorem mth6 (i : Int32) : decide (nI 0 ≤ i ∧ i < nI 6) = mth i := by
  have e5 : (nI 5).toInt = 5 := by decide
  have e6 : (nI 6).toInt = 6 := by decide
  unfold mth
  by_cases h : nI 0 ≤ i ∧ i ≤ nI 5
  · have h2 := Int32.le_iff_toInt_le.mp h.2
    rw [dt h, dt ⟨h.1, Int32.lt_iff_toInt_lt.mpr (by omega)⟩]
  · have h3 : ¬ (nI 0 ≤ i ∧ i < nI 6) := fun q => h ⟨q.1, by
      have q2 := Int32.lt_iff_toInt_lt.mp q.2
      exact Int32.le_iff_toInt_le.mpr (by omega)⟩
    rw [df h, df h3]
set_option maxHeartbeats 4000000 in
set_option maxRecDepth 100000 in
theorem r_system (l : Launch) (D : va_G) (cD cI cM cL : ClassId) (A : Nat → Nat) (S : St) (th fl : Int32) (v : Nat → Nat → UInt64) (n : Int32)  : Met l yX7_system (Cond.code yX7_system cX7_system 3 none :: lw_good) { frames := 0, cells := 0, slots := 0, locals := 0 } (xPc D (tyL cD cI cM cL) [.ref (A 0), .int n] [(A 0, mO A th (nI (sn (gσ S))) (nI (sc (gσ S))) (gt S) (gh S) (gtol S) (v 10 0) fl (bI (ggo S)) (v 10 1) (bI (gkn S)) (gt0 S) (gsp S) (wdI S) (glv S) (gtk S) (grf S) (nI (gev S))), (A 5, dA cD 3 (gy S))]) (xQ D [A 0, A 5] (fun (_ : Unit) => none) (fun (_ : Unit) => True) (fun (_ : Unit) => [(A 0, mO A (nI (sysP S n).1) (nI (sn (gσ ((sysP S n).2)))) (nI (sc (gσ ((sysP S n).2)))) (gt ((sysP S n).2)) (gh ((sysP S n).2)) (gtol ((sysP S n).2)) (v 10 0) fl (bI (ggo ((sysP S n).2))) (v 10 1) (bI (gkn ((sysP S n).2))) (gt0 ((sysP S n).2)) (gsp ((sysP S n).2)) (wdI ((sysP S n).2)) (glv ((sysP S n).2)) (gtk ((sysP S n).2)) (grf ((sysP S n).2)) (nI (gev ((sysP S n).2)))), (A 5, dA cD 3 (gy ((sysP S n).2)))])) 0 0 (fun q => q ∈ ([A 0, A 5] : List Nat)) := by
  refine xofW (adr := [A 0, A 5]) (by decide) (Nat.le_of_ble_eq_true rfl) ?_
  intro p e s m below meth c ls hx hb hr hml hg hown hlk hI hP hd hS hl
  have hown : s.vm.findClass RX7 = some m.cls := hown
  have hd : dj [A 0, A 5] := hd
  have hl : lv_has ls 3 [(0, .ref (A 0)), (1, .int n)] := hl
  refine lv_aload_n hx hb dX7_system_0 rfl (lv_at hl 0 rfl) ?_
  refine lv_iload_n hx hb dX7_system_1 rfl (lv_at hl 1 rfl) ?_
  refine lv_iconst (v := nI 1) hx hb dX7_system_2 (by decide) ?_
  refine lv_icmp_lt (tgt := 11) hx hb dX7_system_3 (by decide) (fun c_3 => ?_) (fun c_3 => ?_)
  ·
    have ho : sysP S n = (1, S) := if_neg (fun h => absurd c_3 (Int32.not_lt.mpr h.1))
    rw [ho]
    refine lv_iconst (v := nI 1) hx hb dX7_system_11 (by decide) ?_
    refine lv_goto (tgt := 16) hx hb dX7_system_12 (by decide) ?_
    refine pX7 hx hb hg hown hI hP hd rfl hS 0 rfl 0 rfl mF_X7_84 rfl rfl rfl (Nat.le_of_ble_eq_true rfl) pm0 dX7_system_16 (fun H locs hP hS => ?_)
    have hP : va_P D vwCl [(A 0, mO A (nI 1) (nI (sn (gσ S))) (nI (sc (gσ S))) (gt S) (gh S) (gtol S) (v 10 0) fl (bI (ggo S)) (v 10 1) (bI (gkn S)) (gt0 S) (gsp S) (wdI S) (glv S) (gtk S) (grf S) (nI (gev S))), (A 5, dA cD 3 (gy S))] H := hP
    refine lv_aload_n hx hb dX7_system_19 rfl (lv_at hl 0 rfl) ?_
    refine gX7 hx hb hg hown hI hP 0 rfl 0 rfl mF_X7_84 rfl dX7_system_20 ?_
    refine lv_if_le (tgt := 27) hx hb dX7_system_23 (by decide) (fun c_23 => absurd c_23 (by decide)) (fun c_23 => ?_)
    exact W.vret hx hb hr (fun tS hTS hWS => ⟨(), rfl, trivial, by rw [hTS]; exact hP.sub [0, 1] rfl, hS.F hTS⟩) hS.2.2 dX7_system_26
  ·
    refine lv_iload_n hx hb dX7_system_6 rfl (lv_at hl 1 rfl) ?_
    refine lv_iconst (v := nI 3) hx hb dX7_system_7 (by decide) ?_
    refine lv_icmp_le (tgt := 15) hx hb dX7_system_8 (by decide) (fun c_8 => ?_) (fun c_8 => ?_)
    ·
      have hin : nI 1 ≤ n ∧ n ≤ nI 3 := ⟨Int32.not_lt.mp c_3, c_8⟩
      have ho : sysP S n = (0, sysS S n.toNatClampNeg) := if_pos hin
      rw [ho]
      obtain ⟨j, hj, hj2⟩ : ∃ j : Nat, n = nI j ∧ n.toNatClampNeg = j := ⟨n.toNatClampNeg, n13 hin, rfl⟩
      rw [hj2]
      subst hj
      have hl : lv_has ls 3 [(0, .ref (A 0)), (1, .int (nI j))] := hl
      refine lv_iconst (v := nI 0) hx hb dX7_system_15 (by decide) ?_
      refine pX7 hx hb hg hown hI hP hd rfl hS 0 rfl 0 rfl mF_X7_84 rfl rfl rfl (Nat.le_of_ble_eq_true rfl) pm0 dX7_system_16 (fun H locs hP hS => ?_)
      have hP : va_P D vwCl [(A 0, mO A (nI 0) (nI (sn (gσ S))) (nI (sc (gσ S))) (gt S) (gh S) (gtol S) (v 10 0) fl (bI (ggo S)) (v 10 1) (bI (gkn S)) (gt0 S) (gsp S) (wdI S) (glv S) (gtk S) (grf S) (nI (gev S))), (A 5, dA cD 3 (gy S))] H := hP
      refine lv_aload_n hx hb dX7_system_19 rfl (lv_at hl 0 rfl) ?_
      refine gX7 hx hb hg hown hI hP 0 rfl 0 rfl mF_X7_84 rfl dX7_system_20 ?_
      refine lv_if_le (tgt := 27) hx hb dX7_system_23 (by decide) (fun c_23 => ?_) (fun c_23 => (c_23 (by decide)).elim)
      refine lv_aload_n hx hb dX7_system_27 rfl (lv_at hl 0 rfl) ?_
      refine lv_iload_n hx hb dX7_system_28 rfl (lv_at hl 1 rfl) ?_
      refine pX7 hx hb hg hown hI hP hd rfl hS 0 rfl 1 rfl mF_X7_7 rfl rfl rfl (Nat.le_of_ble_eq_true rfl) pm0 dX7_system_29 (fun H locs hP hS => ?_)
      have hP : va_P D vwCl [(A 0, mO A (nI 0) (nI j) (nI (sc (gσ S))) (gt S) (gh S) (gtol S) (v 10 0) fl (bI (ggo S)) (v 10 1) (bI (gkn S)) (gt0 S) (gsp S) (wdI S) (glv S) (gtk S) (grf S) (nI (gev S))), (A 5, dA cD 3 (gy S))] H := hP
      refine lv_aload_n hx hb dX7_system_32 rfl (lv_at hl 0 rfl) ?_
      refine lv_iconst (v := nI 0) hx hb dX7_system_33 (by decide) ?_
      refine pX7 hx hb hg hown hI hP hd rfl hS 0 rfl 2 rfl mF_X7_91 rfl rfl rfl (Nat.le_of_ble_eq_true rfl) pm0 dX7_system_34 (fun H locs hP hS => ?_)
      have hP : va_P D vwCl [(A 0, mO A (nI 0) (nI j) (nI 0) (gt S) (gh S) (gtol S) (v 10 0) fl (bI (ggo S)) (v 10 1) (bI (gkn S)) (gt0 S) (gsp S) (wdI S) (glv S) (gtk S) (grf S) (nI (gev S))), (A 5, dA cD 3 (gy S))] H := hP
      refine lv_iconst (v := nI 0) hx hb dX7_system_37 (by decide) ?_
      refine lv_istore_n (lv' := [(2, .int (nI 0)), (0, .ref (A 0)), (1, .int (nI j))]) hx hb dX7_system_38 rfl hl (by decide) rfl (fun ls hl => ?_)
      refine xfor (I := fun i H locs ls => ∃ (f' : Nat → UInt64), (f' = mix i (fun _ => FP.dconst0) (gy S)) ∧ va_P D vwCl [(A 0, mO A (nI 0) (nI j) (nI 0) (gt S) (gh S) (gtol S) (v 10 0) fl (bI (ggo S)) (v 10 1) (bI (gkn S)) (gt0 S) (gsp S) (wdI S) (glv S) (gtk S) (grf S) (nI (gev S))), (A 5, dA cD 3 f')] H ∧ va_S (fun q => q ∈ ([A 0, A 5] : List Nat)) s.heap H locs ∧ lv_has ls 3 [(2, .int (nI i)), (0, .ref (A 0)), (1, .int (nI j))]) 3 0 ⟨_, (mix_0 _ _).symm, hP, hS, lv_sub hl [0, 1, 2] rfl⟩ (Nat.zero_le _) ?_ ?_
      ·
        intro i h_i ih H locs ls ⟨f', hf, hP, hS, hl⟩
        refine lv_iload_n hx hb dX7_system_39 rfl (lv_at hl 0 rfl) ?_
        refine xpc (q := 40) rfl ?_
        refine lv_iconst (v := nI 3) hx hb dX7_system_40 (by decide) ?_
        refine lv_icmp_ge (tgt := 57) hx hb dX7_system_41 (by decide) (fun c_41 => absurd c_41 (nI_ge h_i (by omega))) (fun c_41 => ?_)
        refine lv_aload_n hx hb dX7_system_44 rfl (lv_at hl 1 rfl) ?_
        refine gX7 hx hb hg hown hI hP 0 rfl 10 rfl mF_X7_36 rfl dX7_system_45 ?_
        refine lv_iload_n hx hb dX7_system_48 rfl (lv_at hl 0 rfl) ?_
        refine lv_dconst0 hx hb dX7_system_49 ?_
        refine xdast hx hb hI hP hd rfl hS 1 0 rfl rfl h_i (by decide) (pmS pm0) dX7_system_50 (fun H locs hP hS => ?_)
        have hP : va_P D vwCl [(A 0, mO A (nI 0) (nI j) (nI 0) (gt S) (gh S) (gtol S) (v 10 0) fl (bI (ggo S)) (v 10 1) (bI (gkn S)) (gt0 S) (gsp S) (wdI S) (glv S) (gtk S) (grf S) (nI (gev S))), (A 5, dA cD 3 (vf_upd f' i FP.dconst0))] H := hP
        refine lv_iinc (v := nI (i + 1)) (lv' := [(2, .int (nI (i + 1))), (0, .ref (A 0)), (1, .int (nI j))]) hx hb dX7_system_51 hl (k := 0) rfl (nI_1 i) (by decide) rfl (fun ls hl => ?_)
        refine lv_goto (tgt := 39) hx hb dX7_system_54 (by decide) ?_
        exact ih _ _ _ ⟨_, mix_s hf rfl, hP, hS, lv_sub hl [0, 1, 2] rfl⟩
      ·
        intro H locs ls ⟨f', hf, hP, hS, hl⟩
        refine lv_iload_n hx hb dX7_system_39 rfl (lv_at hl 0 rfl) ?_
        refine xpc (q := 40) rfl ?_
        refine lv_iconst (v := nI 3) hx hb dX7_system_40 (by decide) ?_
        refine lv_icmp_ge (tgt := 57) hx hb dX7_system_41 (by decide) (fun c_41 => ?_) (fun c_41 => absurd (Int32.le_refl _) c_41)
        subst hf
        refine lv_aload_n hx hb dX7_system_57 rfl (lv_at hl 1 rfl) ?_
        refine lv_dconst0 hx hb dX7_system_58 ?_
        refine pX7 hx hb hg hown hI hP hd rfl hS 0 rfl 7 rfl mF_X7_98 rfl rfl rfl (Nat.le_of_ble_eq_true rfl) pm0 dX7_system_59 (fun H locs hP hS => ?_)
        have hP : va_P D vwCl [(A 0, mO A (nI 0) (nI j) (nI 0) FP.dconst0 (gh S) (gtol S) (v 10 0) fl (bI (ggo S)) (v 10 1) (bI (gkn S)) (gt0 S) (gsp S) (wdI S) (glv S) (gtk S) (grf S) (nI (gev S))), (A 5, dA cD 3 (mix 3 (fun _ => FP.dconst0) (gy S)))] H := hP
        refine lv_aload_n hx hb dX7_system_62 rfl (lv_at hl 1 rfl) ?_
        refine lv_ldc2d (v := k0_125) hx hb hown (hg _ mD_X7_27) dX7_system_63 ?_
        refine pX7 hx hb hg hown hI hP hd rfl hS 0 rfl 8 rfl mF_X7_29 rfl rfl rfl (Nat.le_of_ble_eq_true rfl) pm0 dX7_system_66 (fun H locs hP hS => ?_)
        have hP : va_P D vwCl [(A 0, mO A (nI 0) (nI j) (nI 0) FP.dconst0 k0_125 (gtol S) (v 10 0) fl (bI (ggo S)) (v 10 1) (bI (gkn S)) (gt0 S) (gsp S) (wdI S) (glv S) (gtk S) (grf S) (nI (gev S))), (A 5, dA cD 3 (mix 3 (fun _ => FP.dconst0) (gy S)))] H := hP
        refine lv_aload_n hx hb dX7_system_69 rfl (lv_at hl 1 rfl) ?_
        refine lv_ldc2d (v := k0_125) hx hb hown (hg _ mD_X7_27) dX7_system_70 ?_
        refine pX7 hx hb hg hown hI hP hd rfl hS 0 rfl 9 rfl mF_X7_33 rfl rfl rfl (Nat.le_of_ble_eq_true rfl) pm0 dX7_system_73 (fun H locs hP hS => ?_)
        have hP : va_P D vwCl [(A 0, mO A (nI 0) (nI j) (nI 0) FP.dconst0 k0_125 k0_125 (v 10 0) fl (bI (ggo S)) (v 10 1) (bI (gkn S)) (gt0 S) (gsp S) (wdI S) (glv S) (gtk S) (grf S) (nI (gev S))), (A 5, dA cD 3 (mix 3 (fun _ => FP.dconst0) (gy S)))] H := hP
        refine lv_aload_n hx hb dX7_system_76 rfl (lv_at hl 1 rfl) ?_
        refine lv_iconst (v := nI 0) hx hb dX7_system_77 (by decide) ?_
        refine pX7 hx hb hg hown hI hP hd rfl hS 0 rfl 25 rfl mF_X7_187 rfl (by decide) (by decide) (Nat.le_of_ble_eq_true rfl) pm0 dX7_system_78 (fun H locs hP hS => ?_)
        have hP : va_P D vwCl [(A 0, mO A (nI 0) (nI j) (nI 0) FP.dconst0 k0_125 k0_125 (v 10 0) fl (bI (ggo S)) (v 10 1) (nI 0) (gt0 S) (gsp S) (wdI S) (glv S) (gtk S) (grf S) (nI (gev S))), (A 5, dA cD 3 (mix 3 (fun _ => FP.dconst0) (gy S)))] H := hP
        refine lv_aload_n hx hb dX7_system_81 rfl (lv_at hl 1 rfl) ?_
        refine xpc (q := 82) rfl ?_
        refine lv_iconst (v := nI 0) hx hb dX7_system_82 (by decide) ?_
        refine pX7 hx hb hg hown hI hP hd rfl hS 0 rfl 21 rfl mF_X7_136 rfl (by decide) (by decide) (Nat.le_of_ble_eq_true rfl) pm0 dX7_system_83 (fun H locs hP hS => ?_)
        have hP : va_P D vwCl [(A 0, mO A (nI 0) (nI j) (nI 0) FP.dconst0 k0_125 k0_125 (v 10 0) fl (nI 0) (v 10 1) (nI 0) (gt0 S) (gsp S) (wdI S) (glv S) (gtk S) (grf S) (nI (gev S))), (A 5, dA cD 3 (mix 3 (fun _ => FP.dconst0) (gy S)))] H := hP
        refine lv_aload_n hx hb dX7_system_86 rfl (lv_at hl 1 rfl) ?_
        refine lv_iconst (v := (-1)) hx hb dX7_system_87 (by decide) ?_
        refine pX7 hx hb hg hown hI hP hd rfl hS 0 rfl 31 rfl mF_X7_78 rfl rfl rfl (Nat.le_of_ble_eq_true rfl) pm0 dX7_system_88 (fun H locs hP hS => ?_)
        have hP : va_P D vwCl [(A 0, mO A (nI 0) (nI j) (nI 0) FP.dconst0 k0_125 k0_125 (v 10 0) fl (nI 0) (v 10 1) (nI 0) (gt0 S) (gsp S) (-1) (glv S) (gtk S) (grf S) (nI (gev S))), (A 5, dA cD 3 (mix 3 (fun _ => FP.dconst0) (gy S)))] H := hP
        refine lv_aload_n hx hb dX7_system_91 rfl (lv_at hl 1 rfl) ?_
        refine lv_iconst (v := nI 0) hx hb dX7_system_92 (by decide) ?_
        refine pX7 hx hb hg hown hI hP hd rfl hS 0 rfl 33 rfl mF_X7_190 rfl rfl rfl (Nat.le_of_ble_eq_true rfl) pm0 dX7_system_93 (fun H locs hP hS => ?_)
        have hP : va_P D vwCl [(A 0, mO A (nI 0) (nI j) (nI 0) FP.dconst0 k0_125 k0_125 (v 10 0) fl (nI 0) (v 10 1) (nI 0) (gt0 S) (gsp S) (-1) (glv S) (nI 0) (grf S) (nI (gev S))), (A 5, dA cD 3 (mix 3 (fun _ => FP.dconst0) (gy S)))] H := hP
        refine lv_aload_n hx hb dX7_system_96 rfl (lv_at hl 1 rfl) ?_
        refine lv_iconst (v := nI 0) hx hb dX7_system_97 (by decide) ?_
        refine pX7 hx hb hg hown hI hP hd rfl hS 0 rfl 34 rfl mF_X7_178 rfl rfl rfl (Nat.le_of_ble_eq_true rfl) pm0 dX7_system_98 (fun H locs hP hS => ?_)
        have hP : va_P D vwCl [(A 0, mO A (nI 0) (nI j) (nI 0) FP.dconst0 k0_125 k0_125 (v 10 0) fl (nI 0) (v 10 1) (nI 0) (gt0 S) (gsp S) (-1) (glv S) (nI 0) (nI 0) (nI (gev S))), (A 5, dA cD 3 (mix 3 (fun _ => FP.dconst0) (gy S)))] H := hP
        refine lv_aload_n hx hb dX7_system_101 rfl (lv_at hl 1 rfl) ?_
        refine lv_iconst (v := nI 0) hx hb dX7_system_102 (by decide) ?_
        refine pX7 hx hb hg hown hI hP hd rfl hS 0 rfl 35 rfl mF_X7_203 rfl rfl rfl (Nat.le_of_ble_eq_true rfl) pm0 dX7_system_103 (fun H locs hP hS => ?_)
        have hP : va_P D vwCl [(A 0, mO A (nI 0) (nI j) (nI 0) FP.dconst0 k0_125 k0_125 (v 10 0) fl (nI 0) (v 10 1) (nI 0) (gt0 S) (gsp S) (-1) (glv S) (nI 0) (nI 0) (nI 0)), (A 5, dA cD 3 (mix 3 (fun _ => FP.dconst0) (gy S)))] H := hP
        exact W.vret hx hb hr (fun tS hTS hWS => ⟨(), rfl, trivial, by rw [hTS]; exact hP.sub [0, 1] rfl, hS.F hTS⟩) hS.2.2 dX7_system_106
    ·
      have ho : sysP S n = (1, S) := if_neg (fun h => c_8 h.2)
      rw [ho]
      refine lv_iconst (v := nI 1) hx hb dX7_system_11 (by decide) ?_
      refine lv_goto (tgt := 16) hx hb dX7_system_12 (by decide) ?_
      refine pX7 hx hb hg hown hI hP hd rfl hS 0 rfl 0 rfl mF_X7_84 rfl rfl rfl (Nat.le_of_ble_eq_true rfl) pm0 dX7_system_16 (fun H locs hP hS => ?_)
      have hP : va_P D vwCl [(A 0, mO A (nI 1) (nI (sn (gσ S))) (nI (sc (gσ S))) (gt S) (gh S) (gtol S) (v 10 0) fl (bI (ggo S)) (v 10 1) (bI (gkn S)) (gt0 S) (gsp S) (wdI S) (glv S) (gtk S) (grf S) (nI (gev S))), (A 5, dA cD 3 (gy S))] H := hP
      refine lv_aload_n hx hb dX7_system_19 rfl (lv_at hl 0 rfl) ?_
      refine gX7 hx hb hg hown hI hP 0 rfl 0 rfl mF_X7_84 rfl dX7_system_20 ?_
      refine lv_if_le (tgt := 27) hx hb dX7_system_23 (by decide) (fun c_23 => absurd c_23 (by decide)) (fun c_23 => ?_)
      exact W.vret hx hb hr (fun tS hTS hWS => ⟨(), rfl, trivial, by rw [hTS]; exact hP.sub [0, 1] rfl, hS.F hTS⟩) hS.2.2 dX7_system_26

set_option maxHeartbeats 4000000 in
set_option maxRecDepth 100000 in
theorem r_isNamed (l : Launch) (D : va_G) (cD cI cM cL : ClassId) (A : Nat → Nat) (S : St) (th fl : Int32) (v : Nat → Nat → UInt64) (k : Int32)  : Met l yX7_isNamed (Cond.code yX7_isNamed cX7_isNamed 2 (some .boolean) :: lw_good) { frames := 1, cells := 0, slots := 0, locals := 21 } (xPc D (tyL cD cI cM cL) [.ref (A 0), .int k] [(A 0, mO A th (nI (sn (gσ S))) (nI (sc (gσ S))) (gt S) (gh S) (gtol S) (v 10 0) fl (bI (ggo S)) (v 10 1) (bI (gkn S)) (gt0 S) (gsp S) (wdI S) (glv S) (gtk S) (grf S) (nI (gev S)))]) (xQ D [] (fun (_ : Unit) => some (.int (bI (inF S k)))) (fun (_ : Unit) => True) (fun (_ : Unit) => [])) 0 0 (fun q => q ∈ ([] : List Nat)) := by
  refine xofW (adr := []) (by decide) (Nat.le_of_ble_eq_true rfl) ?_
  intro p e s m below meth c ls hx hb hr hml hg hown hlk hI hP hd hS hl
  have hown : s.vm.findClass RX7 = some m.cls := hown
  have hd : dj [A 0] := hd
  have hl : lv_has ls 2 [(0, .ref (A 0)), (1, .int k)] := hl
  refine lv_iload_n hx hb dX7_isNamed_0 rfl (lv_at hl 1 rfl) ?_
  refine lv_aload_n hx hb dX7_isNamed_1 rfl (lv_at hl 0 rfl) ?_
  refine gX7 hx hb hg hown hI hP 0 rfl 1 rfl mF_X7_7 rfl dX7_isNamed_2 ?_
  refine xci (xS (As := [.int k, .int (nI (sn (gσ S)))]) (rest := []) hx hb hml hown hg (r_out l D cD cI cM cL k (nI (sn (gσ S)))) mM_X7_206 ok_X7_out rfl rfl ⟨Nat.le_of_ble_eq_true rfl, Nat.le_of_ble_eq_true rfl⟩ hI hP hd rfl [] rfl rfl rfl hl.1 rfl (Nat.le_of_ble_eq_true rfl) dX7_isNamed_5 ⟨Nat.zero_le _, Nat.zero_le _⟩) hP hd hS fa0 [] rfl rfl (fun _ => rfl) (fun _u H locs hu hP hS => ?_)
  have hP : va_P D vwCl [(A 0, mO A th (nI (sn (gσ S))) (nI (sc (gσ S))) (gt S) (gh S) (gtol S) (v 10 0) fl (bI (ggo S)) (v 10 1) (bI (gkn S)) (gt0 S) (gsp S) (wdI S) (glv S) (gtk S) (grf S) (nI (gev S)))] H := hP
  refine lv_if_eq (tgt := 21) hx hb dX7_isNamed_8 (by decide) (fun c_8 => ?_) (fun c_8 => ?_)
  ·
    refine lv_iconst (v := nI 1) hx hb dX7_isNamed_21 (by decide) ?_
    refine lv_goto (tgt := 26) hx hb dX7_isNamed_22 (by decide) ?_
    refine xeqi (y := bI (inF S k)) (bI1 (dt (Or.inl (td (bn0.mp c_8))))) ?_
    exact W.zret hx hb hr (bI_n _) (fun tS hTS hWS => ⟨(), rfl, trivial, by rw [hTS]; exact hP.sub [] rfl, hS.F hTS⟩) hS.2.2 dX7_isNamed_26
  ·
    refine lv_iload_n hx hb dX7_isNamed_11 rfl (lv_at hl 1 rfl) ?_
    refine lv_iconst (v := nI 3) hx hb dX7_isNamed_12 (by decide) ?_
    refine lv_icmp_eq (tgt := 21) hx hb dX7_isNamed_13 (by decide) (fun c_13 => ?_) (fun c_13 => ?_)
    ·
      refine lv_iconst (v := nI 1) hx hb dX7_isNamed_21 (by decide) ?_
      refine lv_goto (tgt := 26) hx hb dX7_isNamed_22 (by decide) ?_
      refine xeqi (y := bI (inF S k)) (bI1 (dt (Or.inr (Or.inl c_13)))) ?_
      exact W.zret hx hb hr (bI_n _) (fun tS hTS hWS => ⟨(), rfl, trivial, by rw [hTS]; exact hP.sub [] rfl, hS.F hTS⟩) hS.2.2 dX7_isNamed_26
    ·
      refine lv_iload_n hx hb dX7_isNamed_16 rfl (lv_at hl 1 rfl) ?_
      refine lv_iconst (v := nI 4) hx hb dX7_isNamed_17 (by decide) ?_
      refine lv_icmp_ne (tgt := 25) hx hb dX7_isNamed_18 (by decide) (fun c_18 => ?_) (fun c_18 => ?_)
      ·
        refine lv_iconst (v := nI 0) hx hb dX7_isNamed_25 (by decide) ?_
        refine xeqi (y := bI (inF S k)) (bI0 (df (fun h => h.elim (fd (bn1.mp c_8)) (fun h => h.elim c_13 c_18)))) ?_
        exact W.zret hx hb hr (bI_n _) (fun tS hTS hWS => ⟨(), rfl, trivial, by rw [hTS]; exact hP.sub [] rfl, hS.F hTS⟩) hS.2.2 dX7_isNamed_26
      ·
        refine lv_iconst (v := nI 1) hx hb dX7_isNamed_21 (by decide) ?_
        refine lv_goto (tgt := 26) hx hb dX7_isNamed_22 (by decide) ?_
        refine xeqi (y := bI (inF S k)) (bI1 (dt (Or.inr (Or.inr c_18)))) ?_
        exact W.zret hx hb hr (bI_n _) (fun tS hTS hWS => ⟨(), rfl, trivial, by rw [hTS]; exact hP.sub [] rfl, hS.F hTS⟩) hS.2.2 dX7_isNamed_26

set_option maxHeartbeats 4000000 in
set_option maxRecDepth 100000 in
theorem r_term (l : Launch) (D : va_G) (cD cI cM cL : ClassId) (A : Nat → Nat) (S : St) (th fl : Int32) (v : Nat → Nat → UInt64) (i : Int32) (x : UInt64) (a b : Int32) (hc : sc (gσ S) ≤ 10) : Met l yX7_term (Cond.code yX7_term cX7_term 7 (some .int) :: lw_good) { frames := 2, cells := 0, slots := 0, locals := 42 } (xPc D (tyL cD cI cM cL) [.ref (A 0), .int i, .double x, .int a, .int b] [(A 0, mO A th (nI (sn (gσ S))) (nI (sc (gσ S))) (gt S) (gh S) (gtol S) (v 10 0) fl (bI (ggo S)) (v 10 1) (bI (gkn S)) (gt0 S) (gsp S) (wdI S) (glv S) (gtk S) (grf S) (nI (gev S))), (A 1, iA cI 10 (so (gσ S))), (A 2, iA cI 10 (sl (gσ S))), (A 3, iA cI 10 (sr (gσ S))), (A 4, dA cD 10 (sk (gσ S)))]) (xQ D [A 0, A 1, A 2, A 3, A 4] (fun (_ : Unit) => some (.int (if (trmP S i x a b).1 = 0 then nI (sc (gσ S) + 1) else nI 0))) (fun (_ : Unit) => True) (fun (_ : Unit) => [(A 0, mO A (nI (trmP S i x a b).1) (nI (sn (gσ ((trmP S i x a b).2)))) (nI (sc (gσ ((trmP S i x a b).2)))) (gt ((trmP S i x a b).2)) (gh ((trmP S i x a b).2)) (gtol ((trmP S i x a b).2)) (v 10 0) fl (bI (ggo ((trmP S i x a b).2))) (v 10 1) (bI (gkn ((trmP S i x a b).2))) (gt0 ((trmP S i x a b).2)) (gsp ((trmP S i x a b).2)) (wdI ((trmP S i x a b).2)) (glv ((trmP S i x a b).2)) (gtk ((trmP S i x a b).2)) (grf ((trmP S i x a b).2)) (nI (gev ((trmP S i x a b).2)))), (A 1, iA cI 10 (so (gσ ((trmP S i x a b).2)))), (A 2, iA cI 10 (sl (gσ ((trmP S i x a b).2)))), (A 3, iA cI 10 (sr (gσ ((trmP S i x a b).2)))), (A 4, dA cD 10 (sk (gσ ((trmP S i x a b).2))))])) 0 0 (fun q => q ∈ ([A 0, A 1, A 2, A 3, A 4] : List Nat)) := by
  refine xofW (adr := [A 0, A 1, A 2, A 3, A 4]) (by decide) (Nat.le_of_ble_eq_true rfl) ?_
  intro p e s m below meth c ls hx hb hr hml hg hown hlk hI hP hd hS hl
  have hown : s.vm.findClass RX7 = some m.cls := hown
  have hd : dj [A 0, A 1, A 2, A 3, A 4] := hd
  have hl : lv_has ls 7 [(0, .ref (A 0)), (1, .int i), (2, .double x), (4, .int a), (5, .int b)] := hl
  refine xcut (I := fun H locs ls => (True) ∧ va_P D vwCl [(A 0, mO A th (nI (sn (gσ S))) (nI (sc (gσ S))) (gt S) (gh S) (gtol S) (v 10 0) fl (bI (ggo S)) (v 10 1) (bI (gkn S)) (gt0 S) (gsp S) (wdI S) (glv S) (gtk S) (grf S) (nI (gev S))), (A 1, iA cI 10 (so (gσ S))), (A 2, iA cI 10 (sl (gσ S))), (A 3, iA cI 10 (sr (gσ S))), (A 4, dA cD 10 (sk (gσ S)))] H ∧ va_S (fun q => q ∈ ([A 0, A 1, A 2, A 3, A 4] : List Nat)) s.heap H locs ∧ lv_has ls 7 [(0, .ref (A 0)), (1, .int i), (2, .double x), (4, .int a), (5, .int b)]) (pc2 := 50) (rest2 := [.int (bI (inV S i && inF S a && inF S b && wthn x k64))]) (fun H locs ls hh => ?_) (fun K0 => ?_)
  ·
    obtain ⟨_h0, hP, hS, hl⟩ := hh
    refine lv_istore (lv' := [(6, .int (bI (inV S i && inF S a && inF S b && wthn x k64))), (0, .ref (A 0)), (1, .int i), (2, .double x), (4, .int a), (5, .int b)]) hx hb dX7_term_50 hl (by decide) rfl (fun ls hl => ?_)
    refine lv_aload_n hx hb dX7_term_52 rfl (lv_at hl 1 rfl) ?_
    refine lv_iload hx hb dX7_term_53 (lv_at hl 0 rfl) ?_
    refine lv_if_ne (tgt := 62) hx hb dX7_term_55 (by decide) (fun c_55 => ?_) (fun c_55 => ?_)
    ·
      have hgd := bI_ne0.mp c_55
      refine lv_aload_n hx hb dX7_term_62 rfl (lv_at hl 1 rfl) ?_
      refine gX7 hx hb hg hown hI hP 0 rfl 2 rfl mF_X7_91 rfl dX7_term_63 ?_
      refine lv_bipush (v := nI 10) hx hb dX7_term_66 (by decide) ?_
      refine lv_icmp_ne (tgt := 75) hx hb dX7_term_68 (by decide) (fun c_68 => ?_) (fun c_68 => ?_)
      ·
        have h10 : sc (gσ S) < 10 := Nat.lt_of_le_of_ne hc (fun q => c_68 (by rw [q]))
        have ho : trmP S i x a b = (0, offS (trmS S i x a b)) := by unfold trmP; rw [hgd, if_pos rfl]; exact if_neg (by rw [df (by omega)]; decide)
        rw [ho]
        refine lv_iconst (v := nI 0) hx hb dX7_term_75 (by decide) ?_
        refine pX7 hx hb hg hown hI hP hd rfl hS 0 rfl 0 rfl mF_X7_84 rfl rfl rfl (Nat.le_of_ble_eq_true rfl) pm0 dX7_term_76 (fun H locs hP hS => ?_)
        have hP : va_P D vwCl [(A 0, mO A (nI 0) (nI (sn (gσ S))) (nI (sc (gσ S))) (gt S) (gh S) (gtol S) (v 10 0) fl (bI (ggo S)) (v 10 1) (bI (gkn S)) (gt0 S) (gsp S) (wdI S) (glv S) (gtk S) (grf S) (nI (gev S))), (A 1, iA cI 10 (so (gσ S))), (A 2, iA cI 10 (sl (gσ S))), (A 3, iA cI 10 (sr (gσ S))), (A 4, dA cD 10 (sk (gσ S)))] H := hP
        refine lv_aload_n hx hb dX7_term_79 rfl (lv_at hl 1 rfl) ?_
        refine gX7 hx hb hg hown hI hP 0 rfl 0 rfl mF_X7_84 rfl dX7_term_80 ?_
        refine lv_if_le (tgt := 88) hx hb dX7_term_83 (by decide) (fun c_83 => ?_) (fun c_83 => (c_83 (by decide)).elim)
        refine lv_aload_n hx hb dX7_term_88 rfl (lv_at hl 1 rfl) ?_
        refine gX7 hx hb hg hown hI hP 0 rfl 3 rfl mF_X7_13 rfl dX7_term_89 ?_
        refine lv_aload_n hx hb dX7_term_92 rfl (lv_at hl 1 rfl) ?_
        refine gX7 hx hb hg hown hI hP 0 rfl 2 rfl mF_X7_91 rfl dX7_term_93 ?_
        refine lv_iload_n hx hb dX7_term_96 rfl (lv_at hl 2 rfl) ?_
        refine xiast hx hb hI hP hd rfl hS 1 1 rfl rfl h10 (by decide) (pmS pm0) dX7_term_97 (fun H locs hP hS => ?_)
        have hP : va_P D vwCl [(A 0, mO A (nI 0) (nI (sn (gσ S))) (nI (sc (gσ S))) (gt S) (gh S) (gtol S) (v 10 0) fl (bI (ggo S)) (v 10 1) (bI (gkn S)) (gt0 S) (gsp S) (wdI S) (glv S) (gtk S) (grf S) (nI (gev S))), (A 1, iA cI 10 (upd (so (gσ S)) (sc (gσ S)) i)), (A 2, iA cI 10 (sl (gσ S))), (A 3, iA cI 10 (sr (gσ S))), (A 4, dA cD 10 (sk (gσ S)))] H := hP
        refine lv_aload_n hx hb dX7_term_98 rfl (lv_at hl 1 rfl) ?_
        refine gX7 hx hb hg hown hI hP 0 rfl 6 rfl mF_X7_23 rfl dX7_term_99 ?_
        refine lv_aload_n hx hb dX7_term_102 rfl (lv_at hl 1 rfl) ?_
        refine xpc (q := 103) rfl ?_
        refine gX7 hx hb hg hown hI hP 0 rfl 2 rfl mF_X7_91 rfl dX7_term_103 ?_
        refine lv_dload_n hx hb dX7_term_106 rfl (lv_at hl 3 rfl) ?_
        refine xdast hx hb hI hP hd rfl hS 4 0 rfl rfl h10 (by decide) (pmS (pmS (pmS (pmS pm0)))) dX7_term_107 (fun H locs hP hS => ?_)
        have hP : va_P D vwCl [(A 0, mO A (nI 0) (nI (sn (gσ S))) (nI (sc (gσ S))) (gt S) (gh S) (gtol S) (v 10 0) fl (bI (ggo S)) (v 10 1) (bI (gkn S)) (gt0 S) (gsp S) (wdI S) (glv S) (gtk S) (grf S) (nI (gev S))), (A 1, iA cI 10 (upd (so (gσ S)) (sc (gσ S)) i)), (A 2, iA cI 10 (sl (gσ S))), (A 3, iA cI 10 (sr (gσ S))), (A 4, dA cD 10 (vf_upd (sk (gσ S)) (sc (gσ S)) x))] H := hP
        refine lv_aload_n hx hb dX7_term_108 rfl (lv_at hl 1 rfl) ?_
        refine gX7 hx hb hg hown hI hP 0 rfl 4 rfl mF_X7_17 rfl dX7_term_109 ?_
        refine lv_aload_n hx hb dX7_term_112 rfl (lv_at hl 1 rfl) ?_
        refine gX7 hx hb hg hown hI hP 0 rfl 2 rfl mF_X7_91 rfl dX7_term_113 ?_
        refine lv_iload hx hb dX7_term_116 (lv_at hl 4 rfl) ?_
        refine xiast hx hb hI hP hd rfl hS 2 1 rfl rfl h10 (by decide) (pmS (pmS pm0)) dX7_term_118 (fun H locs hP hS => ?_)
        have hP : va_P D vwCl [(A 0, mO A (nI 0) (nI (sn (gσ S))) (nI (sc (gσ S))) (gt S) (gh S) (gtol S) (v 10 0) fl (bI (ggo S)) (v 10 1) (bI (gkn S)) (gt0 S) (gsp S) (wdI S) (glv S) (gtk S) (grf S) (nI (gev S))), (A 1, iA cI 10 (upd (so (gσ S)) (sc (gσ S)) i)), (A 2, iA cI 10 (upd (sl (gσ S)) (sc (gσ S)) a)), (A 3, iA cI 10 (sr (gσ S))), (A 4, dA cD 10 (vf_upd (sk (gσ S)) (sc (gσ S)) x))] H := hP
        refine lv_aload_n hx hb dX7_term_119 rfl (lv_at hl 1 rfl) ?_
        refine gX7 hx hb hg hown hI hP 0 rfl 5 rfl mF_X7_20 rfl dX7_term_120 ?_
        refine lv_aload_n hx hb dX7_term_123 rfl (lv_at hl 1 rfl) ?_
        refine gX7 hx hb hg hown hI hP 0 rfl 2 rfl mF_X7_91 rfl dX7_term_124 ?_
        refine lv_iload hx hb dX7_term_127 (lv_at hl 5 rfl) ?_
        refine xpc (q := 129) rfl ?_
        refine xiast hx hb hI hP hd rfl hS 3 1 rfl rfl h10 (by decide) (pmS (pmS (pmS pm0))) dX7_term_129 (fun H locs hP hS => ?_)
        have hP : va_P D vwCl [(A 0, mO A (nI 0) (nI (sn (gσ S))) (nI (sc (gσ S))) (gt S) (gh S) (gtol S) (v 10 0) fl (bI (ggo S)) (v 10 1) (bI (gkn S)) (gt0 S) (gsp S) (wdI S) (glv S) (gtk S) (grf S) (nI (gev S))), (A 1, iA cI 10 (upd (so (gσ S)) (sc (gσ S)) i)), (A 2, iA cI 10 (upd (sl (gσ S)) (sc (gσ S)) a)), (A 3, iA cI 10 (upd (sr (gσ S)) (sc (gσ S)) b)), (A 4, dA cD 10 (vf_upd (sk (gσ S)) (sc (gσ S)) x))] H := hP
        refine lv_aload_n hx hb dX7_term_130 rfl (lv_at hl 1 rfl) ?_
        refine lv_dup hx hb dX7_term_131 rfl ?_
        refine gX7 hx hb hg hown hI hP 0 rfl 2 rfl mF_X7_91 rfl dX7_term_132 ?_
        refine lv_iconst (v := nI 1) hx hb dX7_term_135 (by decide) ?_
        refine lv_iadd hx hb dX7_term_136 ?_
        refine xeqi (y := nI ((sc (gσ S)) + 1)) (nI_add (sc (gσ S)) 1) ?_
        refine pX7 hx hb hg hown hI hP hd rfl hS 0 rfl 2 rfl mF_X7_91 rfl rfl rfl (Nat.le_of_ble_eq_true rfl) pm0 dX7_term_137 (fun H locs hP hS => ?_)
        have hP : va_P D vwCl [(A 0, mO A (nI 0) (nI (sn (gσ S))) (nI ((sc (gσ S)) + 1)) (gt S) (gh S) (gtol S) (v 10 0) fl (bI (ggo S)) (v 10 1) (bI (gkn S)) (gt0 S) (gsp S) (wdI S) (glv S) (gtk S) (grf S) (nI (gev S))), (A 1, iA cI 10 (upd (so (gσ S)) (sc (gσ S)) i)), (A 2, iA cI 10 (upd (sl (gσ S)) (sc (gσ S)) a)), (A 3, iA cI 10 (upd (sr (gσ S)) (sc (gσ S)) b)), (A 4, dA cD 10 (vf_upd (sk (gσ S)) (sc (gσ S)) x))] H := hP
        refine lv_aload_n hx hb dX7_term_140 rfl (lv_at hl 1 rfl) ?_
        refine lv_iconst (v := nI 0) hx hb dX7_term_141 (by decide) ?_
        refine pX7 hx hb hg hown hI hP hd rfl hS 0 rfl 25 rfl mF_X7_187 rfl (by decide) (by decide) (Nat.le_of_ble_eq_true rfl) pm0 dX7_term_142 (fun H locs hP hS => ?_)
        have hP : va_P D vwCl [(A 0, mO A (nI 0) (nI (sn (gσ S))) (nI ((sc (gσ S)) + 1)) (gt S) (gh S) (gtol S) (v 10 0) fl (bI (ggo S)) (v 10 1) (nI 0) (gt0 S) (gsp S) (wdI S) (glv S) (gtk S) (grf S) (nI (gev S))), (A 1, iA cI 10 (upd (so (gσ S)) (sc (gσ S)) i)), (A 2, iA cI 10 (upd (sl (gσ S)) (sc (gσ S)) a)), (A 3, iA cI 10 (upd (sr (gσ S)) (sc (gσ S)) b)), (A 4, dA cD 10 (vf_upd (sk (gσ S)) (sc (gσ S)) x))] H := hP
        refine lv_aload_n hx hb dX7_term_145 rfl (lv_at hl 1 rfl) ?_
        refine lv_iconst (v := nI 0) hx hb dX7_term_146 (by decide) ?_
        refine pX7 hx hb hg hown hI hP hd rfl hS 0 rfl 21 rfl mF_X7_136 rfl (by decide) (by decide) (Nat.le_of_ble_eq_true rfl) pm0 dX7_term_147 (fun H locs hP hS => ?_)
        have hP : va_P D vwCl [(A 0, mO A (nI 0) (nI (sn (gσ S))) (nI ((sc (gσ S)) + 1)) (gt S) (gh S) (gtol S) (v 10 0) fl (nI 0) (v 10 1) (nI 0) (gt0 S) (gsp S) (wdI S) (glv S) (gtk S) (grf S) (nI (gev S))), (A 1, iA cI 10 (upd (so (gσ S)) (sc (gσ S)) i)), (A 2, iA cI 10 (upd (sl (gσ S)) (sc (gσ S)) a)), (A 3, iA cI 10 (upd (sr (gσ S)) (sc (gσ S)) b)), (A 4, dA cD 10 (vf_upd (sk (gσ S)) (sc (gσ S)) x))] H := hP
        refine lv_aload_n hx hb dX7_term_150 rfl (lv_at hl 1 rfl) ?_
        refine xpc (q := 151) rfl ?_
        refine gX7 hx hb hg hown hI hP 0 rfl 2 rfl mF_X7_91 rfl dX7_term_151 ?_
        exact W.iret hx hb hr (fun tS hTS hWS => ⟨(), rfl, trivial, by rw [hTS]; exact hP.sub [0, 1, 2, 3, 4] rfl, hS.F hTS⟩) hS.2.2 dX7_term_154
      ·
        have h10 : sc (gσ S) = 10 := (nI_eq (by omega) (by decide)).mp c_68
        have ho : trmP S i x a b = (2, S) := by unfold trmP; rw [hgd, if_pos rfl]; exact if_pos (dt (by omega))
        rw [ho]
        refine lv_iconst (v := nI 2) hx hb dX7_term_71 (by decide) ?_
        refine lv_goto (tgt := 76) hx hb dX7_term_72 (by decide) ?_
        refine pX7 hx hb hg hown hI hP hd rfl hS 0 rfl 0 rfl mF_X7_84 rfl rfl rfl (Nat.le_of_ble_eq_true rfl) pm0 dX7_term_76 (fun H locs hP hS => ?_)
        have hP : va_P D vwCl [(A 0, mO A (nI 2) (nI (sn (gσ S))) (nI (sc (gσ S))) (gt S) (gh S) (gtol S) (v 10 0) fl (bI (ggo S)) (v 10 1) (bI (gkn S)) (gt0 S) (gsp S) (wdI S) (glv S) (gtk S) (grf S) (nI (gev S))), (A 1, iA cI 10 (so (gσ S))), (A 2, iA cI 10 (sl (gσ S))), (A 3, iA cI 10 (sr (gσ S))), (A 4, dA cD 10 (sk (gσ S)))] H := hP
        refine lv_aload_n hx hb dX7_term_79 rfl (lv_at hl 1 rfl) ?_
        refine gX7 hx hb hg hown hI hP 0 rfl 0 rfl mF_X7_84 rfl dX7_term_80 ?_
        refine lv_if_le (tgt := 88) hx hb dX7_term_83 (by decide) (fun c_83 => absurd c_83 (by decide)) (fun c_83 => ?_)
        refine lv_iconst (v := nI 0) hx hb dX7_term_86 (by decide) ?_
        exact W.iret hx hb hr (fun tS hTS hWS => ⟨(), rfl, trivial, by rw [hTS]; exact hP.sub [0, 1, 2, 3, 4] rfl, hS.F hTS⟩) hS.2.2 dX7_term_87
    ·
      have ho : trmP S i x a b = (1, S) := by unfold trmP; rw [bI_eq0.mp c_55]; rfl
      rw [ho]
      refine lv_iconst (v := nI 1) hx hb dX7_term_58 (by decide) ?_
      refine lv_goto (tgt := 76) hx hb dX7_term_59 (by decide) ?_
      refine pX7 hx hb hg hown hI hP hd rfl hS 0 rfl 0 rfl mF_X7_84 rfl rfl rfl (Nat.le_of_ble_eq_true rfl) pm0 dX7_term_76 (fun H locs hP hS => ?_)
      have hP : va_P D vwCl [(A 0, mO A (nI 1) (nI (sn (gσ S))) (nI (sc (gσ S))) (gt S) (gh S) (gtol S) (v 10 0) fl (bI (ggo S)) (v 10 1) (bI (gkn S)) (gt0 S) (gsp S) (wdI S) (glv S) (gtk S) (grf S) (nI (gev S))), (A 1, iA cI 10 (so (gσ S))), (A 2, iA cI 10 (sl (gσ S))), (A 3, iA cI 10 (sr (gσ S))), (A 4, dA cD 10 (sk (gσ S)))] H := hP
      refine lv_aload_n hx hb dX7_term_79 rfl (lv_at hl 1 rfl) ?_
      refine gX7 hx hb hg hown hI hP 0 rfl 0 rfl mF_X7_84 rfl dX7_term_80 ?_
      refine lv_if_le (tgt := 88) hx hb dX7_term_83 (by decide) (fun c_83 => absurd c_83 (by decide)) (fun c_83 => ?_)
      refine lv_iconst (v := nI 0) hx hb dX7_term_86 (by decide) ?_
      exact W.iret hx hb hr (fun tS hTS hWS => ⟨(), rfl, trivial, by rw [hTS]; exact hP.sub [0, 1, 2, 3, 4] rfl, hS.F hTS⟩) hS.2.2 dX7_term_87
  ·
    refine lv_iload_n hx hb dX7_term_0 rfl (lv_at hl 1 rfl) ?_
    refine lv_aload_n hx hb dX7_term_1 rfl (lv_at hl 0 rfl) ?_
    refine gX7 hx hb hg hown hI hP 0 rfl 1 rfl mF_X7_7 rfl dX7_term_2 ?_
    refine xci (xS (As := [.int i, .int (nI (sn (gσ S)))]) (rest := []) hx hb hml hown hg (r_out l D cD cI cM cL i (nI (sn (gσ S)))) mM_X7_206 ok_X7_out rfl rfl ⟨Nat.le_of_ble_eq_true rfl, Nat.le_of_ble_eq_true rfl⟩ hI hP hd rfl [] rfl rfl rfl hl.1 rfl (Nat.le_of_ble_eq_true rfl) dX7_term_5 ⟨Nat.zero_le _, Nat.zero_le _⟩) hP hd hS fa0 [] rfl rfl (fun _ => rfl) (fun _u H locs hu hP hS => ?_)
    have hP : va_P D vwCl [(A 0, mO A th (nI (sn (gσ S))) (nI (sc (gσ S))) (gt S) (gh S) (gtol S) (v 10 0) fl (bI (ggo S)) (v 10 1) (bI (gkn S)) (gt0 S) (gsp S) (wdI S) (glv S) (gtk S) (grf S) (nI (gev S))), (A 1, iA cI 10 (so (gσ S))), (A 2, iA cI 10 (sl (gσ S))), (A 3, iA cI 10 (sr (gσ S))), (A 4, dA cD 10 (sk (gσ S)))] H := hP
    refine lv_if_ne (tgt := 49) hx hb dX7_term_8 (by decide) (fun c_8 => ?_) (fun c_8 => ?_)
    ·
      refine lv_iconst (v := nI 0) hx hb dX7_term_49 (by decide) ?_
      refine xeqi (y := bI (inV S i && inF S a && inF S b && wthn x k64)) (bI0 (by rw [show inV S i = false from bn1.mp c_8]; simp)) ?_
      exact K0 _ _ _ ⟨trivial, hP, hS, lv_sub hl [0, 1, 2, 3, 4] rfl⟩
    ·
      refine lv_aload_n hx hb dX7_term_11 rfl (lv_at hl 0 rfl) ?_
      refine lv_iload hx hb dX7_term_12 (lv_at hl 3 rfl) ?_
      refine xci (xV (As := [.int a]) (rest := []) hx hb hml hown hg (r_isNamed l D cD cI cM cL A S th fl v a) mM_X7_210 ok_X7_isNamed rfl rfl ⟨Nat.le_of_ble_eq_true rfl, Nat.le_of_ble_eq_true rfl⟩ hI hP hd rfl [0] rfl rfl rfl rfl rfl hl.1 rfl (Nat.le_of_ble_eq_true rfl) dX7_term_14 ⟨Nat.zero_le _, Nat.zero_le _⟩) hP hd hS fa0 [] rfl rfl (fun _ => rfl) (fun _u H locs hu hP hS => ?_)
      have hP : va_P D vwCl [(A 0, mO A th (nI (sn (gσ S))) (nI (sc (gσ S))) (gt S) (gh S) (gtol S) (v 10 0) fl (bI (ggo S)) (v 10 1) (bI (gkn S)) (gt0 S) (gsp S) (wdI S) (glv S) (gtk S) (grf S) (nI (gev S))), (A 1, iA cI 10 (so (gσ S))), (A 2, iA cI 10 (sl (gσ S))), (A 3, iA cI 10 (sr (gσ S))), (A 4, dA cD 10 (sk (gσ S)))] H := hP
      refine lv_if_eq (tgt := 49) hx hb dX7_term_17 (by decide) (fun c_17 => ?_) (fun c_17 => ?_)
      ·
        refine lv_iconst (v := nI 0) hx hb dX7_term_49 (by decide) ?_
        refine xeqi (y := bI (inV S i && inF S a && inF S b && wthn x k64)) (bI0 (by rw [bI_eq0.mp c_17]; simp)) ?_
        exact K0 _ _ _ ⟨trivial, hP, hS, lv_sub hl [0, 1, 2, 3, 4] rfl⟩
      ·
        refine lv_aload_n hx hb dX7_term_20 rfl (lv_at hl 0 rfl) ?_
        refine lv_iload hx hb dX7_term_21 (lv_at hl 4 rfl) ?_
        refine xci (xV (As := [.int b]) (rest := []) hx hb hml hown hg (r_isNamed l D cD cI cM cL A S th fl v b) mM_X7_210 ok_X7_isNamed rfl rfl ⟨Nat.le_of_ble_eq_true rfl, Nat.le_of_ble_eq_true rfl⟩ hI hP hd rfl [0] rfl rfl rfl rfl rfl hl.1 rfl (Nat.le_of_ble_eq_true rfl) dX7_term_23 ⟨Nat.zero_le _, Nat.zero_le _⟩) hP hd hS fa0 [] rfl rfl (fun _ => rfl) (fun _u H locs hu hP hS => ?_)
        have hP : va_P D vwCl [(A 0, mO A th (nI (sn (gσ S))) (nI (sc (gσ S))) (gt S) (gh S) (gtol S) (v 10 0) fl (bI (ggo S)) (v 10 1) (bI (gkn S)) (gt0 S) (gsp S) (wdI S) (glv S) (gtk S) (grf S) (nI (gev S))), (A 1, iA cI 10 (so (gσ S))), (A 2, iA cI 10 (sl (gσ S))), (A 3, iA cI 10 (sr (gσ S))), (A 4, dA cD 10 (sk (gσ S)))] H := hP
        refine lv_if_eq (tgt := 49) hx hb dX7_term_26 (by decide) (fun c_26 => ?_) (fun c_26 => ?_)
        ·
          refine lv_iconst (v := nI 0) hx hb dX7_term_49 (by decide) ?_
          refine xeqi (y := bI (inV S i && inF S a && inF S b && wthn x k64)) (bI0 (by rw [bI_eq0.mp c_26]; simp)) ?_
          exact K0 _ _ _ ⟨trivial, hP, hS, lv_sub hl [0, 1, 2, 3, 4] rfl⟩
        ·
          refine lv_dload_n hx hb dX7_term_29 rfl (lv_at hl 2 rfl) ?_
          refine lv_ldc2d (v := km64) hx hb hown (hg _ mD_X7_214) dX7_term_30 ?_
          refine xl_lt (tgt := 49) hx hb dX7_term_33 dX7_term_34 (by decide) (fun c_33 => ?_) (fun c_33 => ?_)
          ·
            refine lv_iconst (v := nI 0) hx hb dX7_term_49 (by decide) ?_
            refine xeqi (y := bI (inV S i && inF S a && inF S b && wthn x k64)) (bI0 (by rw [wth_f1 dm64 c_33]; simp)) ?_
            exact K0 _ _ _ ⟨trivial, hP, hS, lv_sub hl [0, 1, 2, 3, 4] rfl⟩
          ·
            refine lv_dload_n hx hb dX7_term_37 rfl (lv_at hl 2 rfl) ?_
            refine lv_ldc2d (v := k64) hx hb hown (hg _ mD_X7_216) dX7_term_38 ?_
            refine xg_gt (tgt := 49) hx hb dX7_term_41 dX7_term_42 (by decide) (fun c_41 => ?_) (fun c_41 => ?_)
            ·
              refine lv_iconst (v := nI 0) hx hb dX7_term_49 (by decide) ?_
              refine xeqi (y := bI (inV S i && inF S a && inF S b && wthn x k64)) (bI0 (by rw [wth_f2 c_41]; simp)) ?_
              exact K0 _ _ _ ⟨trivial, hP, hS, lv_sub hl [0, 1, 2, 3, 4] rfl⟩
            ·
              refine lv_iconst (v := nI 1) hx hb dX7_term_45 (by decide) ?_
              refine lv_goto (tgt := 50) hx hb dX7_term_46 (by decide) ?_
              refine xeqi (y := bI (inV S i && inF S a && inF S b && wthn x k64)) (bI1 (by rw [show inV S i = true from bn0.mp c_8, bI_ne0.mp c_17, bI_ne0.mp c_26, wth_t dm64 c_33 c_41]; rfl)) ?_
              exact K0 _ _ _ ⟨trivial, hP, hS, lv_sub hl [0, 1, 2, 3, 4] rfl⟩

set_option maxHeartbeats 4000000 in
set_option maxRecDepth 100000 in
theorem r_value (l : Launch) (D : va_G) (cD cI cM cL : ClassId) (A : Nat → Nat) (S : St) (th fl : Int32) (v : Nat → Nat → UInt64) (i : Int32) (x : UInt64) (hn : sn (gσ S) ≤ 3) : Met l yX7_value (Cond.code yX7_value cX7_value 4 none :: lw_good) { frames := 1, cells := 0, slots := 0, locals := 21 } (xPc D (tyL cD cI cM cL) [.ref (A 0), .int i, .double x] [(A 0, mO A th (nI (sn (gσ S))) (nI (sc (gσ S))) (gt S) (gh S) (gtol S) (v 10 0) fl (bI (ggo S)) (v 10 1) (bI (gkn S)) (gt0 S) (gsp S) (wdI S) (glv S) (gtk S) (grf S) (nI (gev S))), (A 5, dA cD 3 (gy S))]) (xQ D [A 0, A 5] (fun (_ : Unit) => none) (fun (_ : Unit) => True) (fun (_ : Unit) => [(A 0, mO A (nI (valP S i x).1) (nI (sn (gσ ((valP S i x).2)))) (nI (sc (gσ ((valP S i x).2)))) (gt ((valP S i x).2)) (gh ((valP S i x).2)) (gtol ((valP S i x).2)) (v 10 0) fl (bI (ggo ((valP S i x).2))) (v 10 1) (bI (gkn ((valP S i x).2))) (gt0 ((valP S i x).2)) (gsp ((valP S i x).2)) (wdI ((valP S i x).2)) (glv ((valP S i x).2)) (gtk ((valP S i x).2)) (grf ((valP S i x).2)) (nI (gev ((valP S i x).2)))), (A 5, dA cD 3 (gy ((valP S i x).2)))])) 0 0 (fun q => q ∈ ([A 0, A 5] : List Nat)) := by
  refine xofW (adr := [A 0, A 5]) (by decide) (Nat.le_of_ble_eq_true rfl) ?_
  intro p e s m below meth c ls hx hb hr hml hg hown hlk hI hP hd hS hl
  have hown : s.vm.findClass RX7 = some m.cls := hown
  have hd : dj [A 0, A 5] := hd
  have hl : lv_has ls 4 [(0, .ref (A 0)), (1, .int i), (2, .double x)] := hl
  refine lv_aload_n hx hb dX7_value_0 rfl (lv_at hl 0 rfl) ?_
  refine lv_iload_n hx hb dX7_value_1 rfl (lv_at hl 1 rfl) ?_
  refine lv_aload_n hx hb dX7_value_2 rfl (lv_at hl 0 rfl) ?_
  refine gX7 hx hb hg hown hI hP 0 rfl 1 rfl mF_X7_7 rfl dX7_value_3 ?_
  refine xci (xS (As := [.int i, .int (nI (sn (gσ S)))]) (rest := [.ref (A 0)]) hx hb hml hown hg (r_out l D cD cI cM cL i (nI (sn (gσ S)))) mM_X7_206 ok_X7_out rfl rfl ⟨Nat.le_of_ble_eq_true rfl, Nat.le_of_ble_eq_true rfl⟩ hI hP hd rfl [] rfl rfl rfl hl.1 rfl (Nat.le_of_ble_eq_true rfl) dX7_value_6 ⟨Nat.zero_le _, Nat.zero_le _⟩) hP hd hS fa0 [] rfl rfl (fun _ => rfl) (fun _u H locs hu hP hS => ?_)
  have hP : va_P D vwCl [(A 0, mO A th (nI (sn (gσ S))) (nI (sc (gσ S))) (gt S) (gh S) (gtol S) (v 10 0) fl (bI (ggo S)) (v 10 1) (bI (gkn S)) (gt0 S) (gsp S) (wdI S) (glv S) (gtk S) (grf S) (nI (gev S))), (A 5, dA cD 3 (gy S))] H := hP
  refine lv_if_ne (tgt := 32) hx hb dX7_value_9 (by decide) (fun c_9 => ?_) (fun c_9 => ?_)
  ·
    have ho : valP S i x = (1, S) := by unfold valP; rw [show inV S i = false from bn1.mp c_9]; simp
    rw [ho]
    refine lv_iconst (v := nI 1) hx hb dX7_value_32 (by decide) ?_
    refine pX7 hx hb hg hown hI hP hd rfl hS 0 rfl 0 rfl mF_X7_84 rfl rfl rfl (Nat.le_of_ble_eq_true rfl) pm0 dX7_value_33 (fun H locs hP hS => ?_)
    have hP : va_P D vwCl [(A 0, mO A (nI 1) (nI (sn (gσ S))) (nI (sc (gσ S))) (gt S) (gh S) (gtol S) (v 10 0) fl (bI (ggo S)) (v 10 1) (bI (gkn S)) (gt0 S) (gsp S) (wdI S) (glv S) (gtk S) (grf S) (nI (gev S))), (A 5, dA cD 3 (gy S))] H := hP
    refine lv_aload_n hx hb dX7_value_36 rfl (lv_at hl 0 rfl) ?_
    refine gX7 hx hb hg hown hI hP 0 rfl 0 rfl mF_X7_84 rfl dX7_value_37 ?_
    refine lv_if_le (tgt := 44) hx hb dX7_value_40 (by decide) (fun c_40 => absurd c_40 (by decide)) (fun c_40 => ?_)
    exact W.vret hx hb hr (fun tS hTS hWS => ⟨(), rfl, trivial, by rw [hTS]; exact hP.sub [0, 1] rfl, hS.F hTS⟩) hS.2.2 dX7_value_43
  ·
    refine lv_dload_n hx hb dX7_value_12 rfl (lv_at hl 2 rfl) ?_
    refine lv_ldc2d (v := km1000) hx hb hown (hg _ mD_X7_218) dX7_value_13 ?_
    refine xl_lt (tgt := 32) hx hb dX7_value_16 dX7_value_17 (by decide) (fun c_16 => ?_) (fun c_16 => ?_)
    ·
      have ho : valP S i x = (1, S) := by unfold valP; rw [wth_f1 dm1000 c_16]; simp
      rw [ho]
      refine lv_iconst (v := nI 1) hx hb dX7_value_32 (by decide) ?_
      refine pX7 hx hb hg hown hI hP hd rfl hS 0 rfl 0 rfl mF_X7_84 rfl rfl rfl (Nat.le_of_ble_eq_true rfl) pm0 dX7_value_33 (fun H locs hP hS => ?_)
      have hP : va_P D vwCl [(A 0, mO A (nI 1) (nI (sn (gσ S))) (nI (sc (gσ S))) (gt S) (gh S) (gtol S) (v 10 0) fl (bI (ggo S)) (v 10 1) (bI (gkn S)) (gt0 S) (gsp S) (wdI S) (glv S) (gtk S) (grf S) (nI (gev S))), (A 5, dA cD 3 (gy S))] H := hP
      refine lv_aload_n hx hb dX7_value_36 rfl (lv_at hl 0 rfl) ?_
      refine gX7 hx hb hg hown hI hP 0 rfl 0 rfl mF_X7_84 rfl dX7_value_37 ?_
      refine lv_if_le (tgt := 44) hx hb dX7_value_40 (by decide) (fun c_40 => absurd c_40 (by decide)) (fun c_40 => ?_)
      exact W.vret hx hb hr (fun tS hTS hWS => ⟨(), rfl, trivial, by rw [hTS]; exact hP.sub [0, 1] rfl, hS.F hTS⟩) hS.2.2 dX7_value_43
    ·
      refine lv_dload_n hx hb dX7_value_20 rfl (lv_at hl 2 rfl) ?_
      refine lv_ldc2d (v := k1000) hx hb hown (hg _ mD_X7_220) dX7_value_21 ?_
      refine xg_gt (tgt := 32) hx hb dX7_value_24 dX7_value_25 (by decide) (fun c_24 => ?_) (fun c_24 => ?_)
      ·
        have ho : valP S i x = (1, S) := by unfold valP; rw [wth_f2 c_24]; simp
        rw [ho]
        refine lv_iconst (v := nI 1) hx hb dX7_value_32 (by decide) ?_
        refine pX7 hx hb hg hown hI hP hd rfl hS 0 rfl 0 rfl mF_X7_84 rfl rfl rfl (Nat.le_of_ble_eq_true rfl) pm0 dX7_value_33 (fun H locs hP hS => ?_)
        have hP : va_P D vwCl [(A 0, mO A (nI 1) (nI (sn (gσ S))) (nI (sc (gσ S))) (gt S) (gh S) (gtol S) (v 10 0) fl (bI (ggo S)) (v 10 1) (bI (gkn S)) (gt0 S) (gsp S) (wdI S) (glv S) (gtk S) (grf S) (nI (gev S))), (A 5, dA cD 3 (gy S))] H := hP
        refine lv_aload_n hx hb dX7_value_36 rfl (lv_at hl 0 rfl) ?_
        refine gX7 hx hb hg hown hI hP 0 rfl 0 rfl mF_X7_84 rfl dX7_value_37 ?_
        refine lv_if_le (tgt := 44) hx hb dX7_value_40 (by decide) (fun c_40 => absurd c_40 (by decide)) (fun c_40 => ?_)
        exact W.vret hx hb hr (fun tS hTS hWS => ⟨(), rfl, trivial, by rw [hTS]; exact hP.sub [0, 1] rfl, hS.F hTS⟩) hS.2.2 dX7_value_43
      ·
        have hv0 : inV S i = true := bn0.mp c_9
        obtain ⟨j, hj, hji, hj3⟩ := inV_nat hn hv0
        subst hji
        have ho : valP S (nI j) x = (0, offS (valS S j x)) := by unfold valP; rw [hv0, wth_t dm1000 c_16 c_24, hj3]; rfl
        rw [ho]
        have hl : lv_has ls 4 [(0, .ref (A 0)), (1, .int (nI j)), (2, .double x)] := hl
        refine lv_iconst (v := nI 0) hx hb dX7_value_28 (by decide) ?_
        refine lv_goto (tgt := 33) hx hb dX7_value_29 (by decide) ?_
        refine pX7 hx hb hg hown hI hP hd rfl hS 0 rfl 0 rfl mF_X7_84 rfl rfl rfl (Nat.le_of_ble_eq_true rfl) pm0 dX7_value_33 (fun H locs hP hS => ?_)
        have hP : va_P D vwCl [(A 0, mO A (nI 0) (nI (sn (gσ S))) (nI (sc (gσ S))) (gt S) (gh S) (gtol S) (v 10 0) fl (bI (ggo S)) (v 10 1) (bI (gkn S)) (gt0 S) (gsp S) (wdI S) (glv S) (gtk S) (grf S) (nI (gev S))), (A 5, dA cD 3 (gy S))] H := hP
        refine lv_aload_n hx hb dX7_value_36 rfl (lv_at hl 0 rfl) ?_
        refine gX7 hx hb hg hown hI hP 0 rfl 0 rfl mF_X7_84 rfl dX7_value_37 ?_
        refine lv_if_le (tgt := 44) hx hb dX7_value_40 (by decide) (fun c_40 => ?_) (fun c_40 => (c_40 (by decide)).elim)
        refine xpc (q := 44) rfl ?_
        refine lv_aload_n hx hb dX7_value_44 rfl (lv_at hl 0 rfl) ?_
        refine gX7 hx hb hg hown hI hP 0 rfl 10 rfl mF_X7_36 rfl dX7_value_45 ?_
        refine lv_iload_n hx hb dX7_value_48 rfl (lv_at hl 1 rfl) ?_
        refine lv_dload_n hx hb dX7_value_49 rfl (lv_at hl 2 rfl) ?_
        refine xdast hx hb hI hP hd rfl hS 1 0 rfl rfl (Nat.lt_of_lt_of_le hj hn) (by decide) (pmS pm0) dX7_value_50 (fun H locs hP hS => ?_)
        have hP : va_P D vwCl [(A 0, mO A (nI 0) (nI (sn (gσ S))) (nI (sc (gσ S))) (gt S) (gh S) (gtol S) (v 10 0) fl (bI (ggo S)) (v 10 1) (bI (gkn S)) (gt0 S) (gsp S) (wdI S) (glv S) (gtk S) (grf S) (nI (gev S))), (A 5, dA cD 3 (vf_upd (gy S) j x))] H := hP
        refine lv_aload_n hx hb dX7_value_51 rfl (lv_at hl 0 rfl) ?_
        refine lv_iconst (v := nI 0) hx hb dX7_value_52 (by decide) ?_
        refine pX7 hx hb hg hown hI hP hd rfl hS 0 rfl 25 rfl mF_X7_187 rfl (by decide) (by decide) (Nat.le_of_ble_eq_true rfl) pm0 dX7_value_53 (fun H locs hP hS => ?_)
        have hP : va_P D vwCl [(A 0, mO A (nI 0) (nI (sn (gσ S))) (nI (sc (gσ S))) (gt S) (gh S) (gtol S) (v 10 0) fl (bI (ggo S)) (v 10 1) (nI 0) (gt0 S) (gsp S) (wdI S) (glv S) (gtk S) (grf S) (nI (gev S))), (A 5, dA cD 3 (vf_upd (gy S) j x))] H := hP
        refine lv_aload_n hx hb dX7_value_56 rfl (lv_at hl 0 rfl) ?_
        refine lv_iconst (v := nI 0) hx hb dX7_value_57 (by decide) ?_
        refine pX7 hx hb hg hown hI hP hd rfl hS 0 rfl 21 rfl mF_X7_136 rfl (by decide) (by decide) (Nat.le_of_ble_eq_true rfl) pm0 dX7_value_58 (fun H locs hP hS => ?_)
        have hP : va_P D vwCl [(A 0, mO A (nI 0) (nI (sn (gσ S))) (nI (sc (gσ S))) (gt S) (gh S) (gtol S) (v 10 0) fl (nI 0) (v 10 1) (nI 0) (gt0 S) (gsp S) (wdI S) (glv S) (gtk S) (grf S) (nI (gev S))), (A 5, dA cD 3 (vf_upd (gy S) j x))] H := hP
        exact W.vret hx hb hr (fun tS hTS hWS => ⟨(), rfl, trivial, by rw [hTS]; exact hP.sub [0, 1] rfl, hS.F hTS⟩) hS.2.2 dX7_value_61

set_option maxHeartbeats 4000000 in
set_option maxRecDepth 100000 in
theorem r_watch (l : Launch) (D : va_G) (cD cI cM cL : ClassId) (A : Nat → Nat) (S : St) (th fl : Int32) (v : Nat → Nat → UInt64) (i : Int32) (x : UInt64) (hn : sn (gσ S) ≤ 3) : Met l yX7_watch (Cond.code yX7_watch cX7_watch 4 none :: lw_good) { frames := 1, cells := 0, slots := 0, locals := 21 } (xPc D (tyL cD cI cM cL) [.ref (A 0), .int i, .double x] [(A 0, mO A th (nI (sn (gσ S))) (nI (sc (gσ S))) (gt S) (gh S) (gtol S) (v 10 0) fl (bI (ggo S)) (v 10 1) (bI (gkn S)) (gt0 S) (gsp S) (wdI S) (glv S) (gtk S) (grf S) (nI (gev S)))]) (xQ D [A 0] (fun (_ : Unit) => none) (fun (_ : Unit) => True) (fun (_ : Unit) => [(A 0, mO A (nI (watP S i x).1) (nI (sn (gσ ((watP S i x).2)))) (nI (sc (gσ ((watP S i x).2)))) (gt ((watP S i x).2)) (gh ((watP S i x).2)) (gtol ((watP S i x).2)) (v 10 0) fl (bI (ggo ((watP S i x).2))) (v 10 1) (bI (gkn ((watP S i x).2))) (gt0 ((watP S i x).2)) (gsp ((watP S i x).2)) (wdI ((watP S i x).2)) (glv ((watP S i x).2)) (gtk ((watP S i x).2)) (grf ((watP S i x).2)) (nI (gev ((watP S i x).2))))])) 0 0 (fun q => q ∈ ([A 0] : List Nat)) := by
  refine xofW (adr := [A 0]) (by decide) (Nat.le_of_ble_eq_true rfl) ?_
  intro p e s m below meth c ls hx hb hr hml hg hown hlk hI hP hd hS hl
  have hown : s.vm.findClass RX7 = some m.cls := hown
  have hd : dj [A 0] := hd
  have hl : lv_has ls 4 [(0, .ref (A 0)), (1, .int i), (2, .double x)] := hl
  refine lv_aload_n hx hb dX7_watch_0 rfl (lv_at hl 0 rfl) ?_
  refine lv_iload_n hx hb dX7_watch_1 rfl (lv_at hl 1 rfl) ?_
  refine lv_aload_n hx hb dX7_watch_2 rfl (lv_at hl 0 rfl) ?_
  refine gX7 hx hb hg hown hI hP 0 rfl 1 rfl mF_X7_7 rfl dX7_watch_3 ?_
  refine xci (xS (As := [.int i, .int (nI (sn (gσ S)))]) (rest := [.ref (A 0)]) hx hb hml hown hg (r_out l D cD cI cM cL i (nI (sn (gσ S)))) mM_X7_206 ok_X7_out rfl rfl ⟨Nat.le_of_ble_eq_true rfl, Nat.le_of_ble_eq_true rfl⟩ hI hP hd rfl [] rfl rfl rfl hl.1 rfl (Nat.le_of_ble_eq_true rfl) dX7_watch_6 ⟨Nat.zero_le _, Nat.zero_le _⟩) hP hd hS fa0 [] rfl rfl (fun _ => rfl) (fun _u H locs hu hP hS => ?_)
  have hP : va_P D vwCl [(A 0, mO A th (nI (sn (gσ S))) (nI (sc (gσ S))) (gt S) (gh S) (gtol S) (v 10 0) fl (bI (ggo S)) (v 10 1) (bI (gkn S)) (gt0 S) (gsp S) (wdI S) (glv S) (gtk S) (grf S) (nI (gev S)))] H := hP
  refine lv_if_ne (tgt := 32) hx hb dX7_watch_9 (by decide) (fun c_9 => ?_) (fun c_9 => ?_)
  ·
    have ho : watP S i x = (1, S) := by unfold watP; rw [show inV S i = false from bn1.mp c_9]; simp
    rw [ho]
    refine lv_iconst (v := nI 1) hx hb dX7_watch_32 (by decide) ?_
    refine pX7 hx hb hg hown hI hP hd rfl hS 0 rfl 0 rfl mF_X7_84 rfl rfl rfl (Nat.le_of_ble_eq_true rfl) pm0 dX7_watch_33 (fun H locs hP hS => ?_)
    have hP : va_P D vwCl [(A 0, mO A (nI 1) (nI (sn (gσ S))) (nI (sc (gσ S))) (gt S) (gh S) (gtol S) (v 10 0) fl (bI (ggo S)) (v 10 1) (bI (gkn S)) (gt0 S) (gsp S) (wdI S) (glv S) (gtk S) (grf S) (nI (gev S)))] H := hP
    refine lv_aload_n hx hb dX7_watch_36 rfl (lv_at hl 0 rfl) ?_
    refine gX7 hx hb hg hown hI hP 0 rfl 0 rfl mF_X7_84 rfl dX7_watch_37 ?_
    refine lv_if_le (tgt := 44) hx hb dX7_watch_40 (by decide) (fun c_40 => absurd c_40 (by decide)) (fun c_40 => ?_)
    exact W.vret hx hb hr (fun tS hTS hWS => ⟨(), rfl, trivial, by rw [hTS]; exact hP.sub [0] rfl, hS.F hTS⟩) hS.2.2 dX7_watch_43
  ·
    refine lv_dload_n hx hb dX7_watch_12 rfl (lv_at hl 2 rfl) ?_
    refine lv_ldc2d (v := km1000) hx hb hown (hg _ mD_X7_218) dX7_watch_13 ?_
    refine xl_lt (tgt := 32) hx hb dX7_watch_16 dX7_watch_17 (by decide) (fun c_16 => ?_) (fun c_16 => ?_)
    ·
      have ho : watP S i x = (1, S) := by unfold watP; rw [wth_f1 dm1000 c_16]; simp
      rw [ho]
      refine lv_iconst (v := nI 1) hx hb dX7_watch_32 (by decide) ?_
      refine pX7 hx hb hg hown hI hP hd rfl hS 0 rfl 0 rfl mF_X7_84 rfl rfl rfl (Nat.le_of_ble_eq_true rfl) pm0 dX7_watch_33 (fun H locs hP hS => ?_)
      have hP : va_P D vwCl [(A 0, mO A (nI 1) (nI (sn (gσ S))) (nI (sc (gσ S))) (gt S) (gh S) (gtol S) (v 10 0) fl (bI (ggo S)) (v 10 1) (bI (gkn S)) (gt0 S) (gsp S) (wdI S) (glv S) (gtk S) (grf S) (nI (gev S)))] H := hP
      refine lv_aload_n hx hb dX7_watch_36 rfl (lv_at hl 0 rfl) ?_
      refine gX7 hx hb hg hown hI hP 0 rfl 0 rfl mF_X7_84 rfl dX7_watch_37 ?_
      refine lv_if_le (tgt := 44) hx hb dX7_watch_40 (by decide) (fun c_40 => absurd c_40 (by decide)) (fun c_40 => ?_)
      exact W.vret hx hb hr (fun tS hTS hWS => ⟨(), rfl, trivial, by rw [hTS]; exact hP.sub [0] rfl, hS.F hTS⟩) hS.2.2 dX7_watch_43
    ·
      refine lv_dload_n hx hb dX7_watch_20 rfl (lv_at hl 2 rfl) ?_
      refine lv_ldc2d (v := k1000) hx hb hown (hg _ mD_X7_220) dX7_watch_21 ?_
      refine xg_gt (tgt := 32) hx hb dX7_watch_24 dX7_watch_25 (by decide) (fun c_24 => ?_) (fun c_24 => ?_)
      ·
        have ho : watP S i x = (1, S) := by unfold watP; rw [wth_f2 c_24]; simp
        rw [ho]
        refine lv_iconst (v := nI 1) hx hb dX7_watch_32 (by decide) ?_
        refine pX7 hx hb hg hown hI hP hd rfl hS 0 rfl 0 rfl mF_X7_84 rfl rfl rfl (Nat.le_of_ble_eq_true rfl) pm0 dX7_watch_33 (fun H locs hP hS => ?_)
        have hP : va_P D vwCl [(A 0, mO A (nI 1) (nI (sn (gσ S))) (nI (sc (gσ S))) (gt S) (gh S) (gtol S) (v 10 0) fl (bI (ggo S)) (v 10 1) (bI (gkn S)) (gt0 S) (gsp S) (wdI S) (glv S) (gtk S) (grf S) (nI (gev S)))] H := hP
        refine lv_aload_n hx hb dX7_watch_36 rfl (lv_at hl 0 rfl) ?_
        refine gX7 hx hb hg hown hI hP 0 rfl 0 rfl mF_X7_84 rfl dX7_watch_37 ?_
        refine lv_if_le (tgt := 44) hx hb dX7_watch_40 (by decide) (fun c_40 => absurd c_40 (by decide)) (fun c_40 => ?_)
        exact W.vret hx hb hr (fun tS hTS hWS => ⟨(), rfl, trivial, by rw [hTS]; exact hP.sub [0] rfl, hS.F hTS⟩) hS.2.2 dX7_watch_43
      ·
        have hv0 : inV S i = true := bn0.mp c_9
        obtain ⟨j, hj, hji, hj3⟩ := inV_nat hn hv0
        subst hji
        have ho : watP S (nI j) x = (0, watS S j x) := by unfold watP; rw [hv0, wth_t dm1000 c_16 c_24, hj3]; rfl
        rw [ho]
        have hl : lv_has ls 4 [(0, .ref (A 0)), (1, .int (nI j)), (2, .double x)] := hl
        refine lv_iconst (v := nI 0) hx hb dX7_watch_28 (by decide) ?_
        refine lv_goto (tgt := 33) hx hb dX7_watch_29 (by decide) ?_
        refine pX7 hx hb hg hown hI hP hd rfl hS 0 rfl 0 rfl mF_X7_84 rfl rfl rfl (Nat.le_of_ble_eq_true rfl) pm0 dX7_watch_33 (fun H locs hP hS => ?_)
        have hP : va_P D vwCl [(A 0, mO A (nI 0) (nI (sn (gσ S))) (nI (sc (gσ S))) (gt S) (gh S) (gtol S) (v 10 0) fl (bI (ggo S)) (v 10 1) (bI (gkn S)) (gt0 S) (gsp S) (wdI S) (glv S) (gtk S) (grf S) (nI (gev S)))] H := hP
        refine lv_aload_n hx hb dX7_watch_36 rfl (lv_at hl 0 rfl) ?_
        refine gX7 hx hb hg hown hI hP 0 rfl 0 rfl mF_X7_84 rfl dX7_watch_37 ?_
        refine lv_if_le (tgt := 44) hx hb dX7_watch_40 (by decide) (fun c_40 => ?_) (fun c_40 => (c_40 (by decide)).elim)
        refine xpc (q := 44) rfl ?_
        refine lv_aload_n hx hb dX7_watch_44 rfl (lv_at hl 0 rfl) ?_
        refine lv_iload_n hx hb dX7_watch_45 rfl (lv_at hl 1 rfl) ?_
        refine pX7 hx hb hg hown hI hP hd rfl hS 0 rfl 31 rfl mF_X7_78 rfl rfl rfl (Nat.le_of_ble_eq_true rfl) pm0 dX7_watch_46 (fun H locs hP hS => ?_)
        have hP : va_P D vwCl [(A 0, mO A (nI 0) (nI (sn (gσ S))) (nI (sc (gσ S))) (gt S) (gh S) (gtol S) (v 10 0) fl (bI (ggo S)) (v 10 1) (bI (gkn S)) (gt0 S) (gsp S) (nI j) (glv S) (gtk S) (grf S) (nI (gev S)))] H := hP
        refine lv_aload_n hx hb dX7_watch_49 rfl (lv_at hl 0 rfl) ?_
        refine lv_dload_n hx hb dX7_watch_50 rfl (lv_at hl 2 rfl) ?_
        refine pX7 hx hb hg hown hI hP hd rfl hS 0 rfl 32 rfl mF_X7_196 rfl rfl rfl (Nat.le_of_ble_eq_true rfl) pm0 dX7_watch_51 (fun H locs hP hS => ?_)
        have hP : va_P D vwCl [(A 0, mO A (nI 0) (nI (sn (gσ S))) (nI (sc (gσ S))) (gt S) (gh S) (gtol S) (v 10 0) fl (bI (ggo S)) (v 10 1) (bI (gkn S)) (gt0 S) (gsp S) (nI j) x (gtk S) (grf S) (nI (gev S)))] H := hP
        exact W.vret hx hb hr (fun tS hTS hWS => ⟨(), rfl, trivial, by rw [hTS]; exact hP.sub [0] rfl, hS.F hTS⟩) hS.2.2 dX7_watch_54

set_option maxHeartbeats 4000000 in
set_option maxRecDepth 100000 in
theorem r_size (l : Launch) (D : va_G) (cD cI cM cL : ClassId) (A : Nat → Nat) (S : St) (th fl : Int32) (v : Nat → Nat → UInt64) (x0 x1 : UInt64)  : Met l yX7_size (Cond.code yX7_size cX7_size 5 none :: lw_good) { frames := 0, cells := 0, slots := 0, locals := 0 } (xPc D (tyL cD cI cM cL) [.ref (A 0), .double x0, .double x1] [(A 0, mO A th (nI (sn (gσ S))) (nI (sc (gσ S))) (gt S) (gh S) (gtol S) (v 10 0) fl (bI (ggo S)) (v 10 1) (bI (gkn S)) (gt0 S) (gsp S) (wdI S) (glv S) (gtk S) (grf S) (nI (gev S)))]) (xQ D [A 0] (fun (_ : Unit) => none) (fun (_ : Unit) => True) (fun (_ : Unit) => [(A 0, mO A (nI (szP S x0 x1).1) (nI (sn (gσ ((szP S x0 x1).2)))) (nI (sc (gσ ((szP S x0 x1).2)))) (gt ((szP S x0 x1).2)) (gh ((szP S x0 x1).2)) (gtol ((szP S x0 x1).2)) (v 10 0) fl (bI (ggo ((szP S x0 x1).2))) (v 10 1) (bI (gkn ((szP S x0 x1).2))) (gt0 ((szP S x0 x1).2)) (gsp ((szP S x0 x1).2)) (wdI ((szP S x0 x1).2)) (glv ((szP S x0 x1).2)) (gtk ((szP S x0 x1).2)) (grf ((szP S x0 x1).2)) (nI (gev ((szP S x0 x1).2))))])) 0 0 (fun q => q ∈ ([A 0] : List Nat)) := by
  refine xofW (adr := [A 0]) (by decide) (Nat.le_of_ble_eq_true rfl) ?_
  intro p e s m below meth c ls hx hb hr hml hg hown hlk hI hP hd hS hl
  have hown : s.vm.findClass RX7 = some m.cls := hown
  have hd : dj [A 0] := hd
  have hl : lv_has ls 5 [(0, .ref (A 0)), (1, .double x0), (3, .double x1)] := hl
  refine lv_aload_n hx hb dX7_size_0 rfl (lv_at hl 0 rfl) ?_
  refine lv_dload_n hx hb dX7_size_1 rfl (lv_at hl 1 rfl) ?_
  refine lv_dconst0 hx hb dX7_size_2 ?_
  refine xl_le (tgt := 33) hx hb dX7_size_3 dX7_size_4 (by decide) (fun c_3 => ?_) (fun c_3 => ?_)
  ·
    have ho : szP S x0 x1 = (1, S) := by unfold szP; rw [show szd x0 = false from df (fun q => c_3 q.1)]; simp
    rw [ho]
    refine lv_iconst (v := nI 1) hx hb dX7_size_33 (by decide) ?_
    refine pX7 hx hb hg hown hI hP hd rfl hS 0 rfl 0 rfl mF_X7_84 rfl rfl rfl (Nat.le_of_ble_eq_true rfl) pm0 dX7_size_34 (fun H locs hP hS => ?_)
    have hP : va_P D vwCl [(A 0, mO A (nI 1) (nI (sn (gσ S))) (nI (sc (gσ S))) (gt S) (gh S) (gtol S) (v 10 0) fl (bI (ggo S)) (v 10 1) (bI (gkn S)) (gt0 S) (gsp S) (wdI S) (glv S) (gtk S) (grf S) (nI (gev S)))] H := hP
    refine lv_aload_n hx hb dX7_size_37 rfl (lv_at hl 0 rfl) ?_
    refine gX7 hx hb hg hown hI hP 0 rfl 0 rfl mF_X7_84 rfl dX7_size_38 ?_
    refine lv_if_le (tgt := 45) hx hb dX7_size_41 (by decide) (fun c_41 => absurd c_41 (by decide)) (fun c_41 => ?_)
    exact W.vret hx hb hr (fun tS hTS hWS => ⟨(), rfl, trivial, by rw [hTS]; exact hP.sub [0] rfl, hS.F hTS⟩) hS.2.2 dX7_size_44
  ·
    refine lv_dload_n hx hb dX7_size_7 rfl (lv_at hl 1 rfl) ?_
    refine lv_ldc2d (v := k4) hx hb hown (hg _ mD_X7_121) dX7_size_8 ?_
    refine xg_gt (tgt := 33) hx hb dX7_size_11 dX7_size_12 (by decide) (fun c_11 => ?_) (fun c_11 => ?_)
    ·
      have ho : szP S x0 x1 = (1, S) := by unfold szP; rw [show szd x0 = false from df (fun q => c_11 q.2)]; simp
      rw [ho]
      refine lv_iconst (v := nI 1) hx hb dX7_size_33 (by decide) ?_
      refine pX7 hx hb hg hown hI hP hd rfl hS 0 rfl 0 rfl mF_X7_84 rfl rfl rfl (Nat.le_of_ble_eq_true rfl) pm0 dX7_size_34 (fun H locs hP hS => ?_)
      have hP : va_P D vwCl [(A 0, mO A (nI 1) (nI (sn (gσ S))) (nI (sc (gσ S))) (gt S) (gh S) (gtol S) (v 10 0) fl (bI (ggo S)) (v 10 1) (bI (gkn S)) (gt0 S) (gsp S) (wdI S) (glv S) (gtk S) (grf S) (nI (gev S)))] H := hP
      refine lv_aload_n hx hb dX7_size_37 rfl (lv_at hl 0 rfl) ?_
      refine gX7 hx hb hg hown hI hP 0 rfl 0 rfl mF_X7_84 rfl dX7_size_38 ?_
      refine lv_if_le (tgt := 45) hx hb dX7_size_41 (by decide) (fun c_41 => absurd c_41 (by decide)) (fun c_41 => ?_)
      exact W.vret hx hb hr (fun tS hTS hWS => ⟨(), rfl, trivial, by rw [hTS]; exact hP.sub [0] rfl, hS.F hTS⟩) hS.2.2 dX7_size_44
    ·
      refine lv_dload_n hx hb dX7_size_15 rfl (lv_at hl 2 rfl) ?_
      refine lv_dconst0 hx hb dX7_size_16 ?_
      refine xl_le (tgt := 33) hx hb dX7_size_17 dX7_size_18 (by decide) (fun c_17 => ?_) (fun c_17 => ?_)
      ·
        have ho : szP S x0 x1 = (1, S) := by unfold szP; rw [show szd x1 = false from df (fun q => c_17 q.1)]; simp
        rw [ho]
        refine lv_iconst (v := nI 1) hx hb dX7_size_33 (by decide) ?_
        refine pX7 hx hb hg hown hI hP hd rfl hS 0 rfl 0 rfl mF_X7_84 rfl rfl rfl (Nat.le_of_ble_eq_true rfl) pm0 dX7_size_34 (fun H locs hP hS => ?_)
        have hP : va_P D vwCl [(A 0, mO A (nI 1) (nI (sn (gσ S))) (nI (sc (gσ S))) (gt S) (gh S) (gtol S) (v 10 0) fl (bI (ggo S)) (v 10 1) (bI (gkn S)) (gt0 S) (gsp S) (wdI S) (glv S) (gtk S) (grf S) (nI (gev S)))] H := hP
        refine lv_aload_n hx hb dX7_size_37 rfl (lv_at hl 0 rfl) ?_
        refine gX7 hx hb hg hown hI hP 0 rfl 0 rfl mF_X7_84 rfl dX7_size_38 ?_
        refine lv_if_le (tgt := 45) hx hb dX7_size_41 (by decide) (fun c_41 => absurd c_41 (by decide)) (fun c_41 => ?_)
        exact W.vret hx hb hr (fun tS hTS hWS => ⟨(), rfl, trivial, by rw [hTS]; exact hP.sub [0] rfl, hS.F hTS⟩) hS.2.2 dX7_size_44
      ·
        refine lv_dload_n hx hb dX7_size_21 rfl (lv_at hl 2 rfl) ?_
        refine lv_ldc2d (v := k4) hx hb hown (hg _ mD_X7_121) dX7_size_22 ?_
        refine xg_gt (tgt := 33) hx hb dX7_size_25 dX7_size_26 (by decide) (fun c_25 => ?_) (fun c_25 => ?_)
        ·
          have ho : szP S x0 x1 = (1, S) := by unfold szP; rw [show szd x1 = false from df (fun q => c_25 q.2)]; simp
          rw [ho]
          refine lv_iconst (v := nI 1) hx hb dX7_size_33 (by decide) ?_
          refine pX7 hx hb hg hown hI hP hd rfl hS 0 rfl 0 rfl mF_X7_84 rfl rfl rfl (Nat.le_of_ble_eq_true rfl) pm0 dX7_size_34 (fun H locs hP hS => ?_)
          have hP : va_P D vwCl [(A 0, mO A (nI 1) (nI (sn (gσ S))) (nI (sc (gσ S))) (gt S) (gh S) (gtol S) (v 10 0) fl (bI (ggo S)) (v 10 1) (bI (gkn S)) (gt0 S) (gsp S) (wdI S) (glv S) (gtk S) (grf S) (nI (gev S)))] H := hP
          refine lv_aload_n hx hb dX7_size_37 rfl (lv_at hl 0 rfl) ?_
          refine gX7 hx hb hg hown hI hP 0 rfl 0 rfl mF_X7_84 rfl dX7_size_38 ?_
          refine lv_if_le (tgt := 45) hx hb dX7_size_41 (by decide) (fun c_41 => absurd c_41 (by decide)) (fun c_41 => ?_)
          exact W.vret hx hb hr (fun tS hTS hWS => ⟨(), rfl, trivial, by rw [hTS]; exact hP.sub [0] rfl, hS.F hTS⟩) hS.2.2 dX7_size_44
        ·
          have ho : szP S x0 x1 = (0, szS S x0 x1) := by unfold szP; rw [show szd x0 = true from dt ⟨c_3, c_11⟩, show szd x1 = true from dt ⟨c_17, c_25⟩]; rfl
          rw [ho]
          refine lv_iconst (v := nI 0) hx hb dX7_size_29 (by decide) ?_
          refine lv_goto (tgt := 34) hx hb dX7_size_30 (by decide) ?_
          refine pX7 hx hb hg hown hI hP hd rfl hS 0 rfl 0 rfl mF_X7_84 rfl rfl rfl (Nat.le_of_ble_eq_true rfl) pm0 dX7_size_34 (fun H locs hP hS => ?_)
          have hP : va_P D vwCl [(A 0, mO A (nI 0) (nI (sn (gσ S))) (nI (sc (gσ S))) (gt S) (gh S) (gtol S) (v 10 0) fl (bI (ggo S)) (v 10 1) (bI (gkn S)) (gt0 S) (gsp S) (wdI S) (glv S) (gtk S) (grf S) (nI (gev S)))] H := hP
          refine lv_aload_n hx hb dX7_size_37 rfl (lv_at hl 0 rfl) ?_
          refine xpc (q := 38) rfl ?_
          refine gX7 hx hb hg hown hI hP 0 rfl 0 rfl mF_X7_84 rfl dX7_size_38 ?_
          refine lv_if_le (tgt := 45) hx hb dX7_size_41 (by decide) (fun c_41 => ?_) (fun c_41 => (c_41 (by decide)).elim)
          refine lv_aload_n hx hb dX7_size_45 rfl (lv_at hl 0 rfl) ?_
          refine lv_dload_n hx hb dX7_size_46 rfl (lv_at hl 1 rfl) ?_
          refine pX7 hx hb hg hown hI hP hd rfl hS 0 rfl 8 rfl mF_X7_29 rfl rfl rfl (Nat.le_of_ble_eq_true rfl) pm0 dX7_size_47 (fun H locs hP hS => ?_)
          have hP : va_P D vwCl [(A 0, mO A (nI 0) (nI (sn (gσ S))) (nI (sc (gσ S))) (gt S) x0 (gtol S) (v 10 0) fl (bI (ggo S)) (v 10 1) (bI (gkn S)) (gt0 S) (gsp S) (wdI S) (glv S) (gtk S) (grf S) (nI (gev S)))] H := hP
          refine lv_aload_n hx hb dX7_size_50 rfl (lv_at hl 0 rfl) ?_
          refine lv_dload_n hx hb dX7_size_51 rfl (lv_at hl 2 rfl) ?_
          refine pX7 hx hb hg hown hI hP hd rfl hS 0 rfl 9 rfl mF_X7_33 rfl rfl rfl (Nat.le_of_ble_eq_true rfl) pm0 dX7_size_52 (fun H locs hP hS => ?_)
          have hP : va_P D vwCl [(A 0, mO A (nI 0) (nI (sn (gσ S))) (nI (sc (gσ S))) (gt S) x0 x1 (v 10 0) fl (bI (ggo S)) (v 10 1) (bI (gkn S)) (gt0 S) (gsp S) (wdI S) (glv S) (gtk S) (grf S) (nI (gev S)))] H := hP
          exact W.vret hx hb hr (fun tS hTS hWS => ⟨(), rfl, trivial, by rw [hTS]; exact hP.sub [0] rfl, hS.F hTS⟩) hS.2.2 dX7_size_55

set_option maxHeartbeats 4000000 in
set_option maxRecDepth 100000 in
theorem r_events (l : Launch) (D : va_G) (cD cI cM cL : ClassId) (A : Nat → Nat) (S : St) (th fl : Int32) (v : Nat → Nat → UInt64)  : Met l yX7_events (Cond.code yX7_events cX7_events 1 (some .int) :: lw_good) { frames := 0, cells := 0, slots := 0, locals := 0 } (xPc D (tyL cD cI cM cL) [.ref (A 0)] [(A 0, mO A th (nI (sn (gσ S))) (nI (sc (gσ S))) (gt S) (gh S) (gtol S) (v 10 0) fl (bI (ggo S)) (v 10 1) (bI (gkn S)) (gt0 S) (gsp S) (wdI S) (glv S) (gtk S) (grf S) (nI (gev S)))]) (xQ D [A 0] (fun (_ : Unit) => some (.int (nI (gev S)))) (fun (_ : Unit) => True) (fun (_ : Unit) => [(A 0, mO A (nI 0) (nI (sn (gσ S))) (nI (sc (gσ S))) (gt S) (gh S) (gtol S) (v 10 0) fl (bI (ggo S)) (v 10 1) (bI (gkn S)) (gt0 S) (gsp S) (wdI S) (glv S) (gtk S) (grf S) (nI (gev S)))])) 0 0 (fun q => q ∈ ([A 0] : List Nat)) := by
  refine xofW (adr := [A 0]) (by decide) (Nat.le_of_ble_eq_true rfl) ?_
  intro p e s m below meth c ls hx hb hr hml hg hown hlk hI hP hd hS hl
  have hown : s.vm.findClass RX7 = some m.cls := hown
  have hd : dj [A 0] := hd
  have hl : lv_has ls 1 [(0, .ref (A 0))] := hl
  refine lv_aload_n hx hb dX7_events_0 rfl (lv_at hl 0 rfl) ?_
  refine lv_iconst (v := nI 0) hx hb dX7_events_1 (by decide) ?_
  refine pX7 hx hb hg hown hI hP hd rfl hS 0 rfl 0 rfl mF_X7_84 rfl rfl rfl (Nat.le_of_ble_eq_true rfl) pm0 dX7_events_2 (fun H locs hP hS => ?_)
  have hP : va_P D vwCl [(A 0, mO A (nI 0) (nI (sn (gσ S))) (nI (sc (gσ S))) (gt S) (gh S) (gtol S) (v 10 0) fl (bI (ggo S)) (v 10 1) (bI (gkn S)) (gt0 S) (gsp S) (wdI S) (glv S) (gtk S) (grf S) (nI (gev S)))] H := hP
  refine lv_aload_n hx hb dX7_events_5 rfl (lv_at hl 0 rfl) ?_
  refine gX7 hx hb hg hown hI hP 0 rfl 35 rfl mF_X7_203 rfl dX7_events_6 ?_
  exact W.iret hx hb hr (fun tS hTS hWS => ⟨(), rfl, trivial, by rw [hTS]; exact hP.sub [0] rfl, hS.F hTS⟩) hS.2.2 dX7_events_9

set_option maxHeartbeats 4000000 in
set_option maxRecDepth 100000 in
theorem r_time (l : Launch) (D : va_G) (cD cI cM cL : ClassId) (A : Nat → Nat) (S : St) (th fl : Int32) (v : Nat → Nat → UInt64)  : Met l yX7_time (Cond.code yX7_time cX7_time 1 (some .double) :: lw_good) { frames := 0, cells := 0, slots := 0, locals := 0 } (xPc D (tyL cD cI cM cL) [.ref (A 0)] [(A 0, mO A th (nI (sn (gσ S))) (nI (sc (gσ S))) (gt S) (gh S) (gtol S) (v 10 0) fl (bI (ggo S)) (v 10 1) (bI (gkn S)) (gt0 S) (gsp S) (wdI S) (glv S) (gtk S) (grf S) (nI (gev S)))]) (xQ D [A 0] (fun (_ : Unit) => some (.double (gt S))) (fun (_ : Unit) => True) (fun (_ : Unit) => [(A 0, mO A (nI 0) (nI (sn (gσ S))) (nI (sc (gσ S))) (gt S) (gh S) (gtol S) (v 10 0) fl (bI (ggo S)) (v 10 1) (bI (gkn S)) (gt0 S) (gsp S) (wdI S) (glv S) (gtk S) (grf S) (nI (gev S)))])) 0 0 (fun q => q ∈ ([A 0] : List Nat)) := by
  refine xofW (adr := [A 0]) (by decide) (Nat.le_of_ble_eq_true rfl) ?_
  intro p e s m below meth c ls hx hb hr hml hg hown hlk hI hP hd hS hl
  have hown : s.vm.findClass RX7 = some m.cls := hown
  have hd : dj [A 0] := hd
  have hl : lv_has ls 1 [(0, .ref (A 0))] := hl
  refine lv_aload_n hx hb dX7_time_0 rfl (lv_at hl 0 rfl) ?_
  refine lv_iconst (v := nI 0) hx hb dX7_time_1 (by decide) ?_
  refine pX7 hx hb hg hown hI hP hd rfl hS 0 rfl 0 rfl mF_X7_84 rfl rfl rfl (Nat.le_of_ble_eq_true rfl) pm0 dX7_time_2 (fun H locs hP hS => ?_)
  have hP : va_P D vwCl [(A 0, mO A (nI 0) (nI (sn (gσ S))) (nI (sc (gσ S))) (gt S) (gh S) (gtol S) (v 10 0) fl (bI (ggo S)) (v 10 1) (bI (gkn S)) (gt0 S) (gsp S) (wdI S) (glv S) (gtk S) (grf S) (nI (gev S)))] H := hP
  refine lv_aload_n hx hb dX7_time_5 rfl (lv_at hl 0 rfl) ?_
  refine gX7 hx hb hg hown hI hP 0 rfl 7 rfl mF_X7_98 rfl dX7_time_6 ?_
  exact W.dret hx hb hr (fun tS hTS hWS => ⟨(), rfl, trivial, by rw [hTS]; exact hP.sub [0] rfl, hS.F hTS⟩) hS.2.2 dX7_time_9

set_option maxHeartbeats 4000000 in
set_option maxRecDepth 100000 in
theorem r_nextSize (l : Launch) (D : va_G) (cD cI cM cL : ClassId) (A : Nat → Nat) (S : St) (th fl : Int32) (v : Nat → Nat → UInt64)  : Met l yX7_nextSize (Cond.code yX7_nextSize cX7_nextSize 1 (some .double) :: lw_good) { frames := 0, cells := 0, slots := 0, locals := 0 } (xPc D (tyL cD cI cM cL) [.ref (A 0)] [(A 0, mO A th (nI (sn (gσ S))) (nI (sc (gσ S))) (gt S) (gh S) (gtol S) (v 10 0) fl (bI (ggo S)) (v 10 1) (bI (gkn S)) (gt0 S) (gsp S) (wdI S) (glv S) (gtk S) (grf S) (nI (gev S)))]) (xQ D [A 0] (fun (_ : Unit) => some (.double (gh S))) (fun (_ : Unit) => True) (fun (_ : Unit) => [(A 0, mO A (nI 0) (nI (sn (gσ S))) (nI (sc (gσ S))) (gt S) (gh S) (gtol S) (v 10 0) fl (bI (ggo S)) (v 10 1) (bI (gkn S)) (gt0 S) (gsp S) (wdI S) (glv S) (gtk S) (grf S) (nI (gev S)))])) 0 0 (fun q => q ∈ ([A 0] : List Nat)) := by
  refine xofW (adr := [A 0]) (by decide) (Nat.le_of_ble_eq_true rfl) ?_
  intro p e s m below meth c ls hx hb hr hml hg hown hlk hI hP hd hS hl
  have hown : s.vm.findClass RX7 = some m.cls := hown
  have hd : dj [A 0] := hd
  have hl : lv_has ls 1 [(0, .ref (A 0))] := hl
  refine lv_aload_n hx hb dX7_nextSize_0 rfl (lv_at hl 0 rfl) ?_
  refine lv_iconst (v := nI 0) hx hb dX7_nextSize_1 (by decide) ?_
  refine pX7 hx hb hg hown hI hP hd rfl hS 0 rfl 0 rfl mF_X7_84 rfl rfl rfl (Nat.le_of_ble_eq_true rfl) pm0 dX7_nextSize_2 (fun H locs hP hS => ?_)
  have hP : va_P D vwCl [(A 0, mO A (nI 0) (nI (sn (gσ S))) (nI (sc (gσ S))) (gt S) (gh S) (gtol S) (v 10 0) fl (bI (ggo S)) (v 10 1) (bI (gkn S)) (gt0 S) (gsp S) (wdI S) (glv S) (gtk S) (grf S) (nI (gev S)))] H := hP
  refine lv_aload_n hx hb dX7_nextSize_5 rfl (lv_at hl 0 rfl) ?_
  refine gX7 hx hb hg hown hI hP 0 rfl 8 rfl mF_X7_29 rfl dX7_nextSize_6 ?_
  exact W.dret hx hb hr (fun tS hTS hWS => ⟨(), rfl, trivial, by rw [hTS]; exact hP.sub [0] rfl, hS.F hTS⟩) hS.2.2 dX7_nextSize_9

set_option maxHeartbeats 4000000 in
set_option maxRecDepth 100000 in
theorem r_steps (l : Launch) (D : va_G) (cD cI cM cL : ClassId) (A : Nat → Nat) (S : St) (th fl : Int32) (v : Nat → Nat → UInt64) (b : Bool)  : Met l yX7_steps (Cond.code yX7_steps cX7_steps 2 (some .int) :: lw_good) { frames := 0, cells := 0, slots := 0, locals := 0 } (xPc D (tyL cD cI cM cL) [.ref (A 0), .int (bI b)] [(A 0, mO A th (nI (sn (gσ S))) (nI (sc (gσ S))) (gt S) (gh S) (gtol S) (v 10 0) fl (bI (ggo S)) (v 10 1) (bI (gkn S)) (gt0 S) (gsp S) (wdI S) (glv S) (gtk S) (grf S) (nI (gev S)))]) (xQ D [A 0] (fun (_ : Unit) => some (.int (if b then grf S else gtk S))) (fun (_ : Unit) => True) (fun (_ : Unit) => [(A 0, mO A (nI 0) (nI (sn (gσ S))) (nI (sc (gσ S))) (gt S) (gh S) (gtol S) (v 10 0) fl (bI (ggo S)) (v 10 1) (bI (gkn S)) (gt0 S) (gsp S) (wdI S) (glv S) (gtk S) (grf S) (nI (gev S)))])) 0 0 (fun q => q ∈ ([A 0] : List Nat)) := by
  refine xofW (adr := [A 0]) (by decide) (Nat.le_of_ble_eq_true rfl) ?_
  intro p e s m below meth c ls hx hb hr hml hg hown hlk hI hP hd hS hl
  have hown : s.vm.findClass RX7 = some m.cls := hown
  have hd : dj [A 0] := hd
  have hl : lv_has ls 2 [(0, .ref (A 0)), (1, .int (bI b))] := hl
  refine lv_aload_n hx hb dX7_steps_0 rfl (lv_at hl 0 rfl) ?_
  refine lv_iconst (v := nI 0) hx hb dX7_steps_1 (by decide) ?_
  refine pX7 hx hb hg hown hI hP hd rfl hS 0 rfl 0 rfl mF_X7_84 rfl rfl rfl (Nat.le_of_ble_eq_true rfl) pm0 dX7_steps_2 (fun H locs hP hS => ?_)
  have hP : va_P D vwCl [(A 0, mO A (nI 0) (nI (sn (gσ S))) (nI (sc (gσ S))) (gt S) (gh S) (gtol S) (v 10 0) fl (bI (ggo S)) (v 10 1) (bI (gkn S)) (gt0 S) (gsp S) (wdI S) (glv S) (gtk S) (grf S) (nI (gev S)))] H := hP
  refine lv_iload_n hx hb dX7_steps_5 rfl (lv_at hl 1 rfl) ?_
  refine lv_if_eq (tgt := 16) hx hb dX7_steps_6 (by decide) (fun c_6 => ?_) (fun c_6 => ?_)
  ·
    obtain rfl : b = false := bI_eq0.mp c_6
    refine lv_aload_n hx hb dX7_steps_16 rfl (lv_at hl 0 rfl) ?_
    refine gX7 hx hb hg hown hI hP 0 rfl 33 rfl mF_X7_190 rfl dX7_steps_17 ?_
    exact W.iret hx hb hr (fun tS hTS hWS => ⟨(), rfl, trivial, by rw [hTS]; exact hP.sub [0] rfl, hS.F hTS⟩) hS.2.2 dX7_steps_20
  ·
    obtain rfl : b = true := bI_ne0.mp c_6
    refine lv_aload_n hx hb dX7_steps_9 rfl (lv_at hl 0 rfl) ?_
    refine gX7 hx hb hg hown hI hP 0 rfl 34 rfl mF_X7_178 rfl dX7_steps_10 ?_
    refine lv_goto (tgt := 20) hx hb dX7_steps_13 (by decide) ?_
    exact W.iret hx hb hr (fun tS hTS hWS => ⟨(), rfl, trivial, by rw [hTS]; exact hP.sub [0] rfl, hS.F hTS⟩) hS.2.2 dX7_steps_20

set_option maxHeartbeats 4000000 in
set_option maxRecDepth 100000 in
theorem r_event (l : Launch) (D : va_G) (cD cI cM cL : ClassId) (A : Nat → Nat) (S : St) (th fl : Int32) (v : Nat → Nat → UInt64) (i : Int32) (hev : gev S < 2 ^ 30) : Met l yX7_event (Cond.code yX7_event cX7_event 2 (some .double) :: lw_good) { frames := 1, cells := 0, slots := 0, locals := 21 } (xPc D (tyL cD cI cM cL) [.ref (A 0), .int i] [(A 0, mO A th (nI (sn (gσ S))) (nI (sc (gσ S))) (gt S) (gh S) (gtol S) (v 10 0) fl (bI (ggo S)) (v 10 1) (bI (gkn S)) (gt0 S) (gsp S) (wdI S) (glv S) (gtk S) (grf S) (nI (gev S))), (A 19, dA cD 8 (gtm S))]) (xQ D [A 0] (fun (_ : Unit) => some (.double (if rmb S i then gtm S ((gev S - 1 - i.toNatClampNeg) % 8) else FP.dconst0))) (fun (_ : Unit) => True) (fun (_ : Unit) => [(A 0, mO A (nI (if rmb S i then 0 else 1)) (nI (sn (gσ S))) (nI (sc (gσ S))) (gt S) (gh S) (gtol S) (v 10 0) fl (bI (ggo S)) (v 10 1) (bI (gkn S)) (gt0 S) (gsp S) (wdI S) (glv S) (gtk S) (grf S) (nI (gev S)))])) 0 0 (fun q => q ∈ ([A 0] : List Nat)) := by
  refine xofW (adr := [A 0]) (by decide) (Nat.le_of_ble_eq_true rfl) ?_
  intro p e s m below meth c ls hx hb hr hml hg hown hlk hI hP hd hS hl
  have hown : s.vm.findClass RX7 = some m.cls := hown
  have hd : dj [A 0, A 19] := hd
  have hl : lv_has ls 2 [(0, .ref (A 0)), (1, .int i)] := hl
  refine lv_aload_n hx hb dX7_event_0 rfl (lv_at hl 0 rfl) ?_
  refine lv_iload_n hx hb dX7_event_1 rfl (lv_at hl 1 rfl) ?_
  refine lv_bipush (v := nI 8) hx hb dX7_event_2 (by decide) ?_
  refine xci (xS (As := [.int i, .int (nI 8)]) (rest := [.ref (A 0)]) hx hb hml hown hg (r_out l D cD cI cM cL i (nI 8)) mM_X7_206 ok_X7_out rfl rfl ⟨Nat.le_of_ble_eq_true rfl, Nat.le_of_ble_eq_true rfl⟩ hI hP hd rfl [] rfl rfl rfl hl.1 rfl (Nat.le_of_ble_eq_true rfl) dX7_event_4 ⟨Nat.zero_le _, Nat.zero_le _⟩) hP hd hS fa0 [] rfl rfl (fun _ => rfl) (fun _u H locs hu hP hS => ?_)
  have hP : va_P D vwCl [(A 0, mO A th (nI (sn (gσ S))) (nI (sc (gσ S))) (gt S) (gh S) (gtol S) (v 10 0) fl (bI (ggo S)) (v 10 1) (bI (gkn S)) (gt0 S) (gsp S) (wdI S) (glv S) (gtk S) (grf S) (nI (gev S))), (A 19, dA cD 8 (gtm S))] H := hP
  refine lv_if_ne (tgt := 18) hx hb dX7_event_7 (by decide) (fun c_7 => ?_) (fun c_7 => ?_)
  ·
    have ho : rmb S i = false := df (fun q => fd (bn1.mp c_7) q.1)
    rw [ho]
    refine lv_iconst (v := nI 1) hx hb dX7_event_18 (by decide) ?_
    refine lv_goto (tgt := 23) hx hb dX7_event_19 (by decide) ?_
    refine pX7 hx hb hg hown hI hP hd rfl hS 0 rfl 0 rfl mF_X7_84 rfl rfl rfl (Nat.le_of_ble_eq_true rfl) pm0 dX7_event_23 (fun H locs hP hS => ?_)
    have hP : va_P D vwCl [(A 0, mO A (nI 1) (nI (sn (gσ S))) (nI (sc (gσ S))) (gt S) (gh S) (gtol S) (v 10 0) fl (bI (ggo S)) (v 10 1) (bI (gkn S)) (gt0 S) (gsp S) (wdI S) (glv S) (gtk S) (grf S) (nI (gev S))), (A 19, dA cD 8 (gtm S))] H := hP
    refine lv_aload_n hx hb dX7_event_26 rfl (lv_at hl 0 rfl) ?_
    refine gX7 hx hb hg hown hI hP 0 rfl 0 rfl mF_X7_84 rfl dX7_event_27 ?_
    refine lv_if_le (tgt := 37) hx hb dX7_event_30 (by decide) (fun c_30 => absurd c_30 (by decide)) (fun c_30 => ?_)
    refine lv_dconst0 hx hb dX7_event_33 ?_
    refine lv_goto (tgt := 53) hx hb dX7_event_34 (by decide) ?_
    exact W.dret hx hb hr (fun tS hTS hWS => ⟨(), rfl, trivial, by rw [hTS]; exact hP.sub [0] rfl, hS.F hTS⟩) hS.2.2 dX7_event_53
  ·
    refine lv_iload_n hx hb dX7_event_10 rfl (lv_at hl 1 rfl) ?_
    refine lv_aload_n hx hb dX7_event_11 rfl (lv_at hl 0 rfl) ?_
    refine gX7 hx hb hg hown hI hP 0 rfl 35 rfl mF_X7_203 rfl dX7_event_12 ?_
    refine lv_icmp_lt (tgt := 22) hx hb dX7_event_15 (by decide) (fun c_15 => ?_) (fun c_15 => ?_)
    ·
      have ho : rmb S i = true := dt ⟨td (bn0.mp c_7), c_15⟩
      rw [ho]
      obtain ⟨j, hj, hji, hj3⟩ := rmb_nat hev ho
      rw [hj3]
      subst hji
      have hl : lv_has ls 2 [(0, .ref (A 0)), (1, .int (nI j))] := hl
      refine lv_iconst (v := nI 0) hx hb dX7_event_22 (by decide) ?_
      refine pX7 hx hb hg hown hI hP hd rfl hS 0 rfl 0 rfl mF_X7_84 rfl rfl rfl (Nat.le_of_ble_eq_true rfl) pm0 dX7_event_23 (fun H locs hP hS => ?_)
      have hP : va_P D vwCl [(A 0, mO A (nI 0) (nI (sn (gσ S))) (nI (sc (gσ S))) (gt S) (gh S) (gtol S) (v 10 0) fl (bI (ggo S)) (v 10 1) (bI (gkn S)) (gt0 S) (gsp S) (wdI S) (glv S) (gtk S) (grf S) (nI (gev S))), (A 19, dA cD 8 (gtm S))] H := hP
      refine lv_aload_n hx hb dX7_event_26 rfl (lv_at hl 0 rfl) ?_
      refine gX7 hx hb hg hown hI hP 0 rfl 0 rfl mF_X7_84 rfl dX7_event_27 ?_
      refine lv_if_le (tgt := 37) hx hb dX7_event_30 (by decide) (fun c_30 => ?_) (fun c_30 => (c_30 (by decide)).elim)
      refine lv_aload_n hx hb dX7_event_37 rfl (lv_at hl 0 rfl) ?_
      refine gX7 hx hb hg hown hI hP 0 rfl 36 rfl mF_X7_81 rfl dX7_event_38 ?_
      refine lv_aload_n hx hb dX7_event_41 rfl (lv_at hl 0 rfl) ?_
      refine gX7 hx hb hg hown hI hP 0 rfl 35 rfl mF_X7_203 rfl dX7_event_42 ?_
      refine lv_iconst (v := nI 1) hx hb dX7_event_45 (by decide) ?_
      refine lv_isub hx hb dX7_event_46 ?_
      refine lv_iload_n hx hb dX7_event_47 rfl (lv_at hl 1 rfl) ?_
      refine lv_isub hx hb dX7_event_48 ?_
      refine xeqi (y := nI (gev S - 1 - j)) (show nI (gev S) - nI 1 - nI j = nI (gev S - 1 - j) by rw [pk_sub (by omega), pk_sub (by omega)]) ?_
      refine lv_bipush (v := nI 8) hx hb dX7_event_49 (by decide) ?_
      refine lv_irem hx hb dX7_event_51 (by decide) ?_
      refine xeqi (y := nI ((gev S - 1 - j) % 8)) (pk_rem (by omega) (by decide) (by decide)) ?_
      refine xpc (q := 52) rfl ?_
      refine xdald hx hb hI hP 1 0 rfl rfl (Nat.mod_lt _ (by decide)) (by decide) dX7_event_52 ?_
      exact W.dret hx hb hr (fun tS hTS hWS => ⟨(), rfl, trivial, by rw [hTS]; exact hP.sub [0] rfl, hS.F hTS⟩) hS.2.2 dX7_event_53
    ·
      have ho : rmb S i = false := df (fun q => c_15 q.2)
      rw [ho]
      refine lv_iconst (v := nI 1) hx hb dX7_event_18 (by decide) ?_
      refine lv_goto (tgt := 23) hx hb dX7_event_19 (by decide) ?_
      refine pX7 hx hb hg hown hI hP hd rfl hS 0 rfl 0 rfl mF_X7_84 rfl rfl rfl (Nat.le_of_ble_eq_true rfl) pm0 dX7_event_23 (fun H locs hP hS => ?_)
      have hP : va_P D vwCl [(A 0, mO A (nI 1) (nI (sn (gσ S))) (nI (sc (gσ S))) (gt S) (gh S) (gtol S) (v 10 0) fl (bI (ggo S)) (v 10 1) (bI (gkn S)) (gt0 S) (gsp S) (wdI S) (glv S) (gtk S) (grf S) (nI (gev S))), (A 19, dA cD 8 (gtm S))] H := hP
      refine lv_aload_n hx hb dX7_event_26 rfl (lv_at hl 0 rfl) ?_
      refine gX7 hx hb hg hown hI hP 0 rfl 0 rfl mF_X7_84 rfl dX7_event_27 ?_
      refine lv_if_le (tgt := 37) hx hb dX7_event_30 (by decide) (fun c_30 => absurd c_30 (by decide)) (fun c_30 => ?_)
      refine lv_dconst0 hx hb dX7_event_33 ?_
      refine lv_goto (tgt := 53) hx hb dX7_event_34 (by decide) ?_
      exact W.dret hx hb hr (fun tS hTS hWS => ⟨(), rfl, trivial, by rw [hTS]; exact hP.sub [0] rfl, hS.F hTS⟩) hS.2.2 dX7_event_53

set_option maxHeartbeats 4000000 in
set_option maxRecDepth 100000 in
theorem r_at (l : Launch) (D : va_G) (cD cI cM cL : ClassId) (A : Nat → Nat) (S : St) (th fl : Int32) (v : Nat → Nat → UInt64) (i : Int32) (hn : sn (gσ S) ≤ 3) : Met l yX7_at (Cond.code yX7_at cX7_at 2 (some .double) :: lw_good) { frames := 1, cells := 0, slots := 0, locals := 21 } (xPc D (tyL cD cI cM cL) [.ref (A 0), .int i] [(A 0, mO A th (nI (sn (gσ S))) (nI (sc (gσ S))) (gt S) (gh S) (gtol S) (v 10 0) fl (bI (ggo S)) (v 10 1) (bI (gkn S)) (gt0 S) (gsp S) (wdI S) (glv S) (gtk S) (grf S) (nI (gev S))), (A 5, dA cD 3 (gy S))]) (xQ D [A 0] (fun (_ : Unit) => some (.double (if inV S i then gy S i.toNatClampNeg else FP.dconst0))) (fun (_ : Unit) => True) (fun (_ : Unit) => [(A 0, mO A (nI (if inV S i then 0 else 1)) (nI (sn (gσ S))) (nI (sc (gσ S))) (gt S) (gh S) (gtol S) (v 10 0) fl (bI (ggo S)) (v 10 1) (bI (gkn S)) (gt0 S) (gsp S) (wdI S) (glv S) (gtk S) (grf S) (nI (gev S)))])) 0 0 (fun q => q ∈ ([A 0] : List Nat)) := by
  refine xofW (adr := [A 0]) (by decide) (Nat.le_of_ble_eq_true rfl) ?_
  intro p e s m below meth c ls hx hb hr hml hg hown hlk hI hP hd hS hl
  have hown : s.vm.findClass RX7 = some m.cls := hown
  have hd : dj [A 0, A 5] := hd
  have hl : lv_has ls 2 [(0, .ref (A 0)), (1, .int i)] := hl
  refine lv_aload_n hx hb dX7_at_0 rfl (lv_at hl 0 rfl) ?_
  refine lv_iload_n hx hb dX7_at_1 rfl (lv_at hl 1 rfl) ?_
  refine lv_aload_n hx hb dX7_at_2 rfl (lv_at hl 0 rfl) ?_
  refine gX7 hx hb hg hown hI hP 0 rfl 1 rfl mF_X7_7 rfl dX7_at_3 ?_
  refine xci (xS (As := [.int i, .int (nI (sn (gσ S)))]) (rest := [.ref (A 0)]) hx hb hml hown hg (r_out l D cD cI cM cL i (nI (sn (gσ S)))) mM_X7_206 ok_X7_out rfl rfl ⟨Nat.le_of_ble_eq_true rfl, Nat.le_of_ble_eq_true rfl⟩ hI hP hd rfl [] rfl rfl rfl hl.1 rfl (Nat.le_of_ble_eq_true rfl) dX7_at_6 ⟨Nat.zero_le _, Nat.zero_le _⟩) hP hd hS fa0 [] rfl rfl (fun _ => rfl) (fun _u H locs hu hP hS => ?_)
  have hP : va_P D vwCl [(A 0, mO A th (nI (sn (gσ S))) (nI (sc (gσ S))) (gt S) (gh S) (gtol S) (v 10 0) fl (bI (ggo S)) (v 10 1) (bI (gkn S)) (gt0 S) (gsp S) (wdI S) (glv S) (gtk S) (grf S) (nI (gev S))), (A 5, dA cD 3 (gy S))] H := hP
  refine lv_if_eq (tgt := 16) hx hb dX7_at_9 (by decide) (fun c_9 => ?_) (fun c_9 => ?_)
  ·
    have ho : inV S i = true := bn0.mp c_9
    rw [ho]
    obtain ⟨j, hj, hji, hj3⟩ := inV_nat hn ho
    rw [hj3]
    subst hji
    have hl : lv_has ls 2 [(0, .ref (A 0)), (1, .int (nI j))] := hl
    refine lv_iconst (v := nI 0) hx hb dX7_at_16 (by decide) ?_
    refine pX7 hx hb hg hown hI hP hd rfl hS 0 rfl 0 rfl mF_X7_84 rfl rfl rfl (Nat.le_of_ble_eq_true rfl) pm0 dX7_at_17 (fun H locs hP hS => ?_)
    have hP : va_P D vwCl [(A 0, mO A (nI 0) (nI (sn (gσ S))) (nI (sc (gσ S))) (gt S) (gh S) (gtol S) (v 10 0) fl (bI (ggo S)) (v 10 1) (bI (gkn S)) (gt0 S) (gsp S) (wdI S) (glv S) (gtk S) (grf S) (nI (gev S))), (A 5, dA cD 3 (gy S))] H := hP
    refine lv_aload_n hx hb dX7_at_20 rfl (lv_at hl 0 rfl) ?_
    refine gX7 hx hb hg hown hI hP 0 rfl 0 rfl mF_X7_84 rfl dX7_at_21 ?_
    refine lv_if_le (tgt := 31) hx hb dX7_at_24 (by decide) (fun c_24 => ?_) (fun c_24 => (c_24 (by decide)).elim)
    refine lv_aload_n hx hb dX7_at_31 rfl (lv_at hl 0 rfl) ?_
    refine gX7 hx hb hg hown hI hP 0 rfl 10 rfl mF_X7_36 rfl dX7_at_32 ?_
    refine lv_iload_n hx hb dX7_at_35 rfl (lv_at hl 1 rfl) ?_
    refine xdald hx hb hI hP 1 0 rfl rfl (Nat.lt_of_lt_of_le hj hn) (by decide) dX7_at_36 ?_
    exact W.dret hx hb hr (fun tS hTS hWS => ⟨(), rfl, trivial, by rw [hTS]; exact hP.sub [0] rfl, hS.F hTS⟩) hS.2.2 dX7_at_37
  ·
    have ho : inV S i = false := bn1.mp c_9
    rw [ho]
    refine lv_iconst (v := nI 1) hx hb dX7_at_12 (by decide) ?_
    refine lv_goto (tgt := 17) hx hb dX7_at_13 (by decide) ?_
    refine pX7 hx hb hg hown hI hP hd rfl hS 0 rfl 0 rfl mF_X7_84 rfl rfl rfl (Nat.le_of_ble_eq_true rfl) pm0 dX7_at_17 (fun H locs hP hS => ?_)
    have hP : va_P D vwCl [(A 0, mO A (nI 1) (nI (sn (gσ S))) (nI (sc (gσ S))) (gt S) (gh S) (gtol S) (v 10 0) fl (bI (ggo S)) (v 10 1) (bI (gkn S)) (gt0 S) (gsp S) (wdI S) (glv S) (gtk S) (grf S) (nI (gev S))), (A 5, dA cD 3 (gy S))] H := hP
    refine lv_aload_n hx hb dX7_at_20 rfl (lv_at hl 0 rfl) ?_
    refine gX7 hx hb hg hown hI hP 0 rfl 0 rfl mF_X7_84 rfl dX7_at_21 ?_
    refine lv_if_le (tgt := 31) hx hb dX7_at_24 (by decide) (fun c_24 => absurd c_24 (by decide)) (fun c_24 => ?_)
    refine lv_dconst0 hx hb dX7_at_27 ?_
    refine lv_goto (tgt := 37) hx hb dX7_at_28 (by decide) ?_
    exact W.dret hx hb hr (fun tS hTS hWS => ⟨(), rfl, trivial, by rw [hTS]; exact hP.sub [0] rfl, hS.F hTS⟩) hS.2.2 dX7_at_37

set_option maxHeartbeats 4000000 in
set_option maxRecDepth 100000 in
theorem r_derivative (l : Launch) (D : va_G) (cD cI cM cL : ClassId) (A : Nat → Nat) (S : St) (th fl : Int32) (v : Nat → Nat → UInt64) (i : Int32) (B : Int) (E : Nat) (hv : Inv B E S) (hB : B ≤ BT) : Met l yX7_derivative (Cond.code yX7_derivative cX7_derivative 2 (some .double) :: lw_good) { frames := 2, cells := 0, slots := 0, locals := 51 } (xPc D (tyL cD cI cM cL) [.ref (A 0), .int i] [(A 0, mO A th (nI (sn (gσ S))) (nI (sc (gσ S))) (gt S) (gh S) (gtol S) (v 10 0) fl (bI (ggo S)) (v 10 1) (bI (gkn S)) (gt0 S) (gsp S) (wdI S) (glv S) (gtk S) (grf S) (nI (gev S))), (A 1, iA cI 10 (so (gσ S))), (A 2, iA cI 10 (sl (gσ S))), (A 3, iA cI 10 (sr (gσ S))), (A 4, dA cD 10 (sk (gσ S))), (A 5, dA cD 3 (gy S)), (A 11, dA cD 3 (v 5))]) (xQ D [A 0, A 11] (fun (u : Nat → UInt64) => some (.double (if inV S i then fs (gσ S) (gt S) (gy S) i.toNatClampNeg else FP.dconst0))) (fun (u : Nat → UInt64) => True) (fun (u : Nat → UInt64) => [(A 0, mO A (nI (if inV S i then 0 else 1)) (nI (sn (gσ S))) (nI (sc (gσ S))) (gt S) (gh S) (gtol S) (v 10 0) fl (bI (ggo S)) (v 10 1) (bI (gkn S)) (gt0 S) (gsp S) (wdI S) (glv S) (gtk S) (grf S) (nI (gev S))), (A 11, dA cD 3 u)])) 0 0 (fun q => q ∈ ([A 0, A 11] : List Nat)) := by
  refine xofW (adr := [A 0, A 11]) (by decide) (Nat.le_of_ble_eq_true rfl) ?_
  intro p e s m below meth c ls hx hb hr hml hg hown hlk hI hP hd hS hl
  have hown : s.vm.findClass RX7 = some m.cls := hown
  have hd : dj [A 0, A 1, A 2, A 3, A 4, A 5, A 11] := hd
  have hl : lv_has ls 2 [(0, .ref (A 0)), (1, .int i)] := hl
  have hn : sn (gσ S) ≤ 3 := hv.1.2.1
  refine lv_aload_n hx hb dX7_derivative_0 rfl (lv_at hl 0 rfl) ?_
  refine lv_iload_n hx hb dX7_derivative_1 rfl (lv_at hl 1 rfl) ?_
  refine lv_aload_n hx hb dX7_derivative_2 rfl (lv_at hl 0 rfl) ?_
  refine gX7 hx hb hg hown hI hP 0 rfl 1 rfl mF_X7_7 rfl dX7_derivative_3 ?_
  refine xci (xS (As := [.int i, .int (nI (sn (gσ S)))]) (rest := [.ref (A 0)]) hx hb hml hown hg (r_out l D cD cI cM cL i (nI (sn (gσ S)))) mM_X7_206 ok_X7_out rfl rfl ⟨Nat.le_of_ble_eq_true rfl, Nat.le_of_ble_eq_true rfl⟩ hI hP hd rfl [] rfl rfl rfl hl.1 rfl (Nat.le_of_ble_eq_true rfl) dX7_derivative_6 ⟨Nat.zero_le _, Nat.zero_le _⟩) hP hd hS fa0 [] rfl rfl (fun _ => rfl) (fun _u H locs hu hP hS => ?_)
  have hP : va_P D vwCl [(A 0, mO A th (nI (sn (gσ S))) (nI (sc (gσ S))) (gt S) (gh S) (gtol S) (v 10 0) fl (bI (ggo S)) (v 10 1) (bI (gkn S)) (gt0 S) (gsp S) (wdI S) (glv S) (gtk S) (grf S) (nI (gev S))), (A 1, iA cI 10 (so (gσ S))), (A 2, iA cI 10 (sl (gσ S))), (A 3, iA cI 10 (sr (gσ S))), (A 4, dA cD 10 (sk (gσ S))), (A 5, dA cD 3 (gy S)), (A 11, dA cD 3 (v 5))] H := hP
  refine lv_if_eq (tgt := 16) hx hb dX7_derivative_9 (by decide) (fun c_9 => ?_) (fun c_9 => ?_)
  ·
    have ho : inV S i = true := bn0.mp c_9
    rw [ho]
    obtain ⟨j, hj, hji, hj3⟩ := inV_nat hn ho
    rw [hj3]
    subst hji
    have hl : lv_has ls 2 [(0, .ref (A 0)), (1, .int (nI j))] := hl
    refine lv_iconst (v := nI 0) hx hb dX7_derivative_16 (by decide) ?_
    refine pX7 hx hb hg hown hI hP hd rfl hS 0 rfl 0 rfl mF_X7_84 rfl rfl rfl (Nat.le_of_ble_eq_true rfl) pm0 dX7_derivative_17 (fun H locs hP hS => ?_)
    have hP : va_P D vwCl [(A 0, mO A (nI 0) (nI (sn (gσ S))) (nI (sc (gσ S))) (gt S) (gh S) (gtol S) (v 10 0) fl (bI (ggo S)) (v 10 1) (bI (gkn S)) (gt0 S) (gsp S) (wdI S) (glv S) (gtk S) (grf S) (nI (gev S))), (A 1, iA cI 10 (so (gσ S))), (A 2, iA cI 10 (sl (gσ S))), (A 3, iA cI 10 (sr (gσ S))), (A 4, dA cD 10 (sk (gσ S))), (A 5, dA cD 3 (gy S)), (A 11, dA cD 3 (v 5))] H := hP
    refine lv_aload_n hx hb dX7_derivative_20 rfl (lv_at hl 0 rfl) ?_
    refine gX7 hx hb hg hown hI hP 0 rfl 0 rfl mF_X7_84 rfl dX7_derivative_21 ?_
    refine lv_if_le (tgt := 29) hx hb dX7_derivative_24 (by decide) (fun c_24 => ?_) (fun c_24 => (c_24 (by decide)).elim)
    refine lv_aload_n hx hb dX7_derivative_29 rfl (lv_at hl 0 rfl) ?_
    refine lv_aload_n hx hb dX7_derivative_30 rfl (lv_at hl 0 rfl) ?_
    refine gX7 hx hb hg hown hI hP 0 rfl 7 rfl mF_X7_98 rfl dX7_derivative_31 ?_
    refine lv_aload_n hx hb dX7_derivative_34 rfl (lv_at hl 0 rfl) ?_
    refine gX7 hx hb hg hown hI hP 0 rfl 10 rfl mF_X7_36 rfl dX7_derivative_35 ?_
    refine lv_aload_n hx hb dX7_derivative_38 rfl (lv_at hl 0 rfl) ?_
    refine gX7 hx hb hg hown hI hP 0 rfl 18 rfl mF_X7_54 rfl dX7_derivative_39 ?_
    refine xcv (xV (As := [.double (gt S), .ref (A 5), .ref (A 11)]) (rest := []) hx hb hml hown hg (r_derive l D cD cI cM cL A (gσ S) (nI 0) (gt S) (gh S) (gtol S) (v 10 0) fl (bI (ggo S)) (v 10 1) (bI (gkn S)) (gt0 S) (gsp S) (wdI S) (glv S) (gtk S) (grf S) (nI (gev S)) (A 5) (A 11) (gt S) (gy S) (v 5) 20 hv.1 ((hv.t hB).up (by decide)) hv.2.2.2.2.1 (by decide)) mM_X7_101 ok_X7_derive rfl rfl ⟨Nat.le_of_ble_eq_true rfl, Nat.le_of_ble_eq_true rfl⟩ hI hP hd rfl [0, 1, 2, 3, 4, 5, 6] rfl rfl rfl rfl rfl hl.1 rfl (Nat.le_of_ble_eq_true rfl) dX7_derivative_42 ⟨Nat.zero_le _, Nat.zero_le _⟩) hP hd hS (fa1 (pmS pm0) fa0) [6] rfl rfl (fun _ => rfl) (fun _u H locs hu hP hS => ?_)
    have hP : va_P D vwCl [(A 0, mO A (nI 0) (nI (sn (gσ S))) (nI (sc (gσ S))) (gt S) (gh S) (gtol S) (v 10 0) fl (bI (ggo S)) (v 10 1) (bI (gkn S)) (gt0 S) (gsp S) (wdI S) (glv S) (gtk S) (grf S) (nI (gev S))), (A 1, iA cI 10 (so (gσ S))), (A 2, iA cI 10 (sl (gσ S))), (A 3, iA cI 10 (sr (gσ S))), (A 4, dA cD 10 (sk (gσ S))), (A 5, dA cD 3 (gy S)), (A 11, dA cD 3 (mix (sn (gσ S)) (fs (gσ S) (gt S) (gy S)) (v 5)))] H := hP
    refine lv_aload_n hx hb dX7_derivative_45 rfl (lv_at hl 0 rfl) ?_
    refine gX7 hx hb hg hown hI hP 0 rfl 18 rfl mF_X7_54 rfl dX7_derivative_46 ?_
    refine xpc (q := 49) rfl ?_
    refine lv_iload_n hx hb dX7_derivative_49 rfl (lv_at hl 1 rfl) ?_
    refine xdald hx hb hI hP 6 0 rfl rfl (Nat.lt_of_lt_of_le hj hn) (by decide) dX7_derivative_50 ?_
    refine xeqd (y := fs (gσ S) (gt S) (gy S) j) (mix_lt hj) ?_
    exact W.dret hx hb hr (fun tS hTS hWS => ⟨(mix (sn (gσ S)) (fs (gσ S) (gt S) (gy S)) (v 5)), rfl, trivial, by rw [hTS]; exact hP.sub [0, 6] rfl, hS.F hTS⟩) hS.2.2 dX7_derivative_51
  ·
    have ho : inV S i = false := bn1.mp c_9
    rw [ho]
    refine lv_iconst (v := nI 1) hx hb dX7_derivative_12 (by decide) ?_
    refine lv_goto (tgt := 17) hx hb dX7_derivative_13 (by decide) ?_
    refine pX7 hx hb hg hown hI hP hd rfl hS 0 rfl 0 rfl mF_X7_84 rfl rfl rfl (Nat.le_of_ble_eq_true rfl) pm0 dX7_derivative_17 (fun H locs hP hS => ?_)
    have hP : va_P D vwCl [(A 0, mO A (nI 1) (nI (sn (gσ S))) (nI (sc (gσ S))) (gt S) (gh S) (gtol S) (v 10 0) fl (bI (ggo S)) (v 10 1) (bI (gkn S)) (gt0 S) (gsp S) (wdI S) (glv S) (gtk S) (grf S) (nI (gev S))), (A 1, iA cI 10 (so (gσ S))), (A 2, iA cI 10 (sl (gσ S))), (A 3, iA cI 10 (sr (gσ S))), (A 4, dA cD 10 (sk (gσ S))), (A 5, dA cD 3 (gy S)), (A 11, dA cD 3 (v 5))] H := hP
    refine lv_aload_n hx hb dX7_derivative_20 rfl (lv_at hl 0 rfl) ?_
    refine gX7 hx hb hg hown hI hP 0 rfl 0 rfl mF_X7_84 rfl dX7_derivative_21 ?_
    refine lv_if_le (tgt := 29) hx hb dX7_derivative_24 (by decide) (fun c_24 => absurd c_24 (by decide)) (fun c_24 => ?_)
    refine lv_dconst0 hx hb dX7_derivative_27 ?_
    exact W.dret hx hb hr (fun tS hTS hWS => ⟨v 5, rfl, trivial, by rw [hTS]; exact hP.sub [0, 6] rfl, hS.F hTS⟩) hS.2.2 dX7_derivative_28

set_option maxHeartbeats 4000000 in
set_option maxRecDepth 100000 in
theorem r_between (l : Launch) (D : va_G) (cD cI cM cL : ClassId) (A : Nat → Nat) (S : St) (th fl : Int32) (v : Nat → Nat → UInt64) (i : Int32) (x : UInt64) (B : Int) (E : Nat) (hv : Inv B E S) (hB : B ≤ BT) (hxf : fin x) : Met l yX7_between (Cond.code yX7_between cX7_between 4 (some .double) :: lw_good) { frames := 1, cells := 0, slots := 0, locals := 23 } (xPc D (tyL cD cI cM cL) [.ref (A 0), .int i, .double x] [(A 0, mO A th (nI (sn (gσ S))) (nI (sc (gσ S))) (gt S) (gh S) (gtol S) (v 10 0) fl (bI (ggo S)) (v 10 1) (bI (gkn S)) (gt0 S) (gsp S) (wdI S) (glv S) (gtk S) (grf S) (nI (gev S))), (A 5, dA cD 3 (gy S)), (A 16, dA cD 3 (gy0 S)), (A 17, dA cD 3 (gg S)), (A 18, dA cD 3 (gq S))]) (xQ D [A 0] (fun (_ : Unit) => some (.double (if btK S i x = 0 then crv (gy0 S i.toNatClampNeg) (gg S i.toNatClampNeg) (gy S i.toNatClampNeg) (gq S i.toNatClampNeg) (gsp S) x else FP.dconst0))) (fun (_ : Unit) => True) (fun (_ : Unit) => [(A 0, mO A (nI (btK S i x)) (nI (sn (gσ S))) (nI (sc (gσ S))) (gt S) (gh S) (gtol S) (v 10 0) fl (bI (ggo S)) (v 10 1) (bI (gkn S)) (gt0 S) (gsp S) (wdI S) (glv S) (gtk S) (grf S) (nI (gev S)))])) 0 0 (fun q => q ∈ ([A 0] : List Nat)) := by
  refine xofW (adr := [A 0]) (by decide) (Nat.le_of_ble_eq_true rfl) ?_
  intro p e s m below meth c ls hx hb hr hml hg hown hlk hI hP hd hS hl
  have hown : s.vm.findClass RX7 = some m.cls := hown
  have hd : dj [A 0, A 5, A 16, A 17, A 18] := hd
  have hl : lv_has ls 4 [(0, .ref (A 0)), (1, .int i), (2, .double x)] := hl
  have hn : sn (gσ S) ≤ 3 := hv.1.2.1
  refine lv_aload_n hx hb dX7_between_0 rfl (lv_at hl 0 rfl) ?_
  refine lv_iload_n hx hb dX7_between_1 rfl (lv_at hl 1 rfl) ?_
  refine lv_aload_n hx hb dX7_between_2 rfl (lv_at hl 0 rfl) ?_
  refine gX7 hx hb hg hown hI hP 0 rfl 1 rfl mF_X7_7 rfl dX7_between_3 ?_
  refine xci (xS (As := [.int i, .int (nI (sn (gσ S)))]) (rest := [.ref (A 0)]) hx hb hml hown hg (r_out l D cD cI cM cL i (nI (sn (gσ S)))) mM_X7_206 ok_X7_out rfl rfl ⟨Nat.le_of_ble_eq_true rfl, Nat.le_of_ble_eq_true rfl⟩ hI hP hd rfl [] rfl rfl rfl hl.1 rfl (Nat.le_of_ble_eq_true rfl) dX7_between_6 ⟨Nat.zero_le _, Nat.zero_le _⟩) hP hd hS fa0 [] rfl rfl (fun _ => rfl) (fun _u H locs hu hP hS => ?_)
  have hP : va_P D vwCl [(A 0, mO A th (nI (sn (gσ S))) (nI (sc (gσ S))) (gt S) (gh S) (gtol S) (v 10 0) fl (bI (ggo S)) (v 10 1) (bI (gkn S)) (gt0 S) (gsp S) (wdI S) (glv S) (gtk S) (grf S) (nI (gev S))), (A 5, dA cD 3 (gy S)), (A 16, dA cD 3 (gy0 S)), (A 17, dA cD 3 (gg S)), (A 18, dA cD 3 (gq S))] H := hP
  refine lv_if_ne (tgt := 24) hx hb dX7_between_9 (by decide) (fun c_9 => ?_) (fun c_9 => ?_)
  ·
    have ho : btK S i x = 1 := by unfold btK; rw [show inV S i = false from bn1.mp c_9]; simp
    rw [ho]
    refine lv_iconst (v := nI 1) hx hb dX7_between_24 (by decide) ?_
    refine lv_goto (tgt := 40) hx hb dX7_between_25 (by decide) ?_
    refine pX7 hx hb hg hown hI hP hd rfl hS 0 rfl 0 rfl mF_X7_84 rfl rfl rfl (Nat.le_of_ble_eq_true rfl) pm0 dX7_between_40 (fun H locs hP hS => ?_)
    have hP : va_P D vwCl [(A 0, mO A (nI 1) (nI (sn (gσ S))) (nI (sc (gσ S))) (gt S) (gh S) (gtol S) (v 10 0) fl (bI (ggo S)) (v 10 1) (bI (gkn S)) (gt0 S) (gsp S) (wdI S) (glv S) (gtk S) (grf S) (nI (gev S))), (A 5, dA cD 3 (gy S)), (A 16, dA cD 3 (gy0 S)), (A 17, dA cD 3 (gg S)), (A 18, dA cD 3 (gq S))] H := hP
    refine lv_aload_n hx hb dX7_between_43 rfl (lv_at hl 0 rfl) ?_
    refine gX7 hx hb hg hown hI hP 0 rfl 0 rfl mF_X7_84 rfl dX7_between_44 ?_
    refine lv_if_le (tgt := 54) hx hb dX7_between_47 (by decide) (fun c_47 => absurd c_47 (by decide)) (fun c_47 => ?_)
    refine lv_dconst0 hx hb dX7_between_50 ?_
    refine lv_goto (tgt := 60) hx hb dX7_between_51 (by decide) ?_
    exact W.dret hx hb hr (fun tS hTS hWS => ⟨(), rfl, trivial, by rw [hTS]; exact hP.sub [0] rfl, hS.F hTS⟩) hS.2.2 dX7_between_60
  ·
    have hv0 : inV S i = true := bn0.mp c_9
    refine lv_dload_n hx hb dX7_between_12 rfl (lv_at hl 2 rfl) ?_
    refine lv_dconst0 hx hb dX7_between_13 ?_
    refine xl_lt (tgt := 24) hx hb dX7_between_14 dX7_between_15 (by decide) (fun c_14 => ?_) (fun c_14 => ?_)
    ·
      have ho : btK S i x = 1 := by unfold btK; rw [show b01 x = false from df (fun q => c_14 q.1)]; simp
      rw [ho]
      refine lv_iconst (v := nI 1) hx hb dX7_between_24 (by decide) ?_
      refine lv_goto (tgt := 40) hx hb dX7_between_25 (by decide) ?_
      refine pX7 hx hb hg hown hI hP hd rfl hS 0 rfl 0 rfl mF_X7_84 rfl rfl rfl (Nat.le_of_ble_eq_true rfl) pm0 dX7_between_40 (fun H locs hP hS => ?_)
      have hP : va_P D vwCl [(A 0, mO A (nI 1) (nI (sn (gσ S))) (nI (sc (gσ S))) (gt S) (gh S) (gtol S) (v 10 0) fl (bI (ggo S)) (v 10 1) (bI (gkn S)) (gt0 S) (gsp S) (wdI S) (glv S) (gtk S) (grf S) (nI (gev S))), (A 5, dA cD 3 (gy S)), (A 16, dA cD 3 (gy0 S)), (A 17, dA cD 3 (gg S)), (A 18, dA cD 3 (gq S))] H := hP
      refine lv_aload_n hx hb dX7_between_43 rfl (lv_at hl 0 rfl) ?_
      refine gX7 hx hb hg hown hI hP 0 rfl 0 rfl mF_X7_84 rfl dX7_between_44 ?_
      refine lv_if_le (tgt := 54) hx hb dX7_between_47 (by decide) (fun c_47 => absurd c_47 (by decide)) (fun c_47 => ?_)
      refine lv_dconst0 hx hb dX7_between_50 ?_
      refine lv_goto (tgt := 60) hx hb dX7_between_51 (by decide) ?_
      exact W.dret hx hb hr (fun tS hTS hWS => ⟨(), rfl, trivial, by rw [hTS]; exact hP.sub [0] rfl, hS.F hTS⟩) hS.2.2 dX7_between_60
    ·
      refine lv_dload_n hx hb dX7_between_18 rfl (lv_at hl 2 rfl) ?_
      refine lv_dconst1 hx hb dX7_between_19 ?_
      refine xg_le (tgt := 28) hx hb dX7_between_20 dX7_between_21 (by decide) (fun c_20 => ?_) (fun c_20 => ?_)
      ·
        have hb0 : b01 x = true := dt ⟨c_14, c_20⟩
        refine lv_aload_n hx hb dX7_between_28 rfl (lv_at hl 0 rfl) ?_
        refine gX7 hx hb hg hown hI hP 0 rfl 25 rfl mF_X7_187 rfl dX7_between_29 ?_
        refine lv_if_eq (tgt := 39) hx hb dX7_between_32 (by decide) (fun c_32 => ?_) (fun c_32 => ?_)
        ·
          have ho : btK S i x = 2 := by unfold btK; rw [hv0, hb0, bI_eq0.mp c_32]; rfl
          rw [ho]
          refine lv_iconst (v := nI 2) hx hb dX7_between_39 (by decide) ?_
          refine pX7 hx hb hg hown hI hP hd rfl hS 0 rfl 0 rfl mF_X7_84 rfl rfl rfl (Nat.le_of_ble_eq_true rfl) pm0 dX7_between_40 (fun H locs hP hS => ?_)
          have hP : va_P D vwCl [(A 0, mO A (nI 2) (nI (sn (gσ S))) (nI (sc (gσ S))) (gt S) (gh S) (gtol S) (v 10 0) fl (bI (ggo S)) (v 10 1) (bI (gkn S)) (gt0 S) (gsp S) (wdI S) (glv S) (gtk S) (grf S) (nI (gev S))), (A 5, dA cD 3 (gy S)), (A 16, dA cD 3 (gy0 S)), (A 17, dA cD 3 (gg S)), (A 18, dA cD 3 (gq S))] H := hP
          refine lv_aload_n hx hb dX7_between_43 rfl (lv_at hl 0 rfl) ?_
          refine gX7 hx hb hg hown hI hP 0 rfl 0 rfl mF_X7_84 rfl dX7_between_44 ?_
          refine lv_if_le (tgt := 54) hx hb dX7_between_47 (by decide) (fun c_47 => absurd c_47 (by decide)) (fun c_47 => ?_)
          refine lv_dconst0 hx hb dX7_between_50 ?_
          refine lv_goto (tgt := 60) hx hb dX7_between_51 (by decide) ?_
          exact W.dret hx hb hr (fun tS hTS hWS => ⟨(), rfl, trivial, by rw [hTS]; exact hP.sub [0] rfl, hS.F hTS⟩) hS.2.2 dX7_between_60
        ·
          have hk0 : gkn S = true := bI_ne0.mp c_32
          have ho0 : btK S i x = 0 := by unfold btK; rw [hv0, hb0, hk0]; rfl
          rw [ho0]
          have ho := hv0
          obtain ⟨j, hj, hji, hj3⟩ := inV_nat hn ho
          rw [hj3]
          subst hji
          have hl : lv_has ls 4 [(0, .ref (A 0)), (1, .int (nI j)), (2, .double x)] := hl
          have hkn := hv.2.2.2.2.2.1 hk0
          refine lv_iconst (v := nI 0) hx hb dX7_between_35 (by decide) ?_
          refine lv_goto (tgt := 40) hx hb dX7_between_36 (by decide) ?_
          refine pX7 hx hb hg hown hI hP hd rfl hS 0 rfl 0 rfl mF_X7_84 rfl rfl rfl (Nat.le_of_ble_eq_true rfl) pm0 dX7_between_40 (fun H locs hP hS => ?_)
          have hP : va_P D vwCl [(A 0, mO A (nI 0) (nI (sn (gσ S))) (nI (sc (gσ S))) (gt S) (gh S) (gtol S) (v 10 0) fl (bI (ggo S)) (v 10 1) (bI (gkn S)) (gt0 S) (gsp S) (wdI S) (glv S) (gtk S) (grf S) (nI (gev S))), (A 5, dA cD 3 (gy S)), (A 16, dA cD 3 (gy0 S)), (A 17, dA cD 3 (gg S)), (A 18, dA cD 3 (gq S))] H := hP
          refine lv_aload_n hx hb dX7_between_43 rfl (lv_at hl 0 rfl) ?_
          refine gX7 hx hb hg hown hI hP 0 rfl 0 rfl mF_X7_84 rfl dX7_between_44 ?_
          refine lv_if_le (tgt := 54) hx hb dX7_between_47 (by decide) (fun c_47 => ?_) (fun c_47 => (c_47 (by decide)).elim)
          refine lv_aload_n hx hb dX7_between_54 rfl (lv_at hl 0 rfl) ?_
          refine lv_iload_n hx hb dX7_between_55 rfl (lv_at hl 1 rfl) ?_
          refine lv_dload_n hx hb dX7_between_56 rfl (lv_at hl 2 rfl) ?_
          refine xcd (xV (As := [.int (nI j), .double x]) (rest := []) hx hb hml hown hg (r_curve l D cD cI cM cL A (gσ S) (nI 0) (gt S) (gh S) (gtol S) (v 10 0) fl (bI (ggo S)) (v 10 1) (bI (gkn S)) (gt0 S) (gsp S) (wdI S) (glv S) (gtk S) (grf S) (nI (gev S)) (gy S) (gy0 S) (gg S) (gq S) j x (Nat.lt_of_lt_of_le hj hn) (hkn.1 j hj).1 (hkn.1 j hj).2.1 (hv.2.2.2.2.1 j hj) (hkn.1 j hj).2.2 hkn.2.1 (b01_bd hxf hb0)) mM_X7_199 ok_X7_curve rfl rfl ⟨Nat.le_of_ble_eq_true rfl, Nat.le_of_ble_eq_true rfl⟩ hI hP hd rfl [0, 1, 2, 3, 4] rfl rfl rfl rfl rfl hl.1 rfl (Nat.le_of_ble_eq_true rfl) dX7_between_57 ⟨Nat.zero_le _, Nat.zero_le _⟩) hP hd hS fa0 [] rfl rfl (fun _ => rfl) (fun _u H locs hu hP hS => ?_)
          have hP : va_P D vwCl [(A 0, mO A (nI 0) (nI (sn (gσ S))) (nI (sc (gσ S))) (gt S) (gh S) (gtol S) (v 10 0) fl (bI (ggo S)) (v 10 1) (bI (gkn S)) (gt0 S) (gsp S) (wdI S) (glv S) (gtk S) (grf S) (nI (gev S))), (A 5, dA cD 3 (gy S)), (A 16, dA cD 3 (gy0 S)), (A 17, dA cD 3 (gg S)), (A 18, dA cD 3 (gq S))] H := hP
          exact W.dret hx hb hr (fun tS hTS hWS => ⟨(), rfl, trivial, by rw [hTS]; exact hP.sub [0] rfl, hS.F hTS⟩) hS.2.2 dX7_between_60
      ·
        have ho : btK S i x = 1 := by unfold btK; rw [show b01 x = false from df (fun q => c_20 q.2)]; simp
        rw [ho]
        refine lv_iconst (v := nI 1) hx hb dX7_between_24 (by decide) ?_
        refine lv_goto (tgt := 40) hx hb dX7_between_25 (by decide) ?_
        refine pX7 hx hb hg hown hI hP hd rfl hS 0 rfl 0 rfl mF_X7_84 rfl rfl rfl (Nat.le_of_ble_eq_true rfl) pm0 dX7_between_40 (fun H locs hP hS => ?_)
        have hP : va_P D vwCl [(A 0, mO A (nI 1) (nI (sn (gσ S))) (nI (sc (gσ S))) (gt S) (gh S) (gtol S) (v 10 0) fl (bI (ggo S)) (v 10 1) (bI (gkn S)) (gt0 S) (gsp S) (wdI S) (glv S) (gtk S) (grf S) (nI (gev S))), (A 5, dA cD 3 (gy S)), (A 16, dA cD 3 (gy0 S)), (A 17, dA cD 3 (gg S)), (A 18, dA cD 3 (gq S))] H := hP
        refine lv_aload_n hx hb dX7_between_43 rfl (lv_at hl 0 rfl) ?_
        refine gX7 hx hb hg hown hI hP 0 rfl 0 rfl mF_X7_84 rfl dX7_between_44 ?_
        refine lv_if_le (tgt := 54) hx hb dX7_between_47 (by decide) (fun c_47 => absurd c_47 (by decide)) (fun c_47 => ?_)
        refine xpc (q := 50) rfl ?_
        refine lv_dconst0 hx hb dX7_between_50 ?_
        refine lv_goto (tgt := 60) hx hb dX7_between_51 (by decide) ?_
        exact W.dret hx hb hr (fun tS hTS hWS => ⟨(), rfl, trivial, by rw [hTS]; exact hP.sub [0] rfl, hS.F hTS⟩) hS.2.2 dX7_between_60
