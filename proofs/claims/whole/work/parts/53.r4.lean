set_option maxHeartbeats 4000000 in
set_option maxRecDepth 100000 in
theorem r_implicit (l : Launch) (D : va_G) (cD cI cM cL : ClassId) (A : Nat → Nat) (σ : Sys) (th : Int32) (t sh tl er : UInt64) (fl kp : Int32) (ks : UInt64) (tk : Int32) (tz sp : UInt64) (wd : Int32) (lv : UInt64) (dn rf ev : Int32) (y vz va vd vu vm : Nat → UInt64) (r : UInt64) (hk0 : okst σ t y r) : Met l yX7_implicit (Cond.code yX7_implicit cX7_implicit 7 none :: lw_good) { frames := 2, cells := 0, slots := 0, locals := 51 } (xPc D (tyL cD cI cM cL) [.ref (A 0), .double r] [(A 0, mO A th (nI (sn σ)) (nI (sc σ)) t sh tl er (nI 0) kp ks tk tz sp wd lv dn rf ev), (A 1, iA cI 10 (so σ)), (A 2, iA cI 10 (sl σ)), (A 3, iA cI 10 (sr σ)), (A 4, dA cD 10 (sk σ)), (A 5, dA cD 3 y), (A 6, dA cD 3 vz), (A 7, dA cD 3 va), (A 10, dA cD 3 vd), (A 11, dA cD 3 vu), (A 13, dA cD 9 vm)]) (xQ D [A 0, A 6, A 7, A 10, A 11, A 13] (fun (u : (Nat → UInt64) × (Nat → UInt64) × (Nat → UInt64) × (Nat → UInt64) × (Nat → UInt64)) => none) (fun (u : (Nat → UInt64) × (Nat → UInt64) × (Nat → UInt64) × (Nat → UInt64) × (Nat → UInt64)) => ∀ z, imp σ (FP.dadd t r) r y 8 y = some z → agV (sn σ) u.1 z) (fun (u : (Nat → UInt64) × (Nat → UInt64) × (Nat → UInt64) × (Nat → UInt64) × (Nat → UInt64)) => [(A 0, mO A th (nI (sn σ)) (nI (sc σ)) t sh tl er (bI (imp σ (FP.dadd t r) r y 8 y).isNone) kp ks tk tz sp wd lv dn rf ev), (A 6, dA cD 3 u.1), (A 7, dA cD 3 u.2.1), (A 10, dA cD 3 u.2.2.1), (A 11, dA cD 3 u.2.2.2.1), (A 13, dA cD 9 u.2.2.2.2)])) 0 0 (fun q => q ∈ ([A 0, A 6, A 7, A 10, A 11, A 13] : List Nat)) := by
  refine xofW (adr := [A 0, A 6, A 7, A 10, A 11, A 13]) (by decide) (Nat.le_of_ble_eq_true rfl) ?_
  intro p e s m below meth c ls hx hb hr hml hg hown hlk hI hP hd hS hl
  have hown : s.vm.findClass RX7 = some m.cls := hown
  have hd : dj [A 0, A 1, A 2, A 3, A 4, A 5, A 6, A 7, A 10, A 11, A 13] := hd
  have hl : lv_has ls 7 [(0, .ref (A 0)), (1, .double r)] := hl
  have hn : sn σ ≤ 3 := hk0.1.2.1
  have he0 : bd 1 17 (FP.dadd t r) := t2_bd hk0 hk0.2.2.1
  refine lv_iconst (v := nI 0) hx hb dX7_implicit_0 (by decide) ?_
  refine lv_istore_n (lv' := [(3, .int (nI 0)), (0, .ref (A 0)), (1, .double r)]) hx hb dX7_implicit_1 rfl hl (by decide) rfl (fun ls hl => ?_)
  refine xfor (I := fun i H locs ls => ∃ (f' : Nat → UInt64), (f' = mix i y vz) ∧ va_P D vwCl [(A 0, mO A th (nI (sn σ)) (nI (sc σ)) t sh tl er (nI 0) kp ks tk tz sp wd lv dn rf ev), (A 1, iA cI 10 (so σ)), (A 2, iA cI 10 (sl σ)), (A 3, iA cI 10 (sr σ)), (A 4, dA cD 10 (sk σ)), (A 5, dA cD 3 y), (A 6, dA cD 3 f'), (A 7, dA cD 3 va), (A 10, dA cD 3 vd), (A 11, dA cD 3 vu), (A 13, dA cD 9 vm)] H ∧ va_S (fun q => q ∈ ([A 0, A 6, A 7, A 10, A 11, A 13] : List Nat)) s.heap H locs ∧ lv_has ls 7 [(3, .int (nI i)), (0, .ref (A 0)), (1, .double r)]) (sn σ) 0 ⟨_, (mix_0 _ _).symm, hP, hS, lv_sub hl [0, 1, 2] rfl⟩ (Nat.zero_le _) ?_ ?_
  ·
    intro i h_i ih H locs ls ⟨f', hf, hP, hS, hl⟩
    refine lv_iload_n hx hb dX7_implicit_2 rfl (lv_at hl 0 rfl) ?_
    refine lv_aload_n hx hb dX7_implicit_3 rfl (lv_at hl 1 rfl) ?_
    refine gX7 hx hb hg hown hI hP 0 rfl 1 rfl mF_X7_7 rfl dX7_implicit_4 ?_
    refine lv_icmp_ge (tgt := 28) hx hb dX7_implicit_7 (by decide) (fun c_7 => absurd c_7 (nI_ge h_i (by omega))) (fun c_7 => ?_)
    refine lv_aload_n hx hb dX7_implicit_10 rfl (lv_at hl 1 rfl) ?_
    refine gX7 hx hb hg hown hI hP 0 rfl 11 rfl mF_X7_39 rfl dX7_implicit_11 ?_
    refine lv_iload_n hx hb dX7_implicit_14 rfl (lv_at hl 0 rfl) ?_
    refine lv_aload_n hx hb dX7_implicit_15 rfl (lv_at hl 1 rfl) ?_
    refine gX7 hx hb hg hown hI hP 0 rfl 10 rfl mF_X7_36 rfl dX7_implicit_16 ?_
    refine lv_iload_n hx hb dX7_implicit_19 rfl (lv_at hl 0 rfl) ?_
    refine xdald hx hb hI hP 5 0 rfl rfl (Nat.lt_of_lt_of_le h_i hn) (by decide) dX7_implicit_20 ?_
    refine xdast hx hb hI hP hd rfl hS 6 0 rfl rfl (Nat.lt_of_lt_of_le h_i hn) (by decide) (pmS pm0) dX7_implicit_21 (fun H locs hP hS => ?_)
    have hP : va_P D vwCl [(A 0, mO A th (nI (sn σ)) (nI (sc σ)) t sh tl er (nI 0) kp ks tk tz sp wd lv dn rf ev), (A 1, iA cI 10 (so σ)), (A 2, iA cI 10 (sl σ)), (A 3, iA cI 10 (sr σ)), (A 4, dA cD 10 (sk σ)), (A 5, dA cD 3 y), (A 6, dA cD 3 (vf_upd f' i (y i))), (A 7, dA cD 3 va), (A 10, dA cD 3 vd), (A 11, dA cD 3 vu), (A 13, dA cD 9 vm)] H := hP
    refine xpc (q := 22) rfl ?_
    refine lv_iinc (v := nI (i + 1)) (lv' := [(3, .int (nI (i + 1))), (0, .ref (A 0)), (1, .double r)]) hx hb dX7_implicit_22 hl (k := 0) rfl (nI_1 i) (by decide) rfl (fun ls hl => ?_)
    refine lv_goto (tgt := 2) hx hb dX7_implicit_25 (by decide) ?_
    exact ih _ _ _ ⟨_, mix_s hf rfl, hP, hS, lv_sub hl [0, 1, 2] rfl⟩
  ·
    intro H locs ls ⟨f', hf, hP, hS, hl⟩
    refine lv_iload_n hx hb dX7_implicit_2 rfl (lv_at hl 0 rfl) ?_
    refine lv_aload_n hx hb dX7_implicit_3 rfl (lv_at hl 1 rfl) ?_
    refine gX7 hx hb hg hown hI hP 0 rfl 1 rfl mF_X7_7 rfl dX7_implicit_4 ?_
    refine lv_icmp_ge (tgt := 28) hx hb dX7_implicit_7 (by decide) (fun c_7 => ?_) (fun c_7 => absurd (Int32.le_refl _) c_7)
    subst hf
    refine lv_iconst (v := nI 0) hx hb dX7_implicit_28 (by decide) ?_
    refine lv_istore_n (lv' := [(3, .int (nI 0)), (0, .ref (A 0)), (1, .double r)]) hx hb dX7_implicit_29 rfl hl (by decide) rfl (fun ls hl => ?_)
    refine lv_iconst (v := nI 0) hx hb dX7_implicit_30 (by decide) ?_
    refine lv_istore (lv' := [(4, .int (nI 0)), (3, .int (nI 0)), (0, .ref (A 0)), (1, .double r)]) hx hb dX7_implicit_31 hl (by decide) rfl (fun ls hl => ?_)
    refine xfor (I := fun f H locs ls => ∃ (z : Nat → UInt64) (Z1 : Nat → UInt64) (A1 : Nat → UInt64) (D1 : Nat → UInt64) (R1 : Nat → UInt64) (M1 : Nat → UInt64), (imp σ (FP.dadd t r) r y (8 - f) z = imp σ (FP.dadd t r) r y 8 y) ∧ (agV (sn σ) Z1 z) ∧ (∀ i, i < sn σ → bd 1 30 (z i)) ∧ (True) ∧ (True) ∧ (True) ∧ va_P D vwCl [(A 0, mO A th (nI (sn σ)) (nI (sc σ)) t sh tl er (nI 0) kp ks tk tz sp wd lv dn rf ev), (A 1, iA cI 10 (so σ)), (A 2, iA cI 10 (sl σ)), (A 3, iA cI 10 (sr σ)), (A 4, dA cD 10 (sk σ)), (A 5, dA cD 3 y), (A 6, dA cD 3 Z1), (A 7, dA cD 3 A1), (A 10, dA cD 3 D1), (A 11, dA cD 3 R1), (A 13, dA cD 9 M1)] H ∧ va_S (fun q => q ∈ ([A 0, A 6, A 7, A 10, A 11, A 13] : List Nat)) s.heap H locs ∧ lv_has ls 7 [(4, .int (nI f)), (3, .int (nI 0)), (0, .ref (A 0)), (1, .double r)]) 8 0 ⟨_, _, _, _, _, _, rfl, (fun i hi => mix_lt hi), (fun i hi => (hk0.2.2.2 i hi).up (by decide)), trivial, trivial, trivial, hP, hS, lv_sub hl [0, 1, 2, 3] rfl⟩ (Nat.zero_le _) ?_ ?_
    ·
      intro f h_f ih H locs ls ⟨z, Z1, A1, D1, R1, M1, himp, hz, hzb, _h1, _h2, _h3, hP, hS, hl⟩
      refine lv_iload hx hb dX7_implicit_33 (lv_at hl 0 rfl) ?_
      refine lv_bipush (v := nI 8) hx hb dX7_implicit_35 (by decide) ?_
      refine lv_icmp_ge (tgt := 289) hx hb dX7_implicit_37 (by decide) (fun c_37 => absurd c_37 (nI_ge h_f (by omega))) (fun c_37 => ?_)
      refine lv_iload_n hx hb dX7_implicit_40 rfl (lv_at hl 1 rfl) ?_
      refine lv_if_ne (tgt := 289) hx hb dX7_implicit_41 (by decide) (fun c_41 => (c_41 (by decide)).elim) (fun c_41 => ?_)
      refine lv_aload_n hx hb dX7_implicit_44 rfl (lv_at hl 2 rfl) ?_
      refine xpc (q := 45) rfl ?_
      refine gX7 hx hb hg hown hI hP 0 rfl 13 rfl mF_X7_149 rfl dX7_implicit_45 ?_
      refine lv_if_ne (tgt := 289) hx hb dX7_implicit_48 (by decide) (fun c_48 => (c_48 (by decide)).elim) (fun c_48 => ?_)
      have hk : okim σ (FP.dadd t r) r y z := ⟨hk0.1, he0, hk0.2.2.1, hk0.2.2.2, hzb⟩
      refine lv_aload_n hx hb dX7_implicit_51 rfl (lv_at hl 2 rfl) ?_
      refine lv_aload_n hx hb dX7_implicit_52 rfl (lv_at hl 2 rfl) ?_
      refine gX7 hx hb hg hown hI hP 0 rfl 7 rfl mF_X7_98 rfl dX7_implicit_53 ?_
      refine lv_dload_n hx hb dX7_implicit_56 rfl (lv_at hl 3 rfl) ?_
      refine lv_dadd hx hb dX7_implicit_57 he0.nn ?_
      refine lv_aload_n hx hb dX7_implicit_58 rfl (lv_at hl 2 rfl) ?_
      refine gX7 hx hb hg hown hI hP 0 rfl 11 rfl mF_X7_39 rfl dX7_implicit_59 ?_
      refine lv_aload_n hx hb dX7_implicit_62 rfl (lv_at hl 2 rfl) ?_
      refine gX7 hx hb hg hown hI hP 0 rfl 14 rfl mF_X7_42 rfl dX7_implicit_63 ?_
      refine xcv (xV (As := [.double (FP.dadd t r), .ref (A 6), .ref (A 7)]) (rest := []) hx hb hml hown hg (r_derive l D cD cI cM cL A σ th t sh tl er (nI 0) kp ks tk tz sp wd lv dn rf ev (A 6) (A 7) (FP.dadd t r) Z1 A1 30 hk0.1 (he0.up (by decide)) (fun i hi => by rw [hz i hi]; exact hzb i hi) (by decide)) mM_X7_101 ok_X7_derive rfl rfl ⟨Nat.le_of_ble_eq_true rfl, Nat.le_of_ble_eq_true rfl⟩ hI hP hd rfl [0, 1, 2, 3, 4, 6, 7] rfl rfl rfl rfl rfl hl.1 rfl (Nat.le_of_ble_eq_true rfl) dX7_implicit_66 ⟨Nat.zero_le _, Nat.zero_le _⟩) hP hd hS (fa1 (pmS (pmS pm0)) fa0) [7] rfl rfl (fun _ => rfl) (fun _u H locs hu hP hS => ?_)
      have hP : va_P D vwCl [(A 0, mO A th (nI (sn σ)) (nI (sc σ)) t sh tl er (nI 0) kp ks tk tz sp wd lv dn rf ev), (A 1, iA cI 10 (so σ)), (A 2, iA cI 10 (sl σ)), (A 3, iA cI 10 (sr σ)), (A 4, dA cD 10 (sk σ)), (A 5, dA cD 3 y), (A 6, dA cD 3 Z1), (A 7, dA cD 3 (mix (sn σ) (fs σ (FP.dadd t r) Z1) A1)), (A 10, dA cD 3 D1), (A 11, dA cD 3 R1), (A 13, dA cD 9 M1)] H := hP
      have hP : va_P D vwCl [(A 0, mO A th (nI (sn σ)) (nI (sc σ)) t sh tl er (nI 0) kp ks tk tz sp wd lv dn rf ev), (A 1, iA cI 10 (so σ)), (A 2, iA cI 10 (sl σ)), (A 3, iA cI 10 (sr σ)), (A 4, dA cD 10 (sk σ)), (A 5, dA cD 3 y), (A 6, dA cD 3 Z1), (A 7, dA cD 3 (mix (sn σ) (fs σ (FP.dadd t r) z) A1)), (A 10, dA cD 3 D1), (A 11, dA cD 3 R1), (A 13, dA cD 9 M1)] H := by rw [← fs_ag (σ := σ) (t := (FP.dadd t r)) (y := Z1) (y' := z) hn hz]; exact hP
      refine lv_iconst (v := nI 0) hx hb dX7_implicit_69 (by decide) ?_
      refine lv_istore (lv' := [(5, .int (nI 0)), (4, .int (nI f)), (3, .int (nI 0)), (0, .ref (A 0)), (1, .double r)]) hx hb dX7_implicit_70 hl (by decide) rfl (fun ls hl => ?_)
      refine xfor (I := fun i H locs ls => ∃ (f' : Nat → UInt64) (M2 : Nat → UInt64), (f' = mix i (srG σ (FP.dadd t r) r y z) R1) ∧ (∀ a b, a < (sn σ) → b < (sn σ) → a < i → M2 (3 * a + b) = smG σ (FP.dadd t r) r z a b) ∧ va_P D vwCl [(A 0, mO A th (nI (sn σ)) (nI (sc σ)) t sh tl er (nI 0) kp ks tk tz sp wd lv dn rf ev), (A 1, iA cI 10 (so σ)), (A 2, iA cI 10 (sl σ)), (A 3, iA cI 10 (sr σ)), (A 4, dA cD 10 (sk σ)), (A 5, dA cD 3 y), (A 6, dA cD 3 Z1), (A 7, dA cD 3 (mix (sn σ) (fs σ (FP.dadd t r) z) A1)), (A 10, dA cD 3 D1), (A 11, dA cD 3 f'), (A 13, dA cD 9 M2)] H ∧ va_S (fun q => q ∈ ([A 0, A 6, A 7, A 10, A 11, A 13] : List Nat)) s.heap H locs ∧ lv_has ls 7 [(5, .int (nI i)), (4, .int (nI f)), (3, .int (nI 0)), (0, .ref (A 0)), (1, .double r)]) (sn σ) 0 ⟨_, _, (mix_0 _ _).symm, (fun a b ha hb h => absurd h (Nat.not_lt_zero _)), hP, hS, lv_sub hl [0, 1, 2, 3, 4] rfl⟩ (Nat.zero_le _) ?_ ?_
      ·
        intro i h_i ih2 H locs ls ⟨f', M2, hf, hm2, hP, hS, hl⟩
        refine lv_iload hx hb dX7_implicit_72 (lv_at hl 0 rfl) ?_
        refine lv_aload_n hx hb dX7_implicit_74 rfl (lv_at hl 3 rfl) ?_
        refine gX7 hx hb hg hown hI hP 0 rfl 1 rfl mF_X7_7 rfl dX7_implicit_75 ?_
        refine lv_icmp_ge (tgt := 182) hx hb dX7_implicit_78 (by decide) (fun c_78 => absurd c_78 (nI_ge h_i (by omega))) (fun c_78 => ?_)
        refine xpc (q := 81) rfl ?_
        refine lv_aload_n hx hb dX7_implicit_81 rfl (lv_at hl 3 rfl) ?_
        refine gX7 hx hb hg hown hI hP 0 rfl 18 rfl mF_X7_54 rfl dX7_implicit_82 ?_
        refine lv_iload hx hb dX7_implicit_85 (lv_at hl 0 rfl) ?_
        refine lv_aload_n hx hb dX7_implicit_87 rfl (lv_at hl 3 rfl) ?_
        refine gX7 hx hb hg hown hI hP 0 rfl 11 rfl mF_X7_39 rfl dX7_implicit_88 ?_
        refine lv_iload hx hb dX7_implicit_91 (lv_at hl 0 rfl) ?_
        refine xdald hx hb hI hP 6 0 rfl rfl (Nat.lt_of_lt_of_le h_i hn) (by decide) dX7_implicit_93 ?_
        refine xeqd (y := z i) (hz i h_i) ?_
        refine lv_aload_n hx hb dX7_implicit_94 rfl (lv_at hl 3 rfl) ?_
        refine gX7 hx hb hg hown hI hP 0 rfl 10 rfl mF_X7_36 rfl dX7_implicit_95 ?_
        refine lv_iload hx hb dX7_implicit_98 (lv_at hl 0 rfl) ?_
        refine xdald hx hb hI hP 5 0 rfl rfl (Nat.lt_of_lt_of_le h_i hn) (by decide) dX7_implicit_100 ?_
        have b1 : bd 1 31 (FP.dsub (z i) (y i)) := bd_sub (hzb i h_i) (hk0.2.2.2 i h_i) (by decide) (by decide) (by decide)
        refine lv_dsub hx hb dX7_implicit_101 b1.nn ?_
        refine lv_dload_n hx hb dX7_implicit_102 rfl (lv_at hl 4 rfl) ?_
        refine lv_aload_n hx hb dX7_implicit_103 rfl (lv_at hl 3 rfl) ?_
        refine xpc (q := 104) rfl ?_
        refine gX7 hx hb hg hown hI hP 0 rfl 14 rfl mF_X7_42 rfl dX7_implicit_104 ?_
        refine lv_iload hx hb dX7_implicit_107 (lv_at hl 0 rfl) ?_
        refine xdald hx hb hI hP 7 0 rfl rfl (Nat.lt_of_lt_of_le h_i hn) (by decide) dX7_implicit_109 ?_
        refine xeqd (y := (fs σ (FP.dadd t r) z) i) (mix_lt h_i) ?_
        have b2 : bd 1 72 (FP.dmul r ((fs σ (FP.dadd t r) z) i)) := bd_mul hk0.2.2.1 (imf_bd (i := i) hk) (by decide) (by decide)
        refine lv_dmul hx hb dX7_implicit_110 b2.nn ?_
        have b3 : bd 1 73 (FP.dsub (FP.dsub (z i) (y i)) (FP.dmul r ((fs σ (FP.dadd t r) z) i))) := bd_sub b1 b2 (by decide) (by decide) (by decide)
        refine lv_dsub hx hb dX7_implicit_111 b3.nn ?_
        refine xdast hx hb hI hP hd rfl hS 9 0 rfl rfl (Nat.lt_of_lt_of_le h_i hn) (by decide) (pmS (pmS (pmS (pmS pm0)))) dX7_implicit_112 (fun H locs hP hS => ?_)
        have hP : va_P D vwCl [(A 0, mO A th (nI (sn σ)) (nI (sc σ)) t sh tl er (nI 0) kp ks tk tz sp wd lv dn rf ev), (A 1, iA cI 10 (so σ)), (A 2, iA cI 10 (sl σ)), (A 3, iA cI 10 (sr σ)), (A 4, dA cD 10 (sk σ)), (A 5, dA cD 3 y), (A 6, dA cD 3 Z1), (A 7, dA cD 3 (mix (sn σ) (fs σ (FP.dadd t r) z) A1)), (A 10, dA cD 3 D1), (A 11, dA cD 3 (vf_upd f' i (FP.dsub (FP.dsub (z i) (y i)) (FP.dmul r ((fs σ (FP.dadd t r) z) i))))), (A 13, dA cD 9 M2)] H := hP
        refine lv_iconst (v := nI 0) hx hb dX7_implicit_113 (by decide) ?_
        refine lv_istore (lv' := [(6, .int (nI 0)), (5, .int (nI i)), (4, .int (nI f)), (3, .int (nI 0)), (0, .ref (A 0)), (1, .double r)]) hx hb dX7_implicit_114 hl (by decide) rfl (fun ls hl => ?_)
        refine xfor (I := fun j H locs ls => ∃ (M3 : Nat → UInt64), (∀ a b, a < (sn σ) → b < (sn σ) → (a < i ∨ a = i ∧ b < j) → M3 (3 * a + b) = smG σ (FP.dadd t r) r z a b) ∧ va_P D vwCl [(A 0, mO A th (nI (sn σ)) (nI (sc σ)) t sh tl er (nI 0) kp ks tk tz sp wd lv dn rf ev), (A 1, iA cI 10 (so σ)), (A 2, iA cI 10 (sl σ)), (A 3, iA cI 10 (sr σ)), (A 4, dA cD 10 (sk σ)), (A 5, dA cD 3 y), (A 6, dA cD 3 Z1), (A 7, dA cD 3 (mix (sn σ) (fs σ (FP.dadd t r) z) A1)), (A 10, dA cD 3 D1), (A 11, dA cD 3 (vf_upd f' i (FP.dsub (FP.dsub (z i) (y i)) (FP.dmul r ((fs σ (FP.dadd t r) z) i))))), (A 13, dA cD 9 M3)] H ∧ va_S (fun q => q ∈ ([A 0, A 6, A 7, A 10, A 11, A 13] : List Nat)) s.heap H locs ∧ lv_has ls 7 [(6, .int (nI j)), (5, .int (nI i)), (4, .int (nI f)), (3, .int (nI 0)), (0, .ref (A 0)), (1, .double r)]) (sn σ) 0 ⟨_, (fun a b ha hb h => hm2 a b ha hb (by omega)), hP, hS, lv_sub hl [0, 1, 2, 3, 4, 5] rfl⟩ (Nat.zero_le _) ?_ ?_
        ·
          intro j h_j ih3 H locs ls ⟨M3, hm3, hP, hS, hl⟩
          refine lv_iload hx hb dX7_implicit_116 (lv_at hl 0 rfl) ?_
          refine lv_aload_n hx hb dX7_implicit_118 rfl (lv_at hl 4 rfl) ?_
          refine gX7 hx hb hg hown hI hP 0 rfl 1 rfl mF_X7_7 rfl dX7_implicit_119 ?_
          refine lv_icmp_ge (tgt := 176) hx hb dX7_implicit_122 (by decide) (fun c_122 => absurd c_122 (nI_ge h_j (by omega))) (fun c_122 => ?_)
          refine lv_aload_n hx hb dX7_implicit_125 rfl (lv_at hl 4 rfl) ?_
          refine gX7 hx hb hg hown hI hP 0 rfl 20 rfl mF_X7_60 rfl dX7_implicit_126 ?_
          refine lv_iconst (v := nI 3) hx hb dX7_implicit_129 (by decide) ?_
          refine xpc (q := 130) rfl ?_
          refine lv_iload hx hb dX7_implicit_130 (lv_at hl 1 rfl) ?_
          refine lv_imul hx hb dX7_implicit_132 ?_
          refine xeqi (y := nI (3 * i)) (pk_mul 3 i) ?_
          refine lv_iload hx hb dX7_implicit_133 (lv_at hl 0 rfl) ?_
          refine lv_iadd hx hb dX7_implicit_135 ?_
          refine xeqi (y := nI ((3 * i) + j)) (nI_add (3 * i) j) ?_
          refine lv_iload hx hb dX7_implicit_136 (lv_at hl 1 rfl) ?_
          refine lv_iload hx hb dX7_implicit_138 (lv_at hl 0 rfl) ?_
          refine lv_icmp_ne (tgt := 147) hx hb dX7_implicit_140 (by decide) (fun c_140 => ?_) (fun c_140 => ?_)
          ·
            refine lv_dconst0 hx hb dX7_implicit_147 ?_
            refine lv_dload_n hx hb dX7_implicit_148 rfl (lv_at hl 5 rfl) ?_
            refine lv_aload_n hx hb dX7_implicit_149 rfl (lv_at hl 4 rfl) ?_
            refine lv_iload hx hb dX7_implicit_150 (lv_at hl 1 rfl) ?_
            refine lv_iload hx hb dX7_implicit_152 (lv_at hl 0 rfl) ?_
            refine lv_aload_n hx hb dX7_implicit_154 rfl (lv_at hl 4 rfl) ?_
            refine gX7 hx hb hg hown hI hP 0 rfl 7 rfl mF_X7_98 rfl dX7_implicit_155 ?_
            refine lv_dload_n hx hb dX7_implicit_158 rfl (lv_at hl 5 rfl) ?_
            refine lv_dadd hx hb dX7_implicit_159 he0.nn ?_
            refine lv_aload_n hx hb dX7_implicit_160 rfl (lv_at hl 4 rfl) ?_
            refine gX7 hx hb hg hown hI hP 0 rfl 11 rfl mF_X7_39 rfl dX7_implicit_161 ?_
            refine xcd (xV (As := [.int (nI i), .int (nI j), .double (FP.dadd t r), .ref (A 6)]) (rest := [.double r, .double FP.dconst0, .int (nI ((3 * i) + j)), .ref (A 13)]) hx hb hml hown hg (r_slope l D cD cI cM cL A σ th t sh tl er (nI 0) kp ks tk tz sp wd lv dn rf ev (A 6) i j (FP.dadd t r) Z1 30 hk0.1 (he0.up (by decide)) (fun i hi => by rw [hz i hi]; exact hzb i hi) (by decide)) mM_X7_152 ok_X7_slope rfl rfl ⟨Nat.le_of_ble_eq_true rfl, Nat.le_of_ble_eq_true rfl⟩ hI hP hd rfl [0, 1, 2, 3, 4, 6] rfl rfl rfl rfl rfl hl.1 rfl (Nat.le_of_ble_eq_true rfl) dX7_implicit_164 ⟨Nat.zero_le _, Nat.zero_le _⟩) hP hd hS fa0 [] rfl rfl (fun _ => rfl) (fun _u H locs hu hP hS => ?_)
            have hP : va_P D vwCl [(A 0, mO A th (nI (sn σ)) (nI (sc σ)) t sh tl er (nI 0) kp ks tk tz sp wd lv dn rf ev), (A 1, iA cI 10 (so σ)), (A 2, iA cI 10 (sl σ)), (A 3, iA cI 10 (sr σ)), (A 4, dA cD 10 (sk σ)), (A 5, dA cD 3 y), (A 6, dA cD 3 Z1), (A 7, dA cD 3 (mix (sn σ) (fs σ (FP.dadd t r) z) A1)), (A 10, dA cD 3 D1), (A 11, dA cD 3 (vf_upd f' i (FP.dsub (FP.dsub (z i) (y i)) (FP.dmul r ((fs σ (FP.dadd t r) z) i))))), (A 13, dA cD 9 M3)] H := hP
            refine xeqd (y := js σ (FP.dadd t r) z i j) (js_ag hn hz) ?_
            refine lv_dmul hx hb dX7_implicit_167 ((sm1_bd (i := i) (j := j) hk).nn) ?_
            have hsm := sm_bd (i := i) (j := j) hk
            unfold smG at hsm
            rw [if_neg (fun h => c_140 (by rw [h]))] at hsm
            refine lv_dsub hx hb dX7_implicit_168 hsm.nn ?_
            refine xdast hx hb hI hP hd rfl hS 10 0 rfl rfl (by omega) (by decide) (pmS (pmS (pmS (pmS (pmS pm0))))) dX7_implicit_169 (fun H locs hP hS => ?_)
            have hP : va_P D vwCl [(A 0, mO A th (nI (sn σ)) (nI (sc σ)) t sh tl er (nI 0) kp ks tk tz sp wd lv dn rf ev), (A 1, iA cI 10 (so σ)), (A 2, iA cI 10 (sl σ)), (A 3, iA cI 10 (sr σ)), (A 4, dA cD 10 (sk σ)), (A 5, dA cD 3 y), (A 6, dA cD 3 Z1), (A 7, dA cD 3 (mix (sn σ) (fs σ (FP.dadd t r) z) A1)), (A 10, dA cD 3 D1), (A 11, dA cD 3 (vf_upd f' i (FP.dsub (FP.dsub (z i) (y i)) (FP.dmul r ((fs σ (FP.dadd t r) z) i))))), (A 13, dA cD 9 (vf_upd M3 ((3 * i) + j) (FP.dsub FP.dconst0 (FP.dmul r (js σ (FP.dadd t r) z i j)))))] H := hP
            refine lv_iinc (v := nI (j + 1)) (lv' := [(6, .int (nI (j + 1))), (5, .int (nI i)), (4, .int (nI f)), (3, .int (nI 0)), (0, .ref (A 0)), (1, .double r)]) hx hb dX7_implicit_170 hl (k := 0) rfl (nI_1 j) (by decide) rfl (fun ls hl => ?_)
            refine lv_goto (tgt := 116) hx hb dX7_implicit_173 (by decide) ?_
            have hm' : ∀ a b, a < (sn σ) → b < (sn σ) → (a < i ∨ a = i ∧ b < j + 1) → vf_upd M3 (3 * i + j) (FP.dsub FP.dconst0 (FP.dmul r (js σ (FP.dadd t r) z i j))) (3 * a + b) = smG σ (FP.dadd t r) r z a b := by
              intro a b ha hb h
              by_cases h2 : a = i ∧ b = j
              · rw [h2.1, h2.2, fl_s]
                unfold smG
                rw [if_neg (fun h => c_140 (by rw [h]))]
              · rw [fl_n h2 (by omega) (by omega)]
                exact hm3 a b ha hb (by omega)
            exact ih3 _ _ _ ⟨_, hm', hP, hS, lv_sub hl [0, 1, 2, 3, 4, 5] rfl⟩
          ·
            have hij : i = j := (nI_eq (by omega) (by omega)).mp c_140
            refine lv_dconst1 hx hb dX7_implicit_143 ?_
            refine lv_goto (tgt := 148) hx hb dX7_implicit_144 (by decide) ?_
            refine lv_dload_n hx hb dX7_implicit_148 rfl (lv_at hl 5 rfl) ?_
            refine lv_aload_n hx hb dX7_implicit_149 rfl (lv_at hl 4 rfl) ?_
            refine lv_iload hx hb dX7_implicit_150 (lv_at hl 1 rfl) ?_
            refine lv_iload hx hb dX7_implicit_152 (lv_at hl 0 rfl) ?_
            refine lv_aload_n hx hb dX7_implicit_154 rfl (lv_at hl 4 rfl) ?_
            refine gX7 hx hb hg hown hI hP 0 rfl 7 rfl mF_X7_98 rfl dX7_implicit_155 ?_
            refine xpc (q := 158) rfl ?_
            refine lv_dload_n hx hb dX7_implicit_158 rfl (lv_at hl 5 rfl) ?_
            refine lv_dadd hx hb dX7_implicit_159 he0.nn ?_
            refine lv_aload_n hx hb dX7_implicit_160 rfl (lv_at hl 4 rfl) ?_
            refine gX7 hx hb hg hown hI hP 0 rfl 11 rfl mF_X7_39 rfl dX7_implicit_161 ?_
            refine xcd (xV (As := [.int (nI i), .int (nI j), .double (FP.dadd t r), .ref (A 6)]) (rest := [.double r, .double FP.dconst1, .int (nI ((3 * i) + j)), .ref (A 13)]) hx hb hml hown hg (r_slope l D cD cI cM cL A σ th t sh tl er (nI 0) kp ks tk tz sp wd lv dn rf ev (A 6) i j (FP.dadd t r) Z1 30 hk0.1 (he0.up (by decide)) (fun i hi => by rw [hz i hi]; exact hzb i hi) (by decide)) mM_X7_152 ok_X7_slope rfl rfl ⟨Nat.le_of_ble_eq_true rfl, Nat.le_of_ble_eq_true rfl⟩ hI hP hd rfl [0, 1, 2, 3, 4, 6] rfl rfl rfl rfl rfl hl.1 rfl (Nat.le_of_ble_eq_true rfl) dX7_implicit_164 ⟨Nat.zero_le _, Nat.zero_le _⟩) hP hd hS fa0 [] rfl rfl (fun _ => rfl) (fun _u H locs hu hP hS => ?_)
            have hP : va_P D vwCl [(A 0, mO A th (nI (sn σ)) (nI (sc σ)) t sh tl er (nI 0) kp ks tk tz sp wd lv dn rf ev), (A 1, iA cI 10 (so σ)), (A 2, iA cI 10 (sl σ)), (A 3, iA cI 10 (sr σ)), (A 4, dA cD 10 (sk σ)), (A 5, dA cD 3 y), (A 6, dA cD 3 Z1), (A 7, dA cD 3 (mix (sn σ) (fs σ (FP.dadd t r) z) A1)), (A 10, dA cD 3 D1), (A 11, dA cD 3 (vf_upd f' i (FP.dsub (FP.dsub (z i) (y i)) (FP.dmul r ((fs σ (FP.dadd t r) z) i))))), (A 13, dA cD 9 M3)] H := hP
            refine xeqd (y := js σ (FP.dadd t r) z i j) (js_ag hn hz) ?_
            refine lv_dmul hx hb dX7_implicit_167 ((sm1_bd (i := i) (j := j) hk).nn) ?_
            have hsm := sm_bd (i := i) (j := j) hk
            unfold smG at hsm
            rw [if_pos hij] at hsm
            refine lv_dsub hx hb dX7_implicit_168 hsm.nn ?_
            refine xdast hx hb hI hP hd rfl hS 10 0 rfl rfl (by omega) (by decide) (pmS (pmS (pmS (pmS (pmS pm0))))) dX7_implicit_169 (fun H locs hP hS => ?_)
            have hP : va_P D vwCl [(A 0, mO A th (nI (sn σ)) (nI (sc σ)) t sh tl er (nI 0) kp ks tk tz sp wd lv dn rf ev), (A 1, iA cI 10 (so σ)), (A 2, iA cI 10 (sl σ)), (A 3, iA cI 10 (sr σ)), (A 4, dA cD 10 (sk σ)), (A 5, dA cD 3 y), (A 6, dA cD 3 Z1), (A 7, dA cD 3 (mix (sn σ) (fs σ (FP.dadd t r) z) A1)), (A 10, dA cD 3 D1), (A 11, dA cD 3 (vf_upd f' i (FP.dsub (FP.dsub (z i) (y i)) (FP.dmul r ((fs σ (FP.dadd t r) z) i))))), (A 13, dA cD 9 (vf_upd M3 ((3 * i) + j) (FP.dsub FP.dconst1 (FP.dmul r (js σ (FP.dadd t r) z i j)))))] H := hP
            refine lv_iinc (v := nI (j + 1)) (lv' := [(6, .int (nI (j + 1))), (5, .int (nI i)), (4, .int (nI f)), (3, .int (nI 0)), (0, .ref (A 0)), (1, .double r)]) hx hb dX7_implicit_170 hl (k := 0) rfl (nI_1 j) (by decide) rfl (fun ls hl => ?_)
            refine lv_goto (tgt := 116) hx hb dX7_implicit_173 (by decide) ?_
            have hm' : ∀ a b, a < (sn σ) → b < (sn σ) → (a < i ∨ a = i ∧ b < j + 1) → vf_upd M3 (3 * i + j) (FP.dsub FP.dconst1 (FP.dmul r (js σ (FP.dadd t r) z i j))) (3 * a + b) = smG σ (FP.dadd t r) r z a b := by
              intro a b ha hb h
              by_cases h2 : a = i ∧ b = j
              · rw [h2.1, h2.2, fl_s]
                unfold smG
                rw [if_pos hij]
              · rw [fl_n h2 (by omega) (by omega)]
                exact hm3 a b ha hb (by omega)
            exact ih3 _ _ _ ⟨_, hm', hP, hS, lv_sub hl [0, 1, 2, 3, 4, 5] rfl⟩
        ·
          intro H locs ls ⟨M3, hm3, hP, hS, hl⟩
          refine lv_iload hx hb dX7_implicit_116 (lv_at hl 0 rfl) ?_
          refine lv_aload_n hx hb dX7_implicit_118 rfl (lv_at hl 4 rfl) ?_
          refine gX7 hx hb hg hown hI hP 0 rfl 1 rfl mF_X7_7 rfl dX7_implicit_119 ?_
          refine lv_icmp_ge (tgt := 176) hx hb dX7_implicit_122 (by decide) (fun c_122 => ?_) (fun c_122 => absurd (Int32.le_refl _) c_122)
          refine lv_iinc (v := nI (i + 1)) (lv' := [(5, .int (nI (i + 1))), (6, .int (nI (sn σ))), (4, .int (nI f)), (3, .int (nI 0)), (0, .ref (A 0)), (1, .double r)]) hx hb dX7_implicit_176 hl (k := 1) rfl (nI_1 i) (by decide) rfl (fun ls hl => ?_)
          refine lv_goto (tgt := 72) hx hb dX7_implicit_179 (by decide) ?_
          exact ih2 _ _ _ ⟨_, _, mix_s hf rfl, (fun a b ha hb h => hm3 a b ha hb (by omega)), hP, hS, lv_sub hl [0, 2, 3, 4, 5] rfl⟩
      ·
        intro H locs ls ⟨f', M2, hf, hm2, hP, hS, hl⟩
        refine lv_iload hx hb dX7_implicit_72 (lv_at hl 0 rfl) ?_
        refine lv_aload_n hx hb dX7_implicit_74 rfl (lv_at hl 3 rfl) ?_
        refine gX7 hx hb hg hown hI hP 0 rfl 1 rfl mF_X7_7 rfl dX7_implicit_75 ?_
        refine lv_icmp_ge (tgt := 182) hx hb dX7_implicit_78 (by decide) (fun c_78 => ?_) (fun c_78 => absurd (Int32.le_refl _) c_78)
        subst hf
        have hbm : bM (sn σ) 44 73 (smG σ (FP.dadd t r) r z) (srG σ (FP.dadd t r) r y z) := ⟨fun i j _ _ => sm_bd hk, fun i hi => sr_bd hk hi⟩
        refine xpc (q := 182) rfl ?_
        refine lv_aload_n hx hb dX7_implicit_182 rfl (lv_at hl 3 rfl) ?_
        refine xcv (xV (As := []) (rest := []) hx hb hml hown hg (r_solve l D cD cI cM cL A σ th t sh tl er (nI 0) kp ks tk tz sp wd lv dn rf ev (smG σ (FP.dadd t r) r z) (srG σ (FP.dadd t r) r y z) D1 (mix (sn σ) (srG σ (FP.dadd t r) r y z) R1) M2 hn (fun i j hi hj => hm2 i j hi hj hi) (fun i hi => mix_lt hi) hbm) mM_X7_156 ok_X7_solve rfl rfl ⟨Nat.le_of_ble_eq_true rfl, Nat.le_of_ble_eq_true rfl⟩ hI hP hd rfl [0, 8, 9, 10] rfl rfl rfl rfl rfl hl.1 rfl (Nat.le_of_ble_eq_true rfl) dX7_implicit_183 ⟨Nat.zero_le _, Nat.zero_le _⟩) hP hd hS (fa1 pm0 (fa1 (pmS (pmS (pmS pm0))) (fa1 (pmS (pmS (pmS (pmS pm0)))) (fa1 (pmS (pmS (pmS (pmS (pmS pm0))))) fa0)))) [0, 8, 9, 10] rfl rfl (fun _ => rfl) (fun u3 H locs hu hP hS => ?_)
        have hu3 := hu
        have hP : va_P D vwCl [(A 0, mO A th (nI (sn σ)) (nI (sc σ)) t sh tl er (bI (elm (sn σ) (smG σ (FP.dadd t r) r z) (srG σ (FP.dadd t r) r y z) (sn σ)).isNone) kp ks tk tz sp wd lv dn rf ev), (A 1, iA cI 10 (so σ)), (A 2, iA cI 10 (sl σ)), (A 3, iA cI 10 (sr σ)), (A 4, dA cD 10 (sk σ)), (A 5, dA cD 3 y), (A 6, dA cD 3 Z1), (A 7, dA cD 3 (mix (sn σ) (fs σ (FP.dadd t r) z) A1)), (A 10, dA cD 3 u3.2.2), (A 11, dA cD 3 u3.2.1), (A 13, dA cD 9 u3.1)] H := hP
        refine lv_aload_n hx hb dX7_implicit_186 rfl (lv_at hl 3 rfl) ?_
        refine gX7 hx hb hg hown hI hP 0 rfl 13 rfl mF_X7_149 rfl dX7_implicit_187 ?_
        refine lv_if_eq (tgt := 194) hx hb dX7_implicit_190 (by decide) (fun c_190 => ?_) (fun c_190 => ?_)
        ·
          obtain ⟨q, hq⟩ : ∃ q, elm (sn σ) (smG σ (FP.dadd t r) r z) (srG σ (FP.dadd t r) r y z) (sn σ) = some q := by cases h : elm (sn σ) (smG σ (FP.dadd t r) r z) (srG σ (FP.dadd t r) r y z) (sn σ) with | some q => exact ⟨q, rfl⟩ | none => rw [h] at c_190; exact absurd c_190 (by decide)
          have hu4 := hu3 q hq
          have hP : va_P D vwCl [(A 0, mO A th (nI (sn σ)) (nI (sc σ)) t sh tl er (nI 0) kp ks tk tz sp wd lv dn rf ev), (A 1, iA cI 10 (so σ)), (A 2, iA cI 10 (sl σ)), (A 3, iA cI 10 (sr σ)), (A 4, dA cD 10 (sk σ)), (A 5, dA cD 3 y), (A 6, dA cD 3 Z1), (A 7, dA cD 3 (mix (sn σ) (fs σ (FP.dadd t r) z) A1)), (A 10, dA cD 3 u3.2.2), (A 11, dA cD 3 u3.2.1), (A 13, dA cD 9 u3.1)] H := by rw [hq] at hP; exact hP
          obtain ⟨hqb, hql⟩ := elm_bd hbm hn (sn σ) q (Nat.le_refl _) hq
          have hqb : bM (sn σ) 269 298 q.1 q.2 := hqb.up hn
          have hdb := fun i (hi : i < sn σ) => (((sbd_bd hqb hql hn (sn σ) (Nat.le_refl _)).1 i (by omega) hi).up (show db (sn σ - 1) ≤ 931 by rcases (show sn σ = 1 ∨ sn σ = 2 ∨ sn σ = 3 by have := hk0.1.1; omega) with h | h | h <;> rw [h] <;> decide))
          have hzb2 : ∀ i, i < sn σ → bd 1 932 (zsb z (sbd q.1 q.2 (sn σ) (sn σ)) i) := fun i hi => bd_sub (hzb i hi) (hdb i hi) (by decide) (by decide) (by decide)
          have hfd : fin (mxv (sbd q.1 q.2 (sn σ) (sn σ)) (sn σ)) := (mxv_spec (fun i hi => (hdb i hi).1) (sn σ) (Nat.le_refl _)).1
          refine lv_iconst (v := nI 0) hx hb dX7_implicit_194 (by decide) ?_
          refine lv_istore (lv' := [(5, .int (nI 0)), (4, .int (nI f)), (3, .int (nI 0)), (0, .ref (A 0)), (1, .double r)]) hx hb dX7_implicit_195 hl (by decide) rfl (fun ls hl => ?_)
          refine xfor (I := fun i H locs ls => ∃ (f' : Nat → UInt64), (f' = mix i (zsb z (sbd q.1 q.2 (sn σ) (sn σ))) Z1) ∧ va_P D vwCl [(A 0, mO A th (nI (sn σ)) (nI (sc σ)) t sh tl er (nI 0) kp ks tk tz sp wd lv dn rf ev), (A 1, iA cI 10 (so σ)), (A 2, iA cI 10 (sl σ)), (A 3, iA cI 10 (sr σ)), (A 4, dA cD 10 (sk σ)), (A 5, dA cD 3 y), (A 6, dA cD 3 f'), (A 7, dA cD 3 (mix (sn σ) (fs σ (FP.dadd t r) z) A1)), (A 10, dA cD 3 u3.2.2), (A 11, dA cD 3 u3.2.1), (A 13, dA cD 9 u3.1)] H ∧ va_S (fun q => q ∈ ([A 0, A 6, A 7, A 10, A 11, A 13] : List Nat)) s.heap H locs ∧ lv_has ls 7 [(5, .int (nI i)), (4, .int (nI f)), (3, .int (nI 0)), (0, .ref (A 0)), (1, .double r)]) (sn σ) 0 ⟨_, (mix_0 _ _).symm, hP, hS, lv_sub hl [0, 1, 2, 3, 4] rfl⟩ (Nat.zero_le _) ?_ ?_
          ·
            intro i h_i ih4 H locs ls ⟨f', hf, hP, hS, hl⟩
            refine lv_iload hx hb dX7_implicit_197 (lv_at hl 0 rfl) ?_
            refine lv_aload_n hx hb dX7_implicit_199 rfl (lv_at hl 3 rfl) ?_
            refine gX7 hx hb hg hown hI hP 0 rfl 1 rfl mF_X7_7 rfl dX7_implicit_200 ?_
            refine lv_icmp_ge (tgt := 234) hx hb dX7_implicit_203 (by decide) (fun c_203 => absurd c_203 (nI_ge h_i (by omega))) (fun c_203 => ?_)
            refine lv_aload_n hx hb dX7_implicit_206 rfl (lv_at hl 3 rfl) ?_
            refine gX7 hx hb hg hown hI hP 0 rfl 11 rfl mF_X7_39 rfl dX7_implicit_207 ?_
            refine lv_iload hx hb dX7_implicit_210 (lv_at hl 0 rfl) ?_
            refine lv_aload_n hx hb dX7_implicit_212 rfl (lv_at hl 3 rfl) ?_
            refine gX7 hx hb hg hown hI hP 0 rfl 11 rfl mF_X7_39 rfl dX7_implicit_213 ?_
            refine lv_iload hx hb dX7_implicit_216 (lv_at hl 0 rfl) ?_
            refine xdald hx hb hI hP 6 0 rfl rfl (Nat.lt_of_lt_of_le h_i hn) (by decide) dX7_implicit_218 ?_
            refine xeqd (y := z i) (show f' i = z i by rw [hf, mix_ge (Nat.le_refl _)]; exact hz i h_i) ?_
            refine lv_aload_n hx hb dX7_implicit_219 rfl (lv_at hl 3 rfl) ?_
            refine xpc (q := 220) rfl ?_
            refine gX7 hx hb hg hown hI hP 0 rfl 17 rfl mF_X7_51 rfl dX7_implicit_220 ?_
            refine lv_iload hx hb dX7_implicit_223 (lv_at hl 0 rfl) ?_
            refine xdald hx hb hI hP 8 0 rfl rfl (Nat.lt_of_lt_of_le h_i hn) (by decide) dX7_implicit_225 ?_
            refine xeqd (y := (sbd q.1 q.2 (sn σ) (sn σ)) i) (hu4 i h_i) ?_
            refine lv_dsub hx hb dX7_implicit_226 ((hzb2 i h_i).nn) ?_
            refine xdast hx hb hI hP hd rfl hS 6 0 rfl rfl (Nat.lt_of_lt_of_le h_i hn) (by decide) (pmS pm0) dX7_implicit_227 (fun H locs hP hS => ?_)
            have hP : va_P D vwCl [(A 0, mO A th (nI (sn σ)) (nI (sc σ)) t sh tl er (nI 0) kp ks tk tz sp wd lv dn rf ev), (A 1, iA cI 10 (so σ)), (A 2, iA cI 10 (sl σ)), (A 3, iA cI 10 (sr σ)), (A 4, dA cD 10 (sk σ)), (A 5, dA cD 3 y), (A 6, dA cD 3 (vf_upd f' i (FP.dsub (z i) ((sbd q.1 q.2 (sn σ) (sn σ)) i)))), (A 7, dA cD 3 (mix (sn σ) (fs σ (FP.dadd t r) z) A1)), (A 10, dA cD 3 u3.2.2), (A 11, dA cD 3 u3.2.1), (A 13, dA cD 9 u3.1)] H := hP
            refine lv_iinc (v := nI (i + 1)) (lv' := [(5, .int (nI (i + 1))), (4, .int (nI f)), (3, .int (nI 0)), (0, .ref (A 0)), (1, .double r)]) hx hb dX7_implicit_228 hl (k := 0) rfl (nI_1 i) (by decide) rfl (fun ls hl => ?_)
            refine lv_goto (tgt := 197) hx hb dX7_implicit_231 (by decide) ?_
            exact ih4 _ _ _ ⟨_, mix_s hf rfl, hP, hS, lv_sub hl [0, 1, 2, 3, 4] rfl⟩
          ·
            intro H locs ls ⟨f', hf, hP, hS, hl⟩
            refine lv_iload hx hb dX7_implicit_197 (lv_at hl 0 rfl) ?_
            refine lv_aload_n hx hb dX7_implicit_199 rfl (lv_at hl 3 rfl) ?_
            refine gX7 hx hb hg hown hI hP 0 rfl 1 rfl mF_X7_7 rfl dX7_implicit_200 ?_
            refine lv_icmp_ge (tgt := 234) hx hb dX7_implicit_203 (by decide) (fun c_203 => ?_) (fun c_203 => absurd (Int32.le_refl _) c_203)
            subst hf
            refine lv_aload_n hx hb dX7_implicit_234 rfl (lv_at hl 3 rfl) ?_
            refine lv_aload_n hx hb dX7_implicit_235 rfl (lv_at hl 3 rfl) ?_
            refine gX7 hx hb hg hown hI hP 0 rfl 17 rfl mF_X7_51 rfl dX7_implicit_236 ?_
            refine xcd (xV (As := [.ref (A 10)]) (rest := []) hx hb hml hown hg (r_max l D cD cI cM cL A σ th t sh tl er (nI 0) kp ks tk tz sp wd lv dn rf ev (A 10) u3.2.2 hn) mM_X7_129 ok_X7_max rfl rfl ⟨Nat.le_of_ble_eq_true rfl, Nat.le_of_ble_eq_true rfl⟩ hI hP hd rfl [0, 8] rfl rfl rfl rfl rfl hl.1 rfl (Nat.le_of_ble_eq_true rfl) dX7_implicit_239 ⟨Nat.zero_le _, Nat.zero_le _⟩) hP hd hS fa0 [] rfl rfl (fun _ => rfl) (fun _u H locs hu hP hS => ?_)
            have hP : va_P D vwCl [(A 0, mO A th (nI (sn σ)) (nI (sc σ)) t sh tl er (nI 0) kp ks tk tz sp wd lv dn rf ev), (A 1, iA cI 10 (so σ)), (A 2, iA cI 10 (sl σ)), (A 3, iA cI 10 (sr σ)), (A 4, dA cD 10 (sk σ)), (A 5, dA cD 3 y), (A 6, dA cD 3 (mix (sn σ) (zsb z (sbd q.1 q.2 (sn σ) (sn σ))) Z1)), (A 7, dA cD 3 (mix (sn σ) (fs σ (FP.dadd t r) z) A1)), (A 10, dA cD 3 u3.2.2), (A 11, dA cD 3 u3.2.1), (A 13, dA cD 9 u3.1)] H := hP
            refine xeqd (y := mxv (sbd q.1 q.2 (sn σ) (sn σ)) (sn σ)) (mxv_ag hu4 _ (Nat.le_refl _)) ?_
            refine lv_ldc2d (v := k1em09) hx hb hown (hg _ mD_X7_159) dX7_implicit_242 ?_
            refine xg_gt (tgt := 253) hx hb dX7_implicit_245 dX7_implicit_246 (by decide) (fun c_245 => ?_) (fun c_245 => ?_)
            ·
              have hgt : dgt (mxv (sbd q.1 q.2 (sn σ) (sn σ)) (sn σ)) k1em09 := Decidable.byContradiction fun h => c_245 ((le_ngt hfd b_k1em09.1).mpr h)
              refine lv_iconst (v := nI 0) hx hb dX7_implicit_253 (by decide) ?_
              refine lv_istore_n (lv' := [(3, .int (nI 0)), (5, .int (nI (sn σ))), (4, .int (nI f)), (0, .ref (A 0)), (1, .double r)]) hx hb dX7_implicit_254 rfl hl (by decide) rfl (fun ls hl => ?_)
              refine lv_aload_n hx hb dX7_implicit_255 rfl (lv_at hl 3 rfl) ?_
              refine lv_iload_n hx hb dX7_implicit_256 rfl (lv_at hl 0 rfl) ?_
              refine lv_if_ne (tgt := 279) hx hb dX7_implicit_257 (by decide) (fun c_257 => (c_257 (by decide)).elim) (fun c_257 => ?_)
              refine lv_aload_n hx hb dX7_implicit_260 rfl (lv_at hl 3 rfl) ?_
              refine lv_aload_n hx hb dX7_implicit_261 rfl (lv_at hl 3 rfl) ?_
              refine gX7 hx hb hg hown hI hP 0 rfl 11 rfl mF_X7_39 rfl dX7_implicit_262 ?_
              refine xcd (xV (As := [.ref (A 6)]) (rest := [.ref (A 0)]) hx hb hml hown hg (r_max l D cD cI cM cL A σ th t sh tl er (nI 0) kp ks tk tz sp wd lv dn rf ev (A 6) (mix (sn σ) (zsb z (sbd q.1 q.2 (sn σ) (sn σ))) Z1) hn) mM_X7_129 ok_X7_max rfl rfl ⟨Nat.le_of_ble_eq_true rfl, Nat.le_of_ble_eq_true rfl⟩ hI hP hd rfl [0, 6] rfl rfl rfl rfl rfl hl.1 rfl (Nat.le_of_ble_eq_true rfl) dX7_implicit_265 ⟨Nat.zero_le _, Nat.zero_le _⟩) hP hd hS fa0 [] rfl rfl (fun _ => rfl) (fun _u H locs hu hP hS => ?_)
              have hP : va_P D vwCl [(A 0, mO A th (nI (sn σ)) (nI (sc σ)) t sh tl er (nI 0) kp ks tk tz sp wd lv dn rf ev), (A 1, iA cI 10 (so σ)), (A 2, iA cI 10 (sl σ)), (A 3, iA cI 10 (sr σ)), (A 4, dA cD 10 (sk σ)), (A 5, dA cD 3 y), (A 6, dA cD 3 (mix (sn σ) (zsb z (sbd q.1 q.2 (sn σ) (sn σ))) Z1)), (A 7, dA cD 3 (mix (sn σ) (fs σ (FP.dadd t r) z) A1)), (A 10, dA cD 3 u3.2.2), (A 11, dA cD 3 u3.2.1), (A 13, dA cD 9 u3.1)] H := hP
              refine xeqd (y := mxv (zsb z (sbd q.1 q.2 (sn σ) (sn σ))) (sn σ)) (mxv_mix _ (Nat.le_refl _)) ?_
              refine lv_ldc2d (v := k1000000000) hx hb hown (hg _ mD_X7_161) dX7_implicit_268 ?_
              refine xl_le (tgt := 279) hx hb dX7_implicit_271 dX7_implicit_272 (by decide) (fun c_271 => ?_) (fun c_271 => ?_)
              ·
                have hzb3 : ∀ i, i < sn σ → bd 1 30 (zsb z (sbd q.1 q.2 (sn σ) (sn σ)) i) := fun i hi => mx_bd (fun i hi => (hzb2 i hi).1) c_271 hi ⟨b_k1000000000.1, by decide +kernel⟩
                have himp2 : imp σ (FP.dadd t r) r y (8 - (f + 1)) (zsb z (sbd q.1 q.2 (sn σ) (sn σ))) = imp σ (FP.dadd t r) r y 8 y := by rw [← himp, show 8 - f = 7 - f + 1 by omega, show 8 - (f + 1) = 7 - f by omega]; conv => rhs; unfold imp; rw [hq]; dsimp only; rw [if_pos hgt, if_neg c_271]
                refine lv_iconst (v := nI 0) hx hb dX7_implicit_279 (by decide) ?_
                refine pX7 hx hb hg hown hI hP hd rfl hS 0 rfl 13 rfl mF_X7_149 rfl (by decide) (by decide) (Nat.le_of_ble_eq_true rfl) pm0 dX7_implicit_280 (fun H locs hP hS => ?_)
                have hP : va_P D vwCl [(A 0, mO A th (nI (sn σ)) (nI (sc σ)) t sh tl er (nI 0) kp ks tk tz sp wd lv dn rf ev), (A 1, iA cI 10 (so σ)), (A 2, iA cI 10 (sl σ)), (A 3, iA cI 10 (sr σ)), (A 4, dA cD 10 (sk σ)), (A 5, dA cD 3 y), (A 6, dA cD 3 (mix (sn σ) (zsb z (sbd q.1 q.2 (sn σ) (sn σ))) Z1)), (A 7, dA cD 3 (mix (sn σ) (fs σ (FP.dadd t r) z) A1)), (A 10, dA cD 3 u3.2.2), (A 11, dA cD 3 u3.2.1), (A 13, dA cD 9 u3.1)] H := hP
                refine lv_iinc (v := nI (f + 1)) (lv' := [(4, .int (nI (f + 1))), (3, .int (nI 0)), (5, .int (nI (sn σ))), (0, .ref (A 0)), (1, .double r)]) hx hb dX7_implicit_283 hl (k := 2) rfl (nI_1 f) (by decide) rfl (fun ls hl => ?_)
                refine lv_goto (tgt := 33) hx hb dX7_implicit_286 (by decide) ?_
                exact ih _ _ _ ⟨_, _, _, _, _, _, himp2, (fun i hi => mix_lt hi), hzb3, trivial, trivial, trivial, hP, hS, lv_sub hl [0, 1, 3, 4] rfl⟩
              ·
                have hi0 : imp σ (FP.dadd t r) r y 8 y = none := by rw [← himp, show 8 - f = 7 - f + 1 by omega]; unfold imp; rw [hq]; dsimp only; rw [if_pos hgt, if_pos c_271]
                refine lv_iconst (v := nI 1) hx hb dX7_implicit_275 (by decide) ?_
                refine lv_goto (tgt := 280) hx hb dX7_implicit_276 (by decide) ?_
                refine pX7 hx hb hg hown hI hP hd rfl hS 0 rfl 13 rfl mF_X7_149 rfl (by decide) (by decide) (Nat.le_of_ble_eq_true rfl) pm0 dX7_implicit_280 (fun H locs hP hS => ?_)
                have hP : va_P D vwCl [(A 0, mO A th (nI (sn σ)) (nI (sc σ)) t sh tl er (nI 1) kp ks tk tz sp wd lv dn rf ev), (A 1, iA cI 10 (so σ)), (A 2, iA cI 10 (sl σ)), (A 3, iA cI 10 (sr σ)), (A 4, dA cD 10 (sk σ)), (A 5, dA cD 3 y), (A 6, dA cD 3 (mix (sn σ) (zsb z (sbd q.1 q.2 (sn σ) (sn σ))) Z1)), (A 7, dA cD 3 (mix (sn σ) (fs σ (FP.dadd t r) z) A1)), (A 10, dA cD 3 u3.2.2), (A 11, dA cD 3 u3.2.1), (A 13, dA cD 9 u3.1)] H := hP
                refine lv_iinc (v := nI (f + 1)) (lv' := [(4, .int (nI (f + 1))), (3, .int (nI 0)), (5, .int (nI (sn σ))), (0, .ref (A 0)), (1, .double r)]) hx hb dX7_implicit_283 hl (k := 2) rfl (nI_1 f) (by decide) rfl (fun ls hl => ?_)
                refine lv_goto (tgt := 33) hx hb dX7_implicit_286 (by decide) ?_
                refine xpc (q := 33) rfl ?_
                refine lv_iload hx hb dX7_implicit_33 (lv_at hl 0 rfl) ?_
                refine lv_bipush (v := nI 8) hx hb dX7_implicit_35 (by decide) ?_
                refine lv_icmp_ge (tgt := 289) hx hb dX7_implicit_37 (by decide) (fun c_37 => ?_) (fun c_37 => ?_)
                ·
                  refine lv_aload_n hx hb dX7_implicit_289 rfl (lv_at hl 3 rfl) ?_
                  refine lv_aload_n hx hb dX7_implicit_290 rfl (lv_at hl 3 rfl) ?_
                  refine gX7 hx hb hg hown hI hP 0 rfl 13 rfl mF_X7_149 rfl dX7_implicit_291 ?_
                  refine lv_if_ne (tgt := 301) hx hb dX7_implicit_294 (by decide) (fun c_294 => ?_) (fun c_294 => absurd c_294 (by decide))
                  refine lv_iconst (v := nI 1) hx hb dX7_implicit_301 (by decide) ?_
                  refine lv_goto (tgt := 306) hx hb dX7_implicit_302 (by decide) ?_
                  refine pX7 hx hb hg hown hI hP hd rfl hS 0 rfl 13 rfl mF_X7_149 rfl (by decide) (by decide) (Nat.le_of_ble_eq_true rfl) pm0 dX7_implicit_306 (fun H locs hP hS => ?_)
                  have hP : va_P D vwCl [(A 0, mO A th (nI (sn σ)) (nI (sc σ)) t sh tl er (nI 1) kp ks tk tz sp wd lv dn rf ev), (A 1, iA cI 10 (so σ)), (A 2, iA cI 10 (sl σ)), (A 3, iA cI 10 (sr σ)), (A 4, dA cD 10 (sk σ)), (A 5, dA cD 3 y), (A 6, dA cD 3 (mix (sn σ) (zsb z (sbd q.1 q.2 (sn σ) (sn σ))) Z1)), (A 7, dA cD 3 (mix (sn σ) (fs σ (FP.dadd t r) z) A1)), (A 10, dA cD 3 u3.2.2), (A 11, dA cD 3 u3.2.1), (A 13, dA cD 9 u3.1)] H := hP
                  have hP : va_P D vwCl [(A 0, mO A th (nI (sn σ)) (nI (sc σ)) t sh tl er (bI (imp σ (FP.dadd t r) r y 8 y).isNone) kp ks tk tz sp wd lv dn rf ev), (A 1, iA cI 10 (so σ)), (A 2, iA cI 10 (sl σ)), (A 3, iA cI 10 (sr σ)), (A 4, dA cD 10 (sk σ)), (A 5, dA cD 3 y), (A 6, dA cD 3 (mix (sn σ) (zsb z (sbd q.1 q.2 (sn σ) (sn σ))) Z1)), (A 7, dA cD 3 (mix (sn σ) (fs σ (FP.dadd t r) z) A1)), (A 10, dA cD 3 u3.2.2), (A 11, dA cD 3 u3.2.1), (A 13, dA cD 9 u3.1)] H := by rw [hi0]; exact hP
                  exact W.vret hx hb hr (fun tS hTS hWS => ⟨(mix (sn σ) (zsb z (sbd q.1 q.2 (sn σ) (sn σ))) Z1, mix (sn σ) (fs σ (FP.dadd t r) z) A1, u3.2.2, u3.2.1, u3.1), rfl, (fun z' hz' => by rw [hi0] at hz'; cases hz'), by rw [hTS]; exact hP.sub [0, 6, 7, 8, 9, 10] rfl, hS.F hTS⟩) hS.2.2 dX7_implicit_309
                ·
                  refine lv_iload_n hx hb dX7_implicit_40 rfl (lv_at hl 1 rfl) ?_
                  refine lv_if_ne (tgt := 289) hx hb dX7_implicit_41 (by decide) (fun c_41 => (c_41 (by decide)).elim) (fun c_41 => ?_)
                  refine lv_aload_n hx hb dX7_implicit_44 rfl (lv_at hl 3 rfl) ?_
                  refine gX7 hx hb hg hown hI hP 0 rfl 13 rfl mF_X7_149 rfl dX7_implicit_45 ?_
                  refine lv_if_ne (tgt := 289) hx hb dX7_implicit_48 (by decide) (fun c_48 => ?_) (fun c_48 => absurd c_48 (by decide))
                  refine lv_aload_n hx hb dX7_implicit_289 rfl (lv_at hl 3 rfl) ?_
                  refine lv_aload_n hx hb dX7_implicit_290 rfl (lv_at hl 3 rfl) ?_
                  refine gX7 hx hb hg hown hI hP 0 rfl 13 rfl mF_X7_149 rfl dX7_implicit_291 ?_
                  refine lv_if_ne (tgt := 301) hx hb dX7_implicit_294 (by decide) (fun c_294 => ?_) (fun c_294 => absurd c_294 (by decide))
                  refine lv_iconst (v := nI 1) hx hb dX7_implicit_301 (by decide) ?_
                  refine lv_goto (tgt := 306) hx hb dX7_implicit_302 (by decide) ?_
                  refine pX7 hx hb hg hown hI hP hd rfl hS 0 rfl 13 rfl mF_X7_149 rfl (by decide) (by decide) (Nat.le_of_ble_eq_true rfl) pm0 dX7_implicit_306 (fun H locs hP hS => ?_)
                  have hP : va_P D vwCl [(A 0, mO A th (nI (sn σ)) (nI (sc σ)) t sh tl er (nI 1) kp ks tk tz sp wd lv dn rf ev), (A 1, iA cI 10 (so σ)), (A 2, iA cI 10 (sl σ)), (A 3, iA cI 10 (sr σ)), (A 4, dA cD 10 (sk σ)), (A 5, dA cD 3 y), (A 6, dA cD 3 (mix (sn σ) (zsb z (sbd q.1 q.2 (sn σ) (sn σ))) Z1)), (A 7, dA cD 3 (mix (sn σ) (fs σ (FP.dadd t r) z) A1)), (A 10, dA cD 3 u3.2.2), (A 11, dA cD 3 u3.2.1), (A 13, dA cD 9 u3.1)] H := hP
                  have hP : va_P D vwCl [(A 0, mO A th (nI (sn σ)) (nI (sc σ)) t sh tl er (bI (imp σ (FP.dadd t r) r y 8 y).isNone) kp ks tk tz sp wd lv dn rf ev), (A 1, iA cI 10 (so σ)), (A 2, iA cI 10 (sl σ)), (A 3, iA cI 10 (sr σ)), (A 4, dA cD 10 (sk σ)), (A 5, dA cD 3 y), (A 6, dA cD 3 (mix (sn σ) (zsb z (sbd q.1 q.2 (sn σ) (sn σ))) Z1)), (A 7, dA cD 3 (mix (sn σ) (fs σ (FP.dadd t r) z) A1)), (A 10, dA cD 3 u3.2.2), (A 11, dA cD 3 u3.2.1), (A 13, dA cD 9 u3.1)] H := by rw [hi0]; exact hP
                  exact W.vret hx hb hr (fun tS hTS hWS => ⟨(mix (sn σ) (zsb z (sbd q.1 q.2 (sn σ) (sn σ))) Z1, mix (sn σ) (fs σ (FP.dadd t r) z) A1, u3.2.2, u3.2.1, u3.1), rfl, (fun z' hz' => by rw [hi0] at hz'; cases hz'), by rw [hTS]; exact hP.sub [0, 6, 7, 8, 9, 10] rfl, hS.F hTS⟩) hS.2.2 dX7_implicit_309
            ·
              have hi0 : imp σ (FP.dadd t r) r y 8 y = some (zsb z (sbd q.1 q.2 (sn σ) (sn σ))) := by rw [← himp, show 8 - f = 7 - f + 1 by omega]; unfold imp; rw [hq]; dsimp only; rw [if_neg ((le_ngt hfd b_k1em09.1).mp c_245)]
              refine lv_iconst (v := nI 1) hx hb dX7_implicit_249 (by decide) ?_
              refine lv_goto (tgt := 254) hx hb dX7_implicit_250 (by decide) ?_
              refine lv_istore_n (lv' := [(3, .int (nI 1)), (5, .int (nI (sn σ))), (4, .int (nI f)), (0, .ref (A 0)), (1, .double r)]) hx hb dX7_implicit_254 rfl hl (by decide) rfl (fun ls hl => ?_)
              refine lv_aload_n hx hb dX7_implicit_255 rfl (lv_at hl 3 rfl) ?_
              refine xpc (q := 256) rfl ?_
              refine lv_iload_n hx hb dX7_implicit_256 rfl (lv_at hl 0 rfl) ?_
              refine lv_if_ne (tgt := 279) hx hb dX7_implicit_257 (by decide) (fun c_257 => ?_) (fun c_257 => absurd c_257 (by decide))
              refine lv_iconst (v := nI 0) hx hb dX7_implicit_279 (by decide) ?_
              refine pX7 hx hb hg hown hI hP hd rfl hS 0 rfl 13 rfl mF_X7_149 rfl (by decide) (by decide) (Nat.le_of_ble_eq_true rfl) pm0 dX7_implicit_280 (fun H locs hP hS => ?_)
              have hP : va_P D vwCl [(A 0, mO A th (nI (sn σ)) (nI (sc σ)) t sh tl er (nI 0) kp ks tk tz sp wd lv dn rf ev), (A 1, iA cI 10 (so σ)), (A 2, iA cI 10 (sl σ)), (A 3, iA cI 10 (sr σ)), (A 4, dA cD 10 (sk σ)), (A 5, dA cD 3 y), (A 6, dA cD 3 (mix (sn σ) (zsb z (sbd q.1 q.2 (sn σ) (sn σ))) Z1)), (A 7, dA cD 3 (mix (sn σ) (fs σ (FP.dadd t r) z) A1)), (A 10, dA cD 3 u3.2.2), (A 11, dA cD 3 u3.2.1), (A 13, dA cD 9 u3.1)] H := hP
              refine lv_iinc (v := nI (f + 1)) (lv' := [(4, .int (nI (f + 1))), (3, .int (nI 1)), (5, .int (nI (sn σ))), (0, .ref (A 0)), (1, .double r)]) hx hb dX7_implicit_283 hl (k := 2) rfl (nI_1 f) (by decide) rfl (fun ls hl => ?_)
              refine lv_goto (tgt := 33) hx hb dX7_implicit_286 (by decide) ?_
              refine lv_iload hx hb dX7_implicit_33 (lv_at hl 0 rfl) ?_
              refine lv_bipush (v := nI 8) hx hb dX7_implicit_35 (by decide) ?_
              refine lv_icmp_ge (tgt := 289) hx hb dX7_implicit_37 (by decide) (fun c_37 => ?_) (fun c_37 => ?_)
              ·
                refine lv_aload_n hx hb dX7_implicit_289 rfl (lv_at hl 3 rfl) ?_
                refine lv_aload_n hx hb dX7_implicit_290 rfl (lv_at hl 3 rfl) ?_
                refine gX7 hx hb hg hown hI hP 0 rfl 13 rfl mF_X7_149 rfl dX7_implicit_291 ?_
                refine lv_if_ne (tgt := 301) hx hb dX7_implicit_294 (by decide) (fun c_294 => (c_294 (by decide)).elim) (fun c_294 => ?_)
                refine lv_iload_n hx hb dX7_implicit_297 rfl (lv_at hl 1 rfl) ?_
                refine lv_if_ne (tgt := 305) hx hb dX7_implicit_298 (by decide) (fun c_298 => ?_) (fun c_298 => absurd c_298 (by decide))
                refine lv_iconst (v := nI 0) hx hb dX7_implicit_305 (by decide) ?_
                refine pX7 hx hb hg hown hI hP hd rfl hS 0 rfl 13 rfl mF_X7_149 rfl (by decide) (by decide) (Nat.le_of_ble_eq_true rfl) pm0 dX7_implicit_306 (fun H locs hP hS => ?_)
                have hP : va_P D vwCl [(A 0, mO A th (nI (sn σ)) (nI (sc σ)) t sh tl er (nI 0) kp ks tk tz sp wd lv dn rf ev), (A 1, iA cI 10 (so σ)), (A 2, iA cI 10 (sl σ)), (A 3, iA cI 10 (sr σ)), (A 4, dA cD 10 (sk σ)), (A 5, dA cD 3 y), (A 6, dA cD 3 (mix (sn σ) (zsb z (sbd q.1 q.2 (sn σ) (sn σ))) Z1)), (A 7, dA cD 3 (mix (sn σ) (fs σ (FP.dadd t r) z) A1)), (A 10, dA cD 3 u3.2.2), (A 11, dA cD 3 u3.2.1), (A 13, dA cD 9 u3.1)] H := hP
                have hP : va_P D vwCl [(A 0, mO A th (nI (sn σ)) (nI (sc σ)) t sh tl er (bI (imp σ (FP.dadd t r) r y 8 y).isNone) kp ks tk tz sp wd lv dn rf ev), (A 1, iA cI 10 (so σ)), (A 2, iA cI 10 (sl σ)), (A 3, iA cI 10 (sr σ)), (A 4, dA cD 10 (sk σ)), (A 5, dA cD 3 y), (A 6, dA cD 3 (mix (sn σ) (zsb z (sbd q.1 q.2 (sn σ) (sn σ))) Z1)), (A 7, dA cD 3 (mix (sn σ) (fs σ (FP.dadd t r) z) A1)), (A 10, dA cD 3 u3.2.2), (A 11, dA cD 3 u3.2.1), (A 13, dA cD 9 u3.1)] H := by rw [hi0]; exact hP
                exact W.vret hx hb hr (fun tS hTS hWS => ⟨(mix (sn σ) (zsb z (sbd q.1 q.2 (sn σ) (sn σ))) Z1, mix (sn σ) (fs σ (FP.dadd t r) z) A1, u3.2.2, u3.2.1, u3.1), rfl, (fun z' hz' => by rw [hi0] at hz'; cases hz'; exact fun i hi => mix_lt hi), by rw [hTS]; exact hP.sub [0, 6, 7, 8, 9, 10] rfl, hS.F hTS⟩) hS.2.2 dX7_implicit_309
              ·
                refine lv_iload_n hx hb dX7_implicit_40 rfl (lv_at hl 1 rfl) ?_
                refine lv_if_ne (tgt := 289) hx hb dX7_implicit_41 (by decide) (fun c_41 => ?_) (fun c_41 => absurd c_41 (by decide))
                refine lv_aload_n hx hb dX7_implicit_289 rfl (lv_at hl 3 rfl) ?_
                refine lv_aload_n hx hb dX7_implicit_290 rfl (lv_at hl 3 rfl) ?_
                refine gX7 hx hb hg hown hI hP 0 rfl 13 rfl mF_X7_149 rfl dX7_implicit_291 ?_
                refine lv_if_ne (tgt := 301) hx hb dX7_implicit_294 (by decide) (fun c_294 => (c_294 (by decide)).elim) (fun c_294 => ?_)
                refine lv_iload_n hx hb dX7_implicit_297 rfl (lv_at hl 1 rfl) ?_
                refine lv_if_ne (tgt := 305) hx hb dX7_implicit_298 (by decide) (fun c_298 => ?_) (fun c_298 => absurd c_298 (by decide))
                refine lv_iconst (v := nI 0) hx hb dX7_implicit_305 (by decide) ?_
                refine pX7 hx hb hg hown hI hP hd rfl hS 0 rfl 13 rfl mF_X7_149 rfl (by decide) (by decide) (Nat.le_of_ble_eq_true rfl) pm0 dX7_implicit_306 (fun H locs hP hS => ?_)
                have hP : va_P D vwCl [(A 0, mO A th (nI (sn σ)) (nI (sc σ)) t sh tl er (nI 0) kp ks tk tz sp wd lv dn rf ev), (A 1, iA cI 10 (so σ)), (A 2, iA cI 10 (sl σ)), (A 3, iA cI 10 (sr σ)), (A 4, dA cD 10 (sk σ)), (A 5, dA cD 3 y), (A 6, dA cD 3 (mix (sn σ) (zsb z (sbd q.1 q.2 (sn σ) (sn σ))) Z1)), (A 7, dA cD 3 (mix (sn σ) (fs σ (FP.dadd t r) z) A1)), (A 10, dA cD 3 u3.2.2), (A 11, dA cD 3 u3.2.1), (A 13, dA cD 9 u3.1)] H := hP
                have hP : va_P D vwCl [(A 0, mO A th (nI (sn σ)) (nI (sc σ)) t sh tl er (bI (imp σ (FP.dadd t r) r y 8 y).isNone) kp ks tk tz sp wd lv dn rf ev), (A 1, iA cI 10 (so σ)), (A 2, iA cI 10 (sl σ)), (A 3, iA cI 10 (sr σ)), (A 4, dA cD 10 (sk σ)), (A 5, dA cD 3 y), (A 6, dA cD 3 (mix (sn σ) (zsb z (sbd q.1 q.2 (sn σ) (sn σ))) Z1)), (A 7, dA cD 3 (mix (sn σ) (fs σ (FP.dadd t r) z) A1)), (A 10, dA cD 3 u3.2.2), (A 11, dA cD 3 u3.2.1), (A 13, dA cD 9 u3.1)] H := by rw [hi0]; exact hP
                exact W.vret hx hb hr (fun tS hTS hWS => ⟨(mix (sn σ) (zsb z (sbd q.1 q.2 (sn σ) (sn σ))) Z1, mix (sn σ) (fs σ (FP.dadd t r) z) A1, u3.2.2, u3.2.1, u3.1), rfl, (fun z' hz' => by rw [hi0] at hz'; cases hz'; exact fun i hi => mix_lt hi), by rw [hTS]; exact hP.sub [0, 6, 7, 8, 9, 10] rfl, hS.F hTS⟩) hS.2.2 dX7_implicit_309
        ·
          have hno : elm (sn σ) (smG σ (FP.dadd t r) r z) (srG σ (FP.dadd t r) r y z) (sn σ) = none := by cases h : elm (sn σ) (smG σ (FP.dadd t r) r z) (srG σ (FP.dadd t r) r y z) (sn σ) with | none => rfl | some q => rw [h] at c_190; exact absurd rfl c_190
          have hi0 : imp σ (FP.dadd t r) r y 8 y = none := by rw [← himp, show 8 - f = 7 - f + 1 by omega]; unfold imp; rw [hno]
          have hP : va_P D vwCl [(A 0, mO A th (nI (sn σ)) (nI (sc σ)) t sh tl er (bI (imp σ (FP.dadd t r) r y 8 y).isNone) kp ks tk tz sp wd lv dn rf ev), (A 1, iA cI 10 (so σ)), (A 2, iA cI 10 (sl σ)), (A 3, iA cI 10 (sr σ)), (A 4, dA cD 10 (sk σ)), (A 5, dA cD 3 y), (A 6, dA cD 3 Z1), (A 7, dA cD 3 (mix (sn σ) (fs σ (FP.dadd t r) z) A1)), (A 10, dA cD 3 u3.2.2), (A 11, dA cD 3 u3.2.1), (A 13, dA cD 9 u3.1)] H := by rw [hi0]; rw [hno] at hP; exact hP
          exact W.vret hx hb hr (fun tS hTS hWS => ⟨(Z1, mix (sn σ) (fs σ (FP.dadd t r) z) A1, u3.2.2, u3.2.1, u3.1), rfl, (fun z' hz' => by rw [hi0] at hz'; cases hz'), by rw [hTS]; exact hP.sub [0, 6, 7, 8, 9, 10] rfl, hS.F hTS⟩) hS.2.2 dX7_implicit_193
    ·
      intro H locs ls ⟨z, Z1, A1, D1, R1, M1, himp, hz, hzb, _h1, _h2, _h3, hP, hS, hl⟩
      refine lv_iload hx hb dX7_implicit_33 (lv_at hl 0 rfl) ?_
      refine lv_bipush (v := nI 8) hx hb dX7_implicit_35 (by decide) ?_
      refine lv_icmp_ge (tgt := 289) hx hb dX7_implicit_37 (by decide) (fun c_37 => ?_) (fun c_37 => absurd (nI_le (Nat.le_refl _) (by decide)) c_37)
      have hi0 : imp σ (FP.dadd t r) r y 8 y = none := himp.symm
      refine lv_aload_n hx hb dX7_implicit_289 rfl (lv_at hl 2 rfl) ?_
      refine lv_aload_n hx hb dX7_implicit_290 rfl (lv_at hl 2 rfl) ?_
      refine xpc (q := 291) rfl ?_
      refine gX7 hx hb hg hown hI hP 0 rfl 13 rfl mF_X7_149 rfl dX7_implicit_291 ?_
      refine lv_if_ne (tgt := 301) hx hb dX7_implicit_294 (by decide) (fun c_294 => (c_294 (by decide)).elim) (fun c_294 => ?_)
      refine lv_iload_n hx hb dX7_implicit_297 rfl (lv_at hl 1 rfl) ?_
      refine lv_if_ne (tgt := 305) hx hb dX7_implicit_298 (by decide) (fun c_298 => (c_298 (by decide)).elim) (fun c_298 => ?_)
      refine lv_iconst (v := nI 1) hx hb dX7_implicit_301 (by decide) ?_
      refine lv_goto (tgt := 306) hx hb dX7_implicit_302 (by decide) ?_
      refine pX7 hx hb hg hown hI hP hd rfl hS 0 rfl 13 rfl mF_X7_149 rfl (by decide) (by decide) (Nat.le_of_ble_eq_true rfl) pm0 dX7_implicit_306 (fun H locs hP hS => ?_)
      have hP : va_P D vwCl [(A 0, mO A th (nI (sn σ)) (nI (sc σ)) t sh tl er (nI 1) kp ks tk tz sp wd lv dn rf ev), (A 1, iA cI 10 (so σ)), (A 2, iA cI 10 (sl σ)), (A 3, iA cI 10 (sr σ)), (A 4, dA cD 10 (sk σ)), (A 5, dA cD 3 y), (A 6, dA cD 3 Z1), (A 7, dA cD 3 A1), (A 10, dA cD 3 D1), (A 11, dA cD 3 R1), (A 13, dA cD 9 M1)] H := hP
      have hP : va_P D vwCl [(A 0, mO A th (nI (sn σ)) (nI (sc σ)) t sh tl er (bI (imp σ (FP.dadd t r) r y 8 y).isNone) kp ks tk tz sp wd lv dn rf ev), (A 1, iA cI 10 (so σ)), (A 2, iA cI 10 (sl σ)), (A 3, iA cI 10 (sr σ)), (A 4, dA cD 10 (sk σ)), (A 5, dA cD 3 y), (A 6, dA cD 3 Z1), (A 7, dA cD 3 A1), (A 10, dA cD 3 D1), (A 11, dA cD 3 R1), (A 13, dA cD 9 M1)] H := by rw [hi0]; exact hP
      exact W.vret hx hb hr (fun tS hTS hWS => ⟨(Z1, A1, D1, R1, M1), rfl, (fun z' hz' => by rw [hi0] at hz'; cases hz'), by rw [hTS]; exact hP.sub [0, 6, 7, 8, 9, 10] rfl, hS.F hTS⟩) hS.2.2 dX7_implicit_309
