/-! a matrix in one row -/
theorem fl_s {f : Nat → UInt64} {i j : Nat} {x : UInt64} : vf_upd f (3 * i + j) x (3 * i + j) = x := vu_s
theorem fl_n {f : Nat → UInt64} {i j a b : Nat} {x : UInt64} (h : ¬ (a = i ∧ b = j)) (hb : b < 3) (hj : j < 3) : vf_upd f (3 * i + j) x (3 * a + b) = f (3 * a + b) := vu_n (by omega)
theorem le_ngt {x y : UInt64} (hx : fin x) (hy : fin y) : (dlt x y ∨ deq x y) ↔ ¬ dgt x y := by
  rw [dgt_iff hx hy, deq_iff hx hy, dlt_iff hx hy]; omega
set_option maxHeartbeats 4000000 in
set_option maxRecDepth 100000 in
theorem r_solve (l : Launch) (D : va_G) (cD cI cM cL : ClassId) (A : Nat → Nat) (σ : Sys) (th : Int32) (t sh tl er : UInt64) (fl kp : Int32) (ks : UInt64) (tk : Int32) (tz sp : UInt64) (wd : Int32) (lv : UInt64) (dn rf ev : Int32) (Mc : Nat → Nat → UInt64) (Rc d0 R f : Nat → UInt64) (hn : sn σ ≤ 3) (hM : ∀ i j, i < sn σ → j < sn σ → f (3 * i + j) = Mc i j) (hR : agV (sn σ) R Rc) (hbM : bM (sn σ) 44 73 Mc Rc) : Met l yX7_solve (Cond.code yX7_solve cX7_solve 9 none :: lw_good) { frames := 1, cells := 0, slots := 0, locals := 21 } (xPc D (tyL cD cI cM cL) [.ref (A 0)] [(A 0, mO A th (nI (sn σ)) (nI (sc σ)) t sh tl er (nI 0) kp ks tk tz sp wd lv dn rf ev), (A 10, dA cD 3 d0), (A 11, dA cD 3 R), (A 13, dA cD 9 f)]) (xQ D [A 0, A 10, A 11, A 13] (fun (u : (Nat → UInt64) × (Nat → UInt64) × (Nat → UInt64)) => none) (fun (u : (Nat → UInt64) × (Nat → UInt64) × (Nat → UInt64)) => ∀ q, elm (sn σ) Mc Rc (sn σ) = some q → agV (sn σ) u.2.2 (sbd q.1 q.2 (sn σ) (sn σ))) (fun (u : (Nat → UInt64) × (Nat → UInt64) × (Nat → UInt64)) => [(A 0, mO A th (nI (sn σ)) (nI (sc σ)) t sh tl er (bI (elm (sn σ) Mc Rc (sn σ)).isNone) kp ks tk tz sp wd lv dn rf ev), (A 10, dA cD 3 u.2.2), (A 11, dA cD 3 u.2.1), (A 13, dA cD 9 u.1)])) 0 0 (fun q => q ∈ ([A 0, A 10, A 11, A 13] : List Nat)) := by
  refine xofW (adr := [A 0, A 10, A 11, A 13]) (by decide) (Nat.le_of_ble_eq_true rfl) ?_
  intro p e s m below meth c ls hx hb hr hml hg hown hlk hI hP hd hS hl
  have hown : s.vm.findClass RX7 = some m.cls := hown
  have hd : dj [A 0, A 10, A 11, A 13] := hd
  have hl : lv_has ls 9 [(0, .ref (A 0))] := hl
  refine lv_iconst (v := nI 0) hx hb dX7_solve_0 (by decide) ?_
  refine lv_istore_n (lv' := [(1, .int (nI 0)), (0, .ref (A 0))]) hx hb dX7_solve_1 rfl hl (by decide) rfl (fun ls hl => ?_)
  refine xfor (I := fun c0 H locs ls => ∃ (q : (Nat → Nat → UInt64) × (Nat → UInt64)) (f1 : Nat → UInt64) (R1 : Nat → UInt64), (elm (sn σ) Mc Rc c0 = some q) ∧ (∀ i j, i < (sn σ) → j < (sn σ) → f1 (3 * i + j) = q.1 i j) ∧ (agV (sn σ) R1 q.2) ∧ va_P D vwCl [(A 0, mO A th (nI (sn σ)) (nI (sc σ)) t sh tl er (nI 0) kp ks tk tz sp wd lv dn rf ev), (A 10, dA cD 3 d0), (A 11, dA cD 3 R1), (A 13, dA cD 9 f1)] H ∧ va_S (fun q => q ∈ ([A 0, A 10, A 11, A 13] : List Nat)) s.heap H locs ∧ lv_has ls 9 [(1, .int (nI c0)), (0, .ref (A 0))]) (sn σ) 0 ⟨_, _, _, rfl, hM, hR, hP, hS, lv_sub hl [0, 1] rfl⟩ (Nat.zero_le _) ?_ ?_
  ·
    intro c0 h_c0 ih H locs ls ⟨q, f1, R1, hq, hmq, hrq, hP, hS, hl⟩
    refine lv_iload_n hx hb dX7_solve_2 rfl (lv_at hl 0 rfl) ?_
    refine lv_aload_n hx hb dX7_solve_3 rfl (lv_at hl 1 rfl) ?_
    refine gX7 hx hb hg hown hI hP 0 rfl 1 rfl mF_X7_7 rfl dX7_solve_4 ?_
    refine lv_icmp_ge (tgt := 309) hx hb dX7_solve_7 (by decide) (fun c_7 => absurd c_7 (nI_ge h_c0 (by omega))) (fun c_7 => ?_)
    have hpv := piv_lt (M := q.1) (c := c0) ((sn σ) - 1 - c0)
    obtain ⟨hbq, -⟩ := elm_bd hbM hn c0 q (by omega) hq
    refine lv_iload_n hx hb dX7_solve_10 rfl (lv_at hl 0 rfl) ?_
    refine lv_istore_n (lv' := [(2, .int (nI c0)), (1, .int (nI c0)), (0, .ref (A 0))]) hx hb dX7_solve_11 rfl hl (by decide) rfl (fun ls hl => ?_)
    refine lv_iload_n hx hb dX7_solve_12 rfl (lv_at hl 1 rfl) ?_
    refine lv_iconst (v := nI 1) hx hb dX7_solve_13 (by decide) ?_
    refine lv_iadd hx hb dX7_solve_14 ?_
    refine xeqi (y := nI (c0 + 1)) (nI_add c0 1) ?_
    refine lv_istore_n (lv' := [(3, .int (nI (c0 + 1))), (2, .int (nI c0)), (1, .int (nI c0)), (0, .ref (A 0))]) hx hb dX7_solve_15 rfl hl (by decide) rfl (fun ls hl => ?_)
    refine xfor (I := fun x1 H locs ls => (True) ∧ va_P D vwCl [(A 0, mO A th (nI (sn σ)) (nI (sc σ)) t sh tl er (nI 0) kp ks tk tz sp wd lv dn rf ev), (A 10, dA cD 3 d0), (A 11, dA cD 3 R1), (A 13, dA cD 9 f1)] H ∧ va_S (fun q => q ∈ ([A 0, A 10, A 11, A 13] : List Nat)) s.heap H locs ∧ lv_has ls 9 [(3, .int (nI (c0 + 1 + x1))), (2, .int (nI (piv q.1 c0 x1))), (1, .int (nI c0)), (0, .ref (A 0))]) ((sn σ) - 1 - c0) 0 ⟨trivial, hP, hS, lv_sub hl [0, 1, 2, 3] rfl⟩ (Nat.zero_le _) ?_ ?_
    ·
      intro x1 h_x1 ih2 H locs ls ⟨_hv, hP, hS, hl⟩
      have hp := piv_lt (M := q.1) (c := c0) x1
      refine lv_iload_n hx hb dX7_solve_16 rfl (lv_at hl 0 rfl) ?_
      refine lv_aload_n hx hb dX7_solve_17 rfl (lv_at hl 3 rfl) ?_
      refine xpc (q := 18) rfl ?_
      refine gX7 hx hb hg hown hI hP 0 rfl 1 rfl mF_X7_7 rfl dX7_solve_18 ?_
      refine lv_icmp_ge (tgt := 66) hx hb dX7_solve_21 (by decide) (fun c_21 => absurd c_21 (nI_ge (show c0 + 1 + x1 < (sn σ) by omega) (by omega))) (fun c_21 => ?_)
      refine lv_aload_n hx hb dX7_solve_24 rfl (lv_at hl 3 rfl) ?_
      refine gX7 hx hb hg hown hI hP 0 rfl 20 rfl mF_X7_60 rfl dX7_solve_25 ?_
      refine lv_iconst (v := nI 3) hx hb dX7_solve_28 (by decide) ?_
      refine lv_iload_n hx hb dX7_solve_29 rfl (lv_at hl 0 rfl) ?_
      refine lv_imul hx hb dX7_solve_30 ?_
      refine xeqi (y := nI (3 * (c0 + 1 + x1))) (pk_mul 3 (c0 + 1 + x1)) ?_
      refine lv_iload_n hx hb dX7_solve_31 rfl (lv_at hl 2 rfl) ?_
      refine lv_iadd hx hb dX7_solve_32 ?_
      refine xeqi (y := nI ((3 * (c0 + 1 + x1)) + c0)) (nI_add (3 * (c0 + 1 + x1)) c0) ?_
      refine xdald hx hb hI hP 3 0 rfl rfl (by omega) (by decide) dX7_solve_33 ?_
      refine xeqd (y := q.1 (c0 + 1 + x1) c0) (hmq (c0 + 1 + x1) c0 (by omega) (by omega)) ?_
      refine xcd (xS (As := [.double (q.1 (c0 + 1 + x1) c0)]) (rest := []) hx hb hml hown hg (r_far l D cD cI cM cL (q.1 (c0 + 1 + x1) c0)) mM_X7_87 ok_X7_far rfl rfl ⟨Nat.le_of_ble_eq_true rfl, Nat.le_of_ble_eq_true rfl⟩ hI hP hd rfl [] rfl rfl rfl hl.1 rfl (Nat.le_of_ble_eq_true rfl) dX7_solve_34 ⟨Nat.zero_le _, Nat.zero_le _⟩) hP hd hS fa0 [] rfl rfl (fun _ => rfl) (fun _u H locs hu hP hS => ?_)
      have hP : va_P D vwCl [(A 0, mO A th (nI (sn σ)) (nI (sc σ)) t sh tl er (nI 0) kp ks tk tz sp wd lv dn rf ev), (A 10, dA cD 3 d0), (A 11, dA cD 3 R1), (A 13, dA cD 9 f1)] H := hP
      refine lv_aload_n hx hb dX7_solve_37 rfl (lv_at hl 3 rfl) ?_
      refine gX7 hx hb hg hown hI hP 0 rfl 20 rfl mF_X7_60 rfl dX7_solve_38 ?_
      refine lv_iconst (v := nI 3) hx hb dX7_solve_41 (by decide) ?_
      refine lv_iload_n hx hb dX7_solve_42 rfl (lv_at hl 1 rfl) ?_
      refine lv_imul hx hb dX7_solve_43 ?_
      refine xeqi (y := nI (3 * (piv q.1 c0 x1))) (pk_mul 3 (piv q.1 c0 x1)) ?_
      refine xpc (q := 44) rfl ?_
      refine lv_iload_n hx hb dX7_solve_44 rfl (lv_at hl 2 rfl) ?_
      refine lv_iadd hx hb dX7_solve_45 ?_
      refine xeqi (y := nI ((3 * (piv q.1 c0 x1)) + c0)) (nI_add (3 * (piv q.1 c0 x1)) c0) ?_
      refine xdald hx hb hI hP 3 0 rfl rfl (by omega) (by decide) dX7_solve_46 ?_
      refine xeqd (y := q.1 (piv q.1 c0 x1) c0) (hmq (piv q.1 c0 x1) c0 (by omega) (by omega)) ?_
      refine xcd (xS (As := [.double (q.1 (piv q.1 c0 x1) c0)]) (rest := [.double (sz (q.1 (c0 + 1 + x1) c0))]) hx hb hml hown hg (r_far l D cD cI cM cL (q.1 (piv q.1 c0 x1) c0)) mM_X7_87 ok_X7_far rfl rfl ⟨Nat.le_of_ble_eq_true rfl, Nat.le_of_ble_eq_true rfl⟩ hI hP hd rfl [] rfl rfl rfl hl.1 rfl (Nat.le_of_ble_eq_true rfl) dX7_solve_47 ⟨Nat.zero_le _, Nat.zero_le _⟩) hP hd hS fa0 [] rfl rfl (fun _ => rfl) (fun _u H locs hu hP hS => ?_)
      have hP : va_P D vwCl [(A 0, mO A th (nI (sn σ)) (nI (sc σ)) t sh tl er (nI 0) kp ks tk tz sp wd lv dn rf ev), (A 10, dA cD 3 d0), (A 11, dA cD 3 R1), (A 13, dA cD 9 f1)] H := hP
      refine xl_le (tgt := 58) hx hb dX7_solve_50 dX7_solve_51 (by decide) (fun c_50 => ?_) (fun c_50 => ?_)
      ·
        have hpe : piv q.1 c0 x1 = piv q.1 c0 (x1 + 1) := by show _ = (if _ then _ else _); rw [if_neg c_50]
        refine lv_iload_n hx hb dX7_solve_58 rfl (lv_at hl 1 rfl) ?_
        refine lv_istore_n (lv' := [(2, .int (nI (piv q.1 c0 x1))), (3, .int (nI (c0 + 1 + x1))), (1, .int (nI c0)), (0, .ref (A 0))]) hx hb dX7_solve_59 rfl hl (by decide) rfl (fun ls hl => ?_)
        refine lv_iinc (v := nI (c0 + 1 + x1 + 1)) (lv' := [(3, .int (nI (c0 + 1 + x1 + 1))), (2, .int (nI (piv q.1 c0 x1))), (1, .int (nI c0)), (0, .ref (A 0))]) hx hb dX7_solve_60 hl (k := 1) rfl (nI_1 (c0 + 1 + x1)) (by decide) rfl (fun ls hl => ?_)
        refine lv_goto (tgt := 16) hx hb dX7_solve_63 (by decide) ?_
        rw [hpe] at hl
        exact ih2 _ _ _ ⟨trivial, hP, hS, lv_sub hl [0, 1, 2, 3] rfl⟩
      ·
        have hpe : c0 + 1 + x1 = piv q.1 c0 (x1 + 1) := by show _ = (if _ then _ else _); rw [if_pos c_50]
        refine lv_iload_n hx hb dX7_solve_54 rfl (lv_at hl 0 rfl) ?_
        refine lv_goto (tgt := 59) hx hb dX7_solve_55 (by decide) ?_
        refine lv_istore_n (lv' := [(2, .int (nI (c0 + 1 + x1))), (3, .int (nI (c0 + 1 + x1))), (1, .int (nI c0)), (0, .ref (A 0))]) hx hb dX7_solve_59 rfl hl (by decide) rfl (fun ls hl => ?_)
        refine lv_iinc (v := nI (c0 + 1 + x1 + 1)) (lv' := [(3, .int (nI (c0 + 1 + x1 + 1))), (2, .int (nI (c0 + 1 + x1))), (1, .int (nI c0)), (0, .ref (A 0))]) hx hb dX7_solve_60 hl (k := 1) rfl (nI_1 (c0 + 1 + x1)) (by decide) rfl (fun ls hl => ?_)
        refine lv_goto (tgt := 16) hx hb dX7_solve_63 (by decide) ?_
        have hl : lv_has ls 9 [(3, .int (nI (c0 + 1 + x1 + 1))), (2, .int (nI (piv q.1 c0 (x1 + 1)))), (1, .int (nI c0)), (0, .ref (A 0))] := by rw [← hpe]; exact hl
        exact ih2 _ _ _ ⟨trivial, hP, hS, lv_sub hl [0, 1, 2, 3] rfl⟩
    ·
      intro H locs ls ⟨_hv, hP, hS, hl⟩
      refine lv_iload_n hx hb dX7_solve_16 rfl (lv_at hl 0 rfl) ?_
      refine lv_aload_n hx hb dX7_solve_17 rfl (lv_at hl 3 rfl) ?_
      refine xpc (q := 18) rfl ?_
      refine gX7 hx hb hg hown hI hP 0 rfl 1 rfl mF_X7_7 rfl dX7_solve_18 ?_
      refine lv_icmp_ge (tgt := 66) hx hb dX7_solve_21 (by decide) (fun c_21 => ?_) (fun c_21 => absurd (nI_le (by omega) (by omega)) c_21)
      refine lv_aload_n hx hb dX7_solve_66 rfl (lv_at hl 3 rfl) ?_
      refine gX7 hx hb hg hown hI hP 0 rfl 20 rfl mF_X7_60 rfl dX7_solve_67 ?_
      refine lv_iconst (v := nI 3) hx hb dX7_solve_70 (by decide) ?_
      refine lv_iload_n hx hb dX7_solve_71 rfl (lv_at hl 1 rfl) ?_
      refine lv_imul hx hb dX7_solve_72 ?_
      refine xeqi (y := nI (3 * (piv q.1 c0 ((sn σ) - 1 - c0)))) (pk_mul 3 (piv q.1 c0 ((sn σ) - 1 - c0))) ?_
      refine lv_iload_n hx hb dX7_solve_73 rfl (lv_at hl 2 rfl) ?_
      refine lv_iadd hx hb dX7_solve_74 ?_
      refine xeqi (y := nI ((3 * (piv q.1 c0 ((sn σ) - 1 - c0))) + c0)) (nI_add (3 * (piv q.1 c0 ((sn σ) - 1 - c0))) c0) ?_
      refine xdald hx hb hI hP 3 0 rfl rfl (by omega) (by decide) dX7_solve_75 ?_
      refine xeqd (y := q.1 (piv q.1 c0 ((sn σ) - 1 - c0)) c0) (hmq (piv q.1 c0 ((sn σ) - 1 - c0)) c0 (by omega) (by omega)) ?_
      refine xcd (xS (As := [.double (q.1 (piv q.1 c0 ((sn σ) - 1 - c0)) c0)]) (rest := []) hx hb hml hown hg (r_far l D cD cI cM cL (q.1 (piv q.1 c0 ((sn σ) - 1 - c0)) c0)) mM_X7_87 ok_X7_far rfl rfl ⟨Nat.le_of_ble_eq_true rfl, Nat.le_of_ble_eq_true rfl⟩ hI hP hd rfl [] rfl rfl rfl hl.1 rfl (Nat.le_of_ble_eq_true rfl) dX7_solve_76 ⟨Nat.zero_le _, Nat.zero_le _⟩) hP hd hS fa0 [] rfl rfl (fun _ => rfl) (fun _u H locs hu hP hS => ?_)
      have hP : va_P D vwCl [(A 0, mO A th (nI (sn σ)) (nI (sc σ)) t sh tl er (nI 0) kp ks tk tz sp wd lv dn rf ev), (A 10, dA cD 3 d0), (A 11, dA cD 3 R1), (A 13, dA cD 9 f1)] H := hP
      refine lv_ldc2d (v := k1em09) hx hb hown (hg _ mD_X7_159) dX7_solve_79 ?_
      refine xg_ge (tgt := 92) hx hb dX7_solve_82 dX7_solve_83 (by decide) (fun c_82 => ?_) (fun c_82 => ?_)
      ·
        have hlb : lbd 1044 ((exM q.1 c0 (piv q.1 c0 ((sn σ) - 1 - c0))) c0 c0) := by rw [show (exM q.1 c0 (piv q.1 c0 ((sn σ) - 1 - c0))) c0 c0 = q.1 (piv q.1 c0 ((sn σ) - 1 - c0)) c0 by simp [exM]]; exact lb_of (hbq.1 _ c0 (by omega) h_c0).1 c_82
        have hexb := ex_bd hbq h_c0 (show piv q.1 c0 ((sn σ) - 1 - c0) < (sn σ) by omega)
        refine lv_iconst (v := nI 0) hx hb dX7_solve_92 (by decide) ?_
        refine lv_istore_n (lv' := [(3, .int (nI 0)), (2, .int (nI (piv q.1 c0 ((sn σ) - 1 - c0)))), (1, .int (nI c0)), (0, .ref (A 0))]) hx hb dX7_solve_93 rfl hl (by decide) rfl (fun ls hl => ?_)
        refine xfor (I := fun j H locs ls => ∃ (f2 : Nat → UInt64), (∀ i jj, i < (sn σ) → jj < (sn σ) → f2 (3 * i + jj) = if jj < j then exM q.1 c0 (piv q.1 c0 ((sn σ) - 1 - c0)) i jj else q.1 i jj) ∧ va_P D vwCl [(A 0, mO A th (nI (sn σ)) (nI (sc σ)) t sh tl er (nI 0) kp ks tk tz sp wd lv dn rf ev), (A 10, dA cD 3 d0), (A 11, dA cD 3 R1), (A 13, dA cD 9 f2)] H ∧ va_S (fun q => q ∈ ([A 0, A 10, A 11, A 13] : List Nat)) s.heap H locs ∧ lv_has ls 9 [(3, .int (nI j)), (2, .int (nI (piv q.1 c0 ((sn σ) - 1 - c0)))), (1, .int (nI c0)), (0, .ref (A 0))]) (sn σ) 0 ⟨_, (fun i j hi hj => by rw [if_neg (Nat.not_lt_zero _)]; exact hmq i j hi hj), hP, hS, lv_sub hl [0, 1, 2, 3] rfl⟩ (Nat.zero_le _) ?_ ?_
        ·
          intro j h_j ih3 H locs ls ⟨f2, hm, hP, hS, hl⟩
          refine lv_iload_n hx hb dX7_solve_94 rfl (lv_at hl 0 rfl) ?_
          refine lv_aload_n hx hb dX7_solve_95 rfl (lv_at hl 3 rfl) ?_
          refine gX7 hx hb hg hown hI hP 0 rfl 1 rfl mF_X7_7 rfl dX7_solve_96 ?_
          refine lv_icmp_ge (tgt := 152) hx hb dX7_solve_99 (by decide) (fun c_99 => absurd c_99 (nI_ge h_j (by omega))) (fun c_99 => ?_)
          have ea : f2 (3 * c0 + j) = q.1 c0 j := by rw [hm c0 j h_c0 h_j, if_neg (Nat.lt_irrefl _)]
          have eb : f2 (3 * (piv q.1 c0 ((sn σ) - 1 - c0)) + j) = q.1 (piv q.1 c0 ((sn σ) - 1 - c0)) j := by rw [hm (piv q.1 c0 ((sn σ) - 1 - c0)) j (by omega) h_j, if_neg (Nat.lt_irrefl _)]
          refine lv_aload_n hx hb dX7_solve_102 rfl (lv_at hl 3 rfl) ?_
          refine gX7 hx hb hg hown hI hP 0 rfl 20 rfl mF_X7_60 rfl dX7_solve_103 ?_
          refine lv_iconst (v := nI 3) hx hb dX7_solve_106 (by decide) ?_
          refine lv_iload_n hx hb dX7_solve_107 rfl (lv_at hl 2 rfl) ?_
          refine lv_imul hx hb dX7_solve_108 ?_
          refine xeqi (y := nI (3 * c0)) (pk_mul 3 c0) ?_
          refine lv_iload_n hx hb dX7_solve_109 rfl (lv_at hl 0 rfl) ?_
          refine lv_iadd hx hb dX7_solve_110 ?_
          refine xeqi (y := nI ((3 * c0) + j)) (nI_add (3 * c0) j) ?_
          refine xdald hx hb hI hP 3 0 rfl rfl (by omega) (by decide) dX7_solve_111 ?_
          refine xeqd (y := q.1 c0 j) ea ?_
          refine xpc (q := 112) rfl ?_
          refine lv_dstore (lv' := [(4, .double (q.1 c0 j)), (3, .int (nI j)), (2, .int (nI (piv q.1 c0 ((sn σ) - 1 - c0)))), (1, .int (nI c0)), (0, .ref (A 0))]) hx hb dX7_solve_112 hl (by decide) rfl (fun ls hl => ?_)
          refine lv_aload_n hx hb dX7_solve_114 rfl (lv_at hl 4 rfl) ?_
          refine gX7 hx hb hg hown hI hP 0 rfl 20 rfl mF_X7_60 rfl dX7_solve_115 ?_
          refine lv_iconst (v := nI 3) hx hb dX7_solve_118 (by decide) ?_
          refine lv_iload_n hx hb dX7_solve_119 rfl (lv_at hl 3 rfl) ?_
          refine lv_imul hx hb dX7_solve_120 ?_
          refine xeqi (y := nI (3 * c0)) (pk_mul 3 c0) ?_
          refine lv_iload_n hx hb dX7_solve_121 rfl (lv_at hl 1 rfl) ?_
          refine lv_iadd hx hb dX7_solve_122 ?_
          refine xeqi (y := nI ((3 * c0) + j)) (nI_add (3 * c0) j) ?_
          refine lv_aload_n hx hb dX7_solve_123 rfl (lv_at hl 4 rfl) ?_
          refine gX7 hx hb hg hown hI hP 0 rfl 20 rfl mF_X7_60 rfl dX7_solve_124 ?_
          refine lv_iconst (v := nI 3) hx hb dX7_solve_127 (by decide) ?_
          refine lv_iload_n hx hb dX7_solve_128 rfl (lv_at hl 2 rfl) ?_
          refine lv_imul hx hb dX7_solve_129 ?_
          refine xeqi (y := nI (3 * (piv q.1 c0 ((sn σ) - 1 - c0)))) (pk_mul 3 (piv q.1 c0 ((sn σ) - 1 - c0))) ?_
          refine lv_iload_n hx hb dX7_solve_130 rfl (lv_at hl 1 rfl) ?_
          refine xpc (q := 131) rfl ?_
          refine lv_iadd hx hb dX7_solve_131 ?_
          refine xeqi (y := nI ((3 * (piv q.1 c0 ((sn σ) - 1 - c0))) + j)) (nI_add (3 * (piv q.1 c0 ((sn σ) - 1 - c0))) j) ?_
          refine xdald hx hb hI hP 3 0 rfl rfl (by omega) (by decide) dX7_solve_132 ?_
          refine xeqd (y := q.1 (piv q.1 c0 ((sn σ) - 1 - c0)) j) eb ?_
          refine xdast hx hb hI hP hd rfl hS 3 0 rfl rfl (by omega) (by decide) (pmS (pmS (pmS pm0))) dX7_solve_133 (fun H locs hP hS => ?_)
          have hP : va_P D vwCl [(A 0, mO A th (nI (sn σ)) (nI (sc σ)) t sh tl er (nI 0) kp ks tk tz sp wd lv dn rf ev), (A 10, dA cD 3 d0), (A 11, dA cD 3 R1), (A 13, dA cD 9 (vf_upd f2 ((3 * c0) + j) (q.1 (piv q.1 c0 ((sn σ) - 1 - c0)) j)))] H := hP
          refine lv_aload_n hx hb dX7_solve_134 rfl (lv_at hl 4 rfl) ?_
          refine gX7 hx hb hg hown hI hP 0 rfl 20 rfl mF_X7_60 rfl dX7_solve_135 ?_
          refine lv_iconst (v := nI 3) hx hb dX7_solve_138 (by decide) ?_
          refine lv_iload_n hx hb dX7_solve_139 rfl (lv_at hl 2 rfl) ?_
          refine lv_imul hx hb dX7_solve_140 ?_
          refine xeqi (y := nI (3 * (piv q.1 c0 ((sn σ) - 1 - c0)))) (pk_mul 3 (piv q.1 c0 ((sn σ) - 1 - c0))) ?_
          refine lv_iload_n hx hb dX7_solve_141 rfl (lv_at hl 1 rfl) ?_
          refine lv_iadd hx hb dX7_solve_142 ?_
          refine xeqi (y := nI ((3 * (piv q.1 c0 ((sn σ) - 1 - c0))) + j)) (nI_add (3 * (piv q.1 c0 ((sn σ) - 1 - c0))) j) ?_
          refine lv_dload hx hb dX7_solve_143 (lv_at hl 0 rfl) ?_
          refine xdast hx hb hI hP hd rfl hS 3 0 rfl rfl (by omega) (by decide) (pmS (pmS (pmS pm0))) dX7_solve_145 (fun H locs hP hS => ?_)
          have hP : va_P D vwCl [(A 0, mO A th (nI (sn σ)) (nI (sc σ)) t sh tl er (nI 0) kp ks tk tz sp wd lv dn rf ev), (A 10, dA cD 3 d0), (A 11, dA cD 3 R1), (A 13, dA cD 9 (vf_upd (vf_upd f2 ((3 * c0) + j) (q.1 (piv q.1 c0 ((sn σ) - 1 - c0)) j)) ((3 * (piv q.1 c0 ((sn σ) - 1 - c0))) + j) (q.1 c0 j)))] H := hP
          refine lv_iinc (v := nI (j + 1)) (lv' := [(3, .int (nI (j + 1))), (4, .double (q.1 c0 j)), (2, .int (nI (piv q.1 c0 ((sn σ) - 1 - c0)))), (1, .int (nI c0)), (0, .ref (A 0))]) hx hb dX7_solve_146 hl (k := 1) rfl (nI_1 j) (by decide) rfl (fun ls hl => ?_)
          refine lv_goto (tgt := 94) hx hb dX7_solve_149 (by decide) ?_
          have hm' : ∀ i jj, i < (sn σ) → jj < (sn σ) → (vf_upd (vf_upd f2 (3 * c0 + j) (q.1 (piv q.1 c0 ((sn σ) - 1 - c0)) j)) (3 * (piv q.1 c0 ((sn σ) - 1 - c0)) + j) (q.1 c0 j)) (3 * i + jj) = if jj < j + 1 then exM q.1 c0 (piv q.1 c0 ((sn σ) - 1 - c0)) i jj else q.1 i jj := by
            intro i jj hi hq2
            by_cases hqj : jj = j
            · subst hqj
              rw [if_pos (Nat.lt_succ_self _)]
              by_cases hib : i = piv q.1 c0 ((sn σ) - 1 - c0)
              · subst hib
                rw [fl_s]
                unfold exM
                by_cases hia : piv q.1 c0 ((sn σ) - 1 - c0) = c0
                · rw [if_pos hia, hia]
                · rw [if_neg hia, if_pos rfl]
              · rw [fl_n (fun z => hib z.1) (by omega) (by omega)]
                by_cases hia : i = c0
                · subst hia; rw [fl_s]; unfold exM; rw [if_pos rfl]
                · rw [fl_n (fun z => hia z.1) (by omega) (by omega), hm i jj hi hq2, if_neg (Nat.lt_irrefl _)]; unfold exM; rw [if_neg hia, if_neg hib]
            · rw [fl_n (fun z => hqj z.2) (by omega) (by omega), fl_n (fun z => hqj z.2) (by omega) (by omega), hm i jj hi hq2]
              by_cases hlt : jj < j
              · rw [if_pos hlt, if_pos (by omega)]
              · rw [if_neg hlt, if_neg (by omega)]
          exact ih3 _ _ _ ⟨_, hm', hP, hS, lv_sub hl [0, 2, 3, 4] rfl⟩
        ·
          intro H locs ls ⟨f2, hm, hP, hS, hl⟩
          refine lv_iload_n hx hb dX7_solve_94 rfl (lv_at hl 0 rfl) ?_
          refine lv_aload_n hx hb dX7_solve_95 rfl (lv_at hl 3 rfl) ?_
          refine gX7 hx hb hg hown hI hP 0 rfl 1 rfl mF_X7_7 rfl dX7_solve_96 ?_
          refine lv_icmp_ge (tgt := 152) hx hb dX7_solve_99 (by decide) (fun c_99 => ?_) (fun c_99 => absurd (Int32.le_refl _) c_99)
          refine lv_aload_n hx hb dX7_solve_152 rfl (lv_at hl 3 rfl) ?_
          refine gX7 hx hb hg hown hI hP 0 rfl 18 rfl mF_X7_54 rfl dX7_solve_153 ?_
          refine lv_iload_n hx hb dX7_solve_156 rfl (lv_at hl 2 rfl) ?_
          refine xdald hx hb hI hP 2 0 rfl rfl (by omega) (by decide) dX7_solve_157 ?_
          refine lv_dstore_n (lv' := [(3, .double (R1 c0)), (2, .int (nI (piv q.1 c0 ((sn σ) - 1 - c0)))), (1, .int (nI c0)), (0, .ref (A 0))]) hx hb dX7_solve_158 rfl hl (by decide) rfl (fun ls hl => ?_)
          refine lv_aload_n hx hb dX7_solve_159 rfl (lv_at hl 3 rfl) ?_
          refine gX7 hx hb hg hown hI hP 0 rfl 18 rfl mF_X7_54 rfl dX7_solve_160 ?_
          refine lv_iload_n hx hb dX7_solve_163 rfl (lv_at hl 2 rfl) ?_
          refine xpc (q := 164) rfl ?_
          refine lv_aload_n hx hb dX7_solve_164 rfl (lv_at hl 3 rfl) ?_
          refine gX7 hx hb hg hown hI hP 0 rfl 18 rfl mF_X7_54 rfl dX7_solve_165 ?_
          refine lv_iload_n hx hb dX7_solve_168 rfl (lv_at hl 1 rfl) ?_
          refine xdald hx hb hI hP 2 0 rfl rfl (by omega) (by decide) dX7_solve_169 ?_
          refine xdast hx hb hI hP hd rfl hS 2 0 rfl rfl (by omega) (by decide) (pmS (pmS pm0)) dX7_solve_170 (fun H locs hP hS => ?_)
          have hP : va_P D vwCl [(A 0, mO A th (nI (sn σ)) (nI (sc σ)) t sh tl er (nI 0) kp ks tk tz sp wd lv dn rf ev), (A 10, dA cD 3 d0), (A 11, dA cD 3 (vf_upd R1 c0 (R1 (piv q.1 c0 ((sn σ) - 1 - c0))))), (A 13, dA cD 9 f2)] H := hP
          refine lv_aload_n hx hb dX7_solve_171 rfl (lv_at hl 3 rfl) ?_
          refine gX7 hx hb hg hown hI hP 0 rfl 18 rfl mF_X7_54 rfl dX7_solve_172 ?_
          refine lv_iload_n hx hb dX7_solve_175 rfl (lv_at hl 1 rfl) ?_
          refine lv_dload_n hx hb dX7_solve_176 rfl (lv_at hl 0 rfl) ?_
          refine xdast hx hb hI hP hd rfl hS 2 0 rfl rfl (by omega) (by decide) (pmS (pmS pm0)) dX7_solve_177 (fun H locs hP hS => ?_)
          have hP : va_P D vwCl [(A 0, mO A th (nI (sn σ)) (nI (sc σ)) t sh tl er (nI 0) kp ks tk tz sp wd lv dn rf ev), (A 10, dA cD 3 d0), (A 11, dA cD 3 (vf_upd (vf_upd R1 c0 (R1 (piv q.1 c0 ((sn σ) - 1 - c0)))) (piv q.1 c0 ((sn σ) - 1 - c0)) (R1 c0))), (A 13, dA cD 9 f2)] H := hP
          have hr1 : agV (sn σ) (vf_upd (vf_upd R1 c0 (R1 (piv q.1 c0 ((sn σ) - 1 - c0)))) (piv q.1 c0 ((sn σ) - 1 - c0)) (R1 c0)) (exR q.2 c0 (piv q.1 c0 ((sn σ) - 1 - c0))) := by
            intro i hi
            unfold exR
            by_cases hib : i = piv q.1 c0 ((sn σ) - 1 - c0)
            · rw [hib, vu_s]
              by_cases hia : piv q.1 c0 ((sn σ) - 1 - c0) = c0
              · rw [if_pos hia, hia]; exact hrq c0 h_c0
              · rw [if_neg hia, if_pos rfl]; exact hrq c0 h_c0
            · rw [vu_n hib]
              by_cases hia : i = c0
              · rw [hia, vu_s, if_pos rfl]; exact hrq _ (by omega)
              · rw [vu_n hia, if_neg hia, if_neg hib]; exact hrq i hi
          have hme : ∀ i jj, i < (sn σ) → jj < (sn σ) → f2 (3 * i + jj) = exM q.1 c0 (piv q.1 c0 ((sn σ) - 1 - c0)) i jj := fun i jj hi hj => by rw [hm i jj hi hj, if_pos hj]
          refine lv_iload_n hx hb dX7_solve_178 rfl (lv_at hl 2 rfl) ?_
          refine lv_iconst (v := nI 1) hx hb dX7_solve_179 (by decide) ?_
          refine lv_iadd hx hb dX7_solve_180 ?_
          refine xeqi (y := nI (c0 + 1)) (nI_add c0 1) ?_
          refine lv_istore (lv' := [(5, .int (nI (c0 + 1))), (3, .double (R1 c0)), (2, .int (nI (piv q.1 c0 ((sn σ) - 1 - c0)))), (1, .int (nI c0)), (0, .ref (A 0))]) hx hb dX7_solve_181 hl (by decide) rfl (fun ls hl => ?_)
          refine xfor (I := fun x1 H locs ls => ∃ (f3 : Nat → UInt64) (R3 : Nat → UInt64), (∀ i jj, i < (sn σ) → jj < (sn σ) → f3 (3 * i + jj) = (tks (exM q.1 c0 (piv q.1 c0 ((sn σ) - 1 - c0))) (exR q.2 c0 (piv q.1 c0 ((sn σ) - 1 - c0))) c0 x1).1 i jj) ∧ (agV (sn σ) R3 (tks (exM q.1 c0 (piv q.1 c0 ((sn σ) - 1 - c0))) (exR q.2 c0 (piv q.1 c0 ((sn σ) - 1 - c0))) c0 x1).2) ∧ va_P D vwCl [(A 0, mO A th (nI (sn σ)) (nI (sc σ)) t sh tl er (nI 0) kp ks tk tz sp wd lv dn rf ev), (A 10, dA cD 3 d0), (A 11, dA cD 3 R3), (A 13, dA cD 9 f3)] H ∧ va_S (fun q => q ∈ ([A 0, A 10, A 11, A 13] : List Nat)) s.heap H locs ∧ lv_has ls 9 [(5, .int (nI (c0 + 1 + x1))), (1, .int (nI c0)), (0, .ref (A 0))]) ((sn σ) - 1 - c0) 0 ⟨_, _, hme, hr1, hP, hS, lv_sub hl [0, 3, 4] rfl⟩ (Nat.zero_le _) ?_ ?_
          ·
            intro x1 h_x1 ih4 H locs ls ⟨f3, R3, hm3, hr3, hP, hS, hl⟩
            refine xpc (q := 183) rfl ?_
            refine lv_iload hx hb dX7_solve_183 (lv_at hl 0 rfl) ?_
            refine lv_aload_n hx hb dX7_solve_185 rfl (lv_at hl 2 rfl) ?_
            refine gX7 hx hb hg hown hI hP 0 rfl 1 rfl mF_X7_7 rfl dX7_solve_186 ?_
            refine lv_icmp_ge (tgt := 303) hx hb dX7_solve_189 (by decide) (fun c_189 => absurd c_189 (nI_ge (show c0 + 1 + x1 < (sn σ) by omega) (by omega))) (fun c_189 => ?_)
            have hcb : 2 * mb c0 + 31 ≤ 1000 ∧ mb c0 + rb c0 + 31 ≤ 1000 := by rcases (show c0 = 0 ∨ c0 = 1 by omega) with rfl | rfl <;> decide
            obtain ⟨ht1, ht2⟩ := tks_bd hexb h_c0 hlb hcb.1 hcb.2 x1 (by omega)
            have hbR := bM_rows hexb ht1 h_c0 (show c0 + 1 + x1 < (sn σ) by omega)
            have hlT : lbd 1044 ((tks (exM q.1 c0 (piv q.1 c0 ((sn σ) - 1 - c0))) (exR q.2 c0 (piv q.1 c0 ((sn σ) - 1 - c0))) c0 x1).1 c0 c0) := by rw [(ht1 c0 (Or.inl (Nat.le_refl _))).1]; exact hlb
            refine lv_aload_n hx hb dX7_solve_192 rfl (lv_at hl 2 rfl) ?_
            refine gX7 hx hb hg hown hI hP 0 rfl 20 rfl mF_X7_60 rfl dX7_solve_193 ?_
            refine lv_iconst (v := nI 3) hx hb dX7_solve_196 (by decide) ?_
            refine lv_iload hx hb dX7_solve_197 (lv_at hl 0 rfl) ?_
            refine lv_imul hx hb dX7_solve_199 ?_
            refine xeqi (y := nI (3 * (c0 + 1 + x1))) (pk_mul 3 (c0 + 1 + x1)) ?_
            refine lv_iload_n hx hb dX7_solve_200 rfl (lv_at hl 1 rfl) ?_
            refine lv_iadd hx hb dX7_solve_201 ?_
            refine xeqi (y := nI ((3 * (c0 + 1 + x1)) + c0)) (nI_add (3 * (c0 + 1 + x1)) c0) ?_
            refine xdald hx hb hI hP 3 0 rfl rfl (by omega) (by decide) dX7_solve_202 ?_
            refine xeqd (y := (tks (exM q.1 c0 (piv q.1 c0 ((sn σ) - 1 - c0))) (exR q.2 c0 (piv q.1 c0 ((sn σ) - 1 - c0))) c0 x1).1 (c0 + 1 + x1) c0) (hm3 (c0 + 1 + x1) c0 (by omega) (by omega)) ?_
            refine lv_aload_n hx hb dX7_solve_203 rfl (lv_at hl 2 rfl) ?_
            refine gX7 hx hb hg hown hI hP 0 rfl 20 rfl mF_X7_60 rfl dX7_solve_204 ?_
            refine lv_iconst (v := nI 3) hx hb dX7_solve_207 (by decide) ?_
            refine xpc (q := 208) rfl ?_
            refine lv_iload_n hx hb dX7_solve_208 rfl (lv_at hl 1 rfl) ?_
            refine lv_imul hx hb dX7_solve_209 ?_
            refine xeqi (y := nI (3 * c0)) (pk_mul 3 c0) ?_
            refine lv_iload_n hx hb dX7_solve_210 rfl (lv_at hl 1 rfl) ?_
            refine lv_iadd hx hb dX7_solve_211 ?_
            refine xeqi (y := nI ((3 * c0) + c0)) (nI_add (3 * c0) c0) ?_
            refine xdald hx hb hI hP 3 0 rfl rfl (by omega) (by decide) dX7_solve_212 ?_
            refine xeqd (y := (tks (exM q.1 c0 (piv q.1 c0 ((sn σ) - 1 - c0))) (exR q.2 c0 (piv q.1 c0 ((sn σ) - 1 - c0))) c0 x1).1 c0 c0) (hm3 c0 c0 (by omega) (by omega)) ?_
            refine lv_ddiv hx hb dX7_solve_213 ((tq_bd hbR h_c0 (by omega) hlT (by omega)).nn) ?_
            refine lv_dstore (lv' := [(6, .double (FP.ddiv ((tks (exM q.1 c0 (piv q.1 c0 ((sn σ) - 1 - c0))) (exR q.2 c0 (piv q.1 c0 ((sn σ) - 1 - c0))) c0 x1).1 (c0 + 1 + x1) c0) ((tks (exM q.1 c0 (piv q.1 c0 ((sn σ) - 1 - c0))) (exR q.2 c0 (piv q.1 c0 ((sn σ) - 1 - c0))) c0 x1).1 c0 c0))), (5, .int (nI (c0 + 1 + x1))), (1, .int (nI c0)), (0, .ref (A 0))]) hx hb dX7_solve_214 hl (by decide) rfl (fun ls hl => ?_)
            refine lv_iload_n hx hb dX7_solve_216 rfl (lv_at hl 2 rfl) ?_
            refine lv_istore (lv' := [(8, .int (nI c0)), (6, .double (FP.ddiv ((tks (exM q.1 c0 (piv q.1 c0 ((sn σ) - 1 - c0))) (exR q.2 c0 (piv q.1 c0 ((sn σ) - 1 - c0))) c0 x1).1 (c0 + 1 + x1) c0) ((tks (exM q.1 c0 (piv q.1 c0 ((sn σ) - 1 - c0))) (exR q.2 c0 (piv q.1 c0 ((sn σ) - 1 - c0))) c0 x1).1 c0 c0))), (5, .int (nI (c0 + 1 + x1))), (1, .int (nI c0)), (0, .ref (A 0))]) hx hb dX7_solve_217 hl (by decide) rfl (fun ls hl => ?_)
            refine xfor (I := fun x2 H locs ls => ∃ (f4 : Nat → UInt64), (∀ i jj, i < (sn σ) → jj < (sn σ) → f4 (3 * i + jj) = if i = (c0 + 1 + x1) ∧ c0 ≤ jj ∧ jj < c0 + x2 then tkM (tks (exM q.1 c0 (piv q.1 c0 ((sn σ) - 1 - c0))) (exR q.2 c0 (piv q.1 c0 ((sn σ) - 1 - c0))) c0 x1).1 c0 (c0 + 1 + x1) i jj else (tks (exM q.1 c0 (piv q.1 c0 ((sn σ) - 1 - c0))) (exR q.2 c0 (piv q.1 c0 ((sn σ) - 1 - c0))) c0 x1).1 i jj) ∧ va_P D vwCl [(A 0, mO A th (nI (sn σ)) (nI (sc σ)) t sh tl er (nI 0) kp ks tk tz sp wd lv dn rf ev), (A 10, dA cD 3 d0), (A 11, dA cD 3 R3), (A 13, dA cD 9 f4)] H ∧ va_S (fun q => q ∈ ([A 0, A 10, A 11, A 13] : List Nat)) s.heap H locs ∧ lv_has ls 9 [(8, .int (nI (c0 + x2))), (6, .double (FP.ddiv ((tks (exM q.1 c0 (piv q.1 c0 ((sn σ) - 1 - c0))) (exR q.2 c0 (piv q.1 c0 ((sn σ) - 1 - c0))) c0 x1).1 (c0 + 1 + x1) c0) ((tks (exM q.1 c0 (piv q.1 c0 ((sn σ) - 1 - c0))) (exR q.2 c0 (piv q.1 c0 ((sn σ) - 1 - c0))) c0 x1).1 c0 c0))), (5, .int (nI (c0 + 1 + x1))), (1, .int (nI c0)), (0, .ref (A 0))]) ((sn σ) - c0) 0 ⟨_, (fun i jj hi hj => by rw [if_neg (by omega)]; exact hm3 i jj hi hj), hP, hS, lv_sub hl [0, 1, 2, 3, 4] rfl⟩ (Nat.zero_le _) ?_ ?_
            ·
              intro x2 h_x2 ih5 H locs ls ⟨f4, hm4, hP, hS, hl⟩
              refine lv_iload hx hb dX7_solve_219 (lv_at hl 0 rfl) ?_
              refine lv_aload_n hx hb dX7_solve_221 rfl (lv_at hl 4 rfl) ?_
              refine gX7 hx hb hg hown hI hP 0 rfl 1 rfl mF_X7_7 rfl dX7_solve_222 ?_
              refine lv_icmp_ge (tgt := 273) hx hb dX7_solve_225 (by decide) (fun c_225 => absurd c_225 (nI_ge (show c0 + x2 < (sn σ) by omega) (by omega))) (fun c_225 => ?_)
              have ek : f4 (3 * (c0 + 1 + x1) + (c0 + x2)) = (tks (exM q.1 c0 (piv q.1 c0 ((sn σ) - 1 - c0))) (exR q.2 c0 (piv q.1 c0 ((sn σ) - 1 - c0))) c0 x1).1 (c0 + 1 + x1) (c0 + x2) := by rw [hm4 (c0 + 1 + x1) _ (by omega) (by omega), if_neg (by omega)]
              have ek0 : f4 (3 * c0 + (c0 + x2)) = (tks (exM q.1 c0 (piv q.1 c0 ((sn σ) - 1 - c0))) (exR q.2 c0 (piv q.1 c0 ((sn σ) - 1 - c0))) c0 x1).1 c0 (c0 + x2) := by rw [hm4 c0 _ (by omega) (by omega), if_neg (by omega)]
              refine lv_aload_n hx hb dX7_solve_228 rfl (lv_at hl 4 rfl) ?_
              refine gX7 hx hb hg hown hI hP 0 rfl 20 rfl mF_X7_60 rfl dX7_solve_229 ?_
              refine lv_iconst (v := nI 3) hx hb dX7_solve_232 (by decide) ?_
              refine xpc (q := 233) rfl ?_
              refine lv_iload hx hb dX7_solve_233 (lv_at hl 2 rfl) ?_
              refine lv_imul hx hb dX7_solve_235 ?_
              refine xeqi (y := nI (3 * (c0 + 1 + x1))) (pk_mul 3 (c0 + 1 + x1)) ?_
              refine lv_iload hx hb dX7_solve_236 (lv_at hl 0 rfl) ?_
              refine lv_iadd hx hb dX7_solve_238 ?_
              refine xeqi (y := nI ((3 * (c0 + 1 + x1)) + (c0 + x2))) (nI_add (3 * (c0 + 1 + x1)) (c0 + x2)) ?_
              refine lv_aload_n hx hb dX7_solve_239 rfl (lv_at hl 4 rfl) ?_
              refine gX7 hx hb hg hown hI hP 0 rfl 20 rfl mF_X7_60 rfl dX7_solve_240 ?_
              refine lv_iconst (v := nI 3) hx hb dX7_solve_243 (by decide) ?_
              refine lv_iload hx hb dX7_solve_244 (lv_at hl 2 rfl) ?_
              refine lv_imul hx hb dX7_solve_246 ?_
              refine xeqi (y := nI (3 * (c0 + 1 + x1))) (pk_mul 3 (c0 + 1 + x1)) ?_
              refine lv_iload hx hb dX7_solve_247 (lv_at hl 0 rfl) ?_
              refine lv_iadd hx hb dX7_solve_249 ?_
              refine xeqi (y := nI ((3 * (c0 + 1 + x1)) + (c0 + x2))) (nI_add (3 * (c0 + 1 + x1)) (c0 + x2)) ?_
              refine xdald hx hb hI hP 3 0 rfl rfl (by omega) (by decide) dX7_solve_250 ?_
              refine xeqd (y := (tks (exM q.1 c0 (piv q.1 c0 ((sn σ) - 1 - c0))) (exR q.2 c0 (piv q.1 c0 ((sn σ) - 1 - c0))) c0 x1).1 (c0 + 1 + x1) (c0 + x2)) ek ?_
              refine lv_dload hx hb dX7_solve_251 (lv_at hl 1 rfl) ?_
              refine lv_aload_n hx hb dX7_solve_253 rfl (lv_at hl 4 rfl) ?_
              refine xpc (q := 254) rfl ?_
              refine gX7 hx hb hg hown hI hP 0 rfl 20 rfl mF_X7_60 rfl dX7_solve_254 ?_
              refine lv_iconst (v := nI 3) hx hb dX7_solve_257 (by decide) ?_
              refine lv_iload_n hx hb dX7_solve_258 rfl (lv_at hl 3 rfl) ?_
              refine lv_imul hx hb dX7_solve_259 ?_
              refine xeqi (y := nI (3 * c0)) (pk_mul 3 c0) ?_
              refine lv_iload hx hb dX7_solve_260 (lv_at hl 0 rfl) ?_
              refine lv_iadd hx hb dX7_solve_262 ?_
              refine xeqi (y := nI ((3 * c0) + (c0 + x2))) (nI_add (3 * c0) (c0 + x2)) ?_
              refine xdald hx hb hI hP 3 0 rfl rfl (by omega) (by decide) dX7_solve_263 ?_
              refine xeqd (y := (tks (exM q.1 c0 (piv q.1 c0 ((sn σ) - 1 - c0))) (exR q.2 c0 (piv q.1 c0 ((sn σ) - 1 - c0))) c0 x1).1 c0 (c0 + x2)) ek0 ?_
              refine lv_dmul hx hb dX7_solve_264 ((tm_bd (j := c0 + x2) hbR h_c0 (by omega) (by omega) hlT hcb.1).1.nn) ?_
              refine lv_dsub hx hb dX7_solve_265 ((tm_bd (j := c0 + x2) hbR h_c0 (by omega) (by omega) hlT hcb.1).2.nn) ?_
              refine xdast hx hb hI hP hd rfl hS 3 0 rfl rfl (by omega) (by decide) (pmS (pmS (pmS pm0))) dX7_solve_266 (fun H locs hP hS => ?_)
              have hP : va_P D vwCl [(A 0, mO A th (nI (sn σ)) (nI (sc σ)) t sh tl er (nI 0) kp ks tk tz sp wd lv dn rf ev), (A 10, dA cD 3 d0), (A 11, dA cD 3 R3), (A 13, dA cD 9 (vf_upd f4 ((3 * (c0 + 1 + x1)) + (c0 + x2)) (FP.dsub ((tks (exM q.1 c0 (piv q.1 c0 ((sn σ) - 1 - c0))) (exR q.2 c0 (piv q.1 c0 ((sn σ) - 1 - c0))) c0 x1).1 (c0 + 1 + x1) (c0 + x2)) (FP.dmul (FP.ddiv ((tks (exM q.1 c0 (piv q.1 c0 ((sn σ) - 1 - c0))) (exR q.2 c0 (piv q.1 c0 ((sn σ) - 1 - c0))) c0 x1).1 (c0 + 1 + x1) c0) ((tks (exM q.1 c0 (piv q.1 c0 ((sn σ) - 1 - c0))) (exR q.2 c0 (piv q.1 c0 ((sn σ) - 1 - c0))) c0 x1).1 c0 c0)) ((tks (exM q.1 c0 (piv q.1 c0 ((sn σ) - 1 - c0))) (exR q.2 c0 (piv q.1 c0 ((sn σ) - 1 - c0))) c0 x1).1 c0 (c0 + x2))))))] H := hP
              refine lv_iinc (v := nI (c0 + x2 + 1)) (lv' := [(8, .int (nI (c0 + x2 + 1))), (6, .double (FP.ddiv ((tks (exM q.1 c0 (piv q.1 c0 ((sn σ) - 1 - c0))) (exR q.2 c0 (piv q.1 c0 ((sn σ) - 1 - c0))) c0 x1).1 (c0 + 1 + x1) c0) ((tks (exM q.1 c0 (piv q.1 c0 ((sn σ) - 1 - c0))) (exR q.2 c0 (piv q.1 c0 ((sn σ) - 1 - c0))) c0 x1).1 c0 c0))), (5, .int (nI (c0 + 1 + x1))), (1, .int (nI c0)), (0, .ref (A 0))]) hx hb dX7_solve_267 hl (k := 0) rfl (nI_1 (c0 + x2)) (by decide) rfl (fun ls hl => ?_)
              refine lv_goto (tgt := 219) hx hb dX7_solve_270 (by decide) ?_
              have hm' : ∀ i jj, i < (sn σ) → jj < (sn σ) → (vf_upd f4 (3 * (c0 + 1 + x1) + (c0 + x2)) (FP.dsub ((tks (exM q.1 c0 (piv q.1 c0 ((sn σ) - 1 - c0))) (exR q.2 c0 (piv q.1 c0 ((sn σ) - 1 - c0))) c0 x1).1 (c0 + 1 + x1) (c0 + x2)) (FP.dmul (FP.ddiv ((tks (exM q.1 c0 (piv q.1 c0 ((sn σ) - 1 - c0))) (exR q.2 c0 (piv q.1 c0 ((sn σ) - 1 - c0))) c0 x1).1 (c0 + 1 + x1) c0) ((tks (exM q.1 c0 (piv q.1 c0 ((sn σ) - 1 - c0))) (exR q.2 c0 (piv q.1 c0 ((sn σ) - 1 - c0))) c0 x1).1 c0 c0)) ((tks (exM q.1 c0 (piv q.1 c0 ((sn σ) - 1 - c0))) (exR q.2 c0 (piv q.1 c0 ((sn σ) - 1 - c0))) c0 x1).1 c0 (c0 + x2))))) (3 * i + jj) = if i = (c0 + 1 + x1) ∧ c0 ≤ jj ∧ jj < c0 + (x2 + 1) then tkM (tks (exM q.1 c0 (piv q.1 c0 ((sn σ) - 1 - c0))) (exR q.2 c0 (piv q.1 c0 ((sn σ) - 1 - c0))) c0 x1).1 c0 (c0 + 1 + x1) i jj else (tks (exM q.1 c0 (piv q.1 c0 ((sn σ) - 1 - c0))) (exR q.2 c0 (piv q.1 c0 ((sn σ) - 1 - c0))) c0 x1).1 i jj := by
                intro i jj hi hq2
                by_cases h : i = (c0 + 1 + x1) ∧ jj = c0 + x2
                · obtain ⟨h1, h2⟩ := h
                  rw [h1, h2, fl_s, if_pos ⟨rfl, by omega, by omega⟩]
                  unfold tkM
                  rw [if_pos ⟨rfl, by omega⟩]
                · rw [fl_n h (by omega) (by omega), hm4 i jj hi hq2]
                  by_cases h2 : i = (c0 + 1 + x1) ∧ c0 ≤ jj ∧ jj < c0 + x2
                  · rw [if_pos h2, if_pos ⟨h2.1, h2.2.1, by omega⟩]
                  · rw [if_neg h2, if_neg (fun z => h2 ⟨z.1, z.2.1, by have := z.2.2; have : ¬ jj = c0 + x2 := fun e => h ⟨z.1, e⟩; omega⟩)]
              exact ih5 _ _ _ ⟨_, hm', hP, hS, lv_sub hl [0, 1, 2, 3, 4] rfl⟩
            ·
              intro H locs ls ⟨f4, hm4, hP, hS, hl⟩
              refine lv_iload hx hb dX7_solve_219 (lv_at hl 0 rfl) ?_
              refine lv_aload_n hx hb dX7_solve_221 rfl (lv_at hl 4 rfl) ?_
              refine gX7 hx hb hg hown hI hP 0 rfl 1 rfl mF_X7_7 rfl dX7_solve_222 ?_
              refine lv_icmp_ge (tgt := 273) hx hb dX7_solve_225 (by decide) (fun c_225 => ?_) (fun c_225 => absurd (nI_le (by omega) (by omega)) c_225)
              refine lv_aload_n hx hb dX7_solve_273 rfl (lv_at hl 4 rfl) ?_
              refine gX7 hx hb hg hown hI hP 0 rfl 18 rfl mF_X7_54 rfl dX7_solve_274 ?_
              refine lv_iload hx hb dX7_solve_277 (lv_at hl 2 rfl) ?_
              refine xpc (q := 279) rfl ?_
              refine lv_aload_n hx hb dX7_solve_279 rfl (lv_at hl 4 rfl) ?_
              refine gX7 hx hb hg hown hI hP 0 rfl 18 rfl mF_X7_54 rfl dX7_solve_280 ?_
              refine lv_iload hx hb dX7_solve_283 (lv_at hl 2 rfl) ?_
              refine xdald hx hb hI hP 2 0 rfl rfl (by omega) (by decide) dX7_solve_285 ?_
              refine xeqd (y := ((tks (exM q.1 c0 (piv q.1 c0 ((sn σ) - 1 - c0))) (exR q.2 c0 (piv q.1 c0 ((sn σ) - 1 - c0))) c0 x1).2) (c0 + 1 + x1)) (hr3 (c0 + 1 + x1) (by omega)) ?_
              refine lv_dload hx hb dX7_solve_286 (lv_at hl 1 rfl) ?_
              refine lv_aload_n hx hb dX7_solve_288 rfl (lv_at hl 4 rfl) ?_
              refine gX7 hx hb hg hown hI hP 0 rfl 18 rfl mF_X7_54 rfl dX7_solve_289 ?_
              refine lv_iload_n hx hb dX7_solve_292 rfl (lv_at hl 3 rfl) ?_
              refine xdald hx hb hI hP 2 0 rfl rfl (by omega) (by decide) dX7_solve_293 ?_
              refine xeqd (y := ((tks (exM q.1 c0 (piv q.1 c0 ((sn σ) - 1 - c0))) (exR q.2 c0 (piv q.1 c0 ((sn σ) - 1 - c0))) c0 x1).2) c0) (hr3 c0 (by omega)) ?_
              refine lv_dmul hx hb dX7_solve_294 ((tr_bd hbR h_c0 (by omega) hlT hcb.2).1.nn) ?_
              refine lv_dsub hx hb dX7_solve_295 ((tr_bd hbR h_c0 (by omega) hlT hcb.2).2.nn) ?_
              refine xdast hx hb hI hP hd rfl hS 2 0 rfl rfl (by omega) (by decide) (pmS (pmS pm0)) dX7_solve_296 (fun H locs hP hS => ?_)
              have hP : va_P D vwCl [(A 0, mO A th (nI (sn σ)) (nI (sc σ)) t sh tl er (nI 0) kp ks tk tz sp wd lv dn rf ev), (A 10, dA cD 3 d0), (A 11, dA cD 3 (vf_upd R3 (c0 + 1 + x1) (FP.dsub (((tks (exM q.1 c0 (piv q.1 c0 ((sn σ) - 1 - c0))) (exR q.2 c0 (piv q.1 c0 ((sn σ) - 1 - c0))) c0 x1).2) (c0 + 1 + x1)) (FP.dmul (FP.ddiv ((tks (exM q.1 c0 (piv q.1 c0 ((sn σ) - 1 - c0))) (exR q.2 c0 (piv q.1 c0 ((sn σ) - 1 - c0))) c0 x1).1 (c0 + 1 + x1) c0) ((tks (exM q.1 c0 (piv q.1 c0 ((sn σ) - 1 - c0))) (exR q.2 c0 (piv q.1 c0 ((sn σ) - 1 - c0))) c0 x1).1 c0 c0)) (((tks (exM q.1 c0 (piv q.1 c0 ((sn σ) - 1 - c0))) (exR q.2 c0 (piv q.1 c0 ((sn σ) - 1 - c0))) c0 x1).2) c0))))), (A 13, dA cD 9 f4)] H := hP
              refine lv_iinc (v := nI (c0 + 1 + x1 + 1)) (lv' := [(5, .int (nI (c0 + 1 + x1 + 1))), (8, .int (nI (c0 + ((sn σ) - c0)))), (6, .double (FP.ddiv ((tks (exM q.1 c0 (piv q.1 c0 ((sn σ) - 1 - c0))) (exR q.2 c0 (piv q.1 c0 ((sn σ) - 1 - c0))) c0 x1).1 (c0 + 1 + x1) c0) ((tks (exM q.1 c0 (piv q.1 c0 ((sn σ) - 1 - c0))) (exR q.2 c0 (piv q.1 c0 ((sn σ) - 1 - c0))) c0 x1).1 c0 c0))), (1, .int (nI c0)), (0, .ref (A 0))]) hx hb dX7_solve_297 hl (k := 2) rfl (nI_1 (c0 + 1 + x1)) (by decide) rfl (fun ls hl => ?_)
              refine lv_goto (tgt := 183) hx hb dX7_solve_300 (by decide) ?_
              have hr4 : agV (sn σ) (vf_upd R3 (c0 + 1 + x1) (FP.dsub ((tks (exM q.1 c0 (piv q.1 c0 ((sn σ) - 1 - c0))) (exR q.2 c0 (piv q.1 c0 ((sn σ) - 1 - c0))) c0 x1).2 (c0 + 1 + x1)) (FP.dmul (FP.ddiv ((tks (exM q.1 c0 (piv q.1 c0 ((sn σ) - 1 - c0))) (exR q.2 c0 (piv q.1 c0 ((sn σ) - 1 - c0))) c0 x1).1 (c0 + 1 + x1) c0) ((tks (exM q.1 c0 (piv q.1 c0 ((sn σ) - 1 - c0))) (exR q.2 c0 (piv q.1 c0 ((sn σ) - 1 - c0))) c0 x1).1 c0 c0)) ((tks (exM q.1 c0 (piv q.1 c0 ((sn σ) - 1 - c0))) (exR q.2 c0 (piv q.1 c0 ((sn σ) - 1 - c0))) c0 x1).2 c0)))) (tkR (tks (exM q.1 c0 (piv q.1 c0 ((sn σ) - 1 - c0))) (exR q.2 c0 (piv q.1 c0 ((sn σ) - 1 - c0))) c0 x1).1 (tks (exM q.1 c0 (piv q.1 c0 ((sn σ) - 1 - c0))) (exR q.2 c0 (piv q.1 c0 ((sn σ) - 1 - c0))) c0 x1).2 c0 (c0 + 1 + x1)) := by
                intro i hi
                unfold tkR
                by_cases h : i = (c0 + 1 + x1)
                · rw [h, vu_s, if_pos rfl]
                · rw [vu_n h, if_neg h]; exact hr3 i hi
              have hm5 : ∀ i jj, i < (sn σ) → jj < (sn σ) → f4 (3 * i + jj) = tkM (tks (exM q.1 c0 (piv q.1 c0 ((sn σ) - 1 - c0))) (exR q.2 c0 (piv q.1 c0 ((sn σ) - 1 - c0))) c0 x1).1 c0 (c0 + 1 + x1) i jj := by
                intro i j hi hj
                rw [hm4 i j hi hj]
                by_cases h : i = (c0 + 1 + x1) ∧ c0 ≤ j
                · rw [if_pos ⟨h.1, h.2, by omega⟩]
                · rw [if_neg (fun z => h ⟨z.1, z.2.1⟩)]
                  unfold tkM
                  rw [if_neg h]
              exact ih4 _ _ _ ⟨_, _, hm5, hr4, hP, hS, lv_sub hl [0, 3, 4] rfl⟩
          ·
            intro H locs ls ⟨f3, R3, hm3, hr3, hP, hS, hl⟩
            refine xpc (q := 183) rfl ?_
            refine lv_iload hx hb dX7_solve_183 (lv_at hl 0 rfl) ?_
            refine lv_aload_n hx hb dX7_solve_185 rfl (lv_at hl 2 rfl) ?_
            refine gX7 hx hb hg hown hI hP 0 rfl 1 rfl mF_X7_7 rfl dX7_solve_186 ?_
            refine lv_icmp_ge (tgt := 303) hx hb dX7_solve_189 (by decide) (fun c_189 => ?_) (fun c_189 => absurd (nI_le (by omega) (by omega)) c_189)
            refine lv_iinc (v := nI (c0 + 1)) (lv' := [(1, .int (nI (c0 + 1))), (5, .int (nI (c0 + 1 + ((sn σ) - 1 - c0)))), (0, .ref (A 0))]) hx hb dX7_solve_303 hl (k := 1) rfl (nI_1 c0) (by decide) rfl (fun ls hl => ?_)
            refine lv_goto (tgt := 2) hx hb dX7_solve_306 (by decide) ?_
            have hq2 : elm (sn σ) Mc Rc (c0 + 1) = some (tks (exM q.1 c0 (piv q.1 c0 ((sn σ) - 1 - c0))) (exR q.2 c0 (piv q.1 c0 ((sn σ) - 1 - c0))) c0 ((sn σ) - 1 - c0)) := by unfold elm; rw [hq]; exact if_neg c_82
            exact ih _ _ _ ⟨_, _, _, hq2, hm3, hr3, hP, hS, lv_sub hl [0, 2] rfl⟩
      ·
        have hno : elm (sn σ) Mc Rc (sn σ) = none := elm_none (c := c0 + 1) (by unfold elm; rw [hq]; exact if_pos c_82) (by omega)
        refine lv_aload_n hx hb dX7_solve_86 rfl (lv_at hl 3 rfl) ?_
        refine lv_iconst (v := nI 1) hx hb dX7_solve_87 (by decide) ?_
        refine pX7 hx hb hg hown hI hP hd rfl hS 0 rfl 13 rfl mF_X7_149 rfl (by decide) (by decide) (Nat.le_of_ble_eq_true rfl) pm0 dX7_solve_88 (fun H locs hP hS => ?_)
        have hP : va_P D vwCl [(A 0, mO A th (nI (sn σ)) (nI (sc σ)) t sh tl er (nI 1) kp ks tk tz sp wd lv dn rf ev), (A 10, dA cD 3 d0), (A 11, dA cD 3 R1), (A 13, dA cD 9 f1)] H := hP
        have hP : va_P D vwCl [(A 0, mO A th (nI (sn σ)) (nI (sc σ)) t sh tl er (bI (elm (sn σ) Mc Rc (sn σ)).isNone) kp ks tk tz sp wd lv dn rf ev), (A 10, dA cD 3 d0), (A 11, dA cD 3 R1), (A 13, dA cD 9 f1)] H := by rw [hno]; exact hP
        exact W.vret hx hb hr (fun tS hTS hWS => ⟨(f1, R1, d0), rfl, (fun q hq => by rw [hno] at hq; cases hq), by rw [hTS]; exact hP.sub [0, 1, 2, 3] rfl, hS.F hTS⟩) hS.2.2 dX7_solve_91
  ·
    intro H locs ls ⟨q, f1, R1, hq, hmq, hrq, hP, hS, hl⟩
    refine lv_iload_n hx hb dX7_solve_2 rfl (lv_at hl 0 rfl) ?_
    refine lv_aload_n hx hb dX7_solve_3 rfl (lv_at hl 1 rfl) ?_
    refine gX7 hx hb hg hown hI hP 0 rfl 1 rfl mF_X7_7 rfl dX7_solve_4 ?_
    refine lv_icmp_ge (tgt := 309) hx hb dX7_solve_7 (by decide) (fun c_7 => ?_) (fun c_7 => absurd (Int32.le_refl _) c_7)
    obtain ⟨hqb, hql⟩ := elm_bd hbM hn (sn σ) q (Nat.le_refl _) hq
    have hqb : bM (sn σ) 269 298 q.1 q.2 := hqb.up hn
    refine lv_aload_n hx hb dX7_solve_309 rfl (lv_at hl 1 rfl) ?_
    refine gX7 hx hb hg hown hI hP 0 rfl 1 rfl mF_X7_7 rfl dX7_solve_310 ?_
    refine lv_iconst (v := nI 1) hx hb dX7_solve_313 (by decide) ?_
    refine lv_isub hx hb dX7_solve_314 ?_
    refine lv_istore_n (lv' := [(1, .int ((nI (sn σ)) - (nI 1))), (0, .ref (A 0))]) hx hb dX7_solve_315 rfl hl (by decide) rfl (fun ls hl => ?_)
    refine xfor (I := fun x0 H locs ls => ∃ (d1 : Nat → UInt64), (∀ i, (sn σ) - x0 ≤ i → i < (sn σ) → d1 i = sbd q.1 q.2 (sn σ) x0 i) ∧ va_P D vwCl [(A 0, mO A th (nI (sn σ)) (nI (sc σ)) t sh tl er (nI 0) kp ks tk tz sp wd lv dn rf ev), (A 10, dA cD 3 d1), (A 11, dA cD 3 R1), (A 13, dA cD 9 f1)] H ∧ va_S (fun q => q ∈ ([A 0, A 10, A 11, A 13] : List Nat)) s.heap H locs ∧ lv_has ls 9 [(1, .int (nI ((sn σ) - x0) - nI 1)), (0, .ref (A 0))]) (sn σ) 0 ⟨_, (fun i h1 h2 => by omega), hP, hS, lv_sub hl [0, 1] rfl⟩ (Nat.zero_le _) ?_ ?_
    ·
      intro x0 h_x0 ih6 H locs ls ⟨d1, hd1, hP, hS, hl⟩
      have e2 : nI ((sn σ) - x0) - nI 1 = nI (sn σ - 1 - x0) := by rw [show (sn σ) - x0 = (sn σ - 1 - x0) + 1 by omega]; exact nI_pred _
      rw [e2] at hl
      have hin : sn σ - 1 - x0 < (sn σ) := by omega
      refine lv_iload_n hx hb dX7_solve_316 rfl (lv_at hl 0 rfl) ?_
      refine lv_if_lt (tgt := 393) hx hb dX7_solve_317 (by decide) (fun c_317 => absurd c_317 (nI_pos (show sn σ - 1 - x0 < 2 ^ 31 by omega))) (fun c_317 => ?_)
      refine lv_aload_n hx hb dX7_solve_320 rfl (lv_at hl 1 rfl) ?_
      refine gX7 hx hb hg hown hI hP 0 rfl 18 rfl mF_X7_54 rfl dX7_solve_321 ?_
      refine xpc (q := 324) rfl ?_
      refine lv_iload_n hx hb dX7_solve_324 rfl (lv_at hl 0 rfl) ?_
      refine xdald hx hb hI hP 2 0 rfl rfl (by omega) (by decide) dX7_solve_325 ?_
      refine xeqd (y := q.2 (sn σ - 1 - x0)) (hrq (sn σ - 1 - x0) (by omega)) ?_
      refine lv_dstore_n (lv' := [(2, .double (q.2 (sn σ - 1 - x0))), (1, .int (nI (sn σ - 1 - x0))), (0, .ref (A 0))]) hx hb dX7_solve_326 rfl hl (by decide) rfl (fun ls hl => ?_)
      refine lv_iload_n hx hb dX7_solve_327 rfl (lv_at hl 1 rfl) ?_
      refine lv_iconst (v := nI 1) hx hb dX7_solve_328 (by decide) ?_
      refine lv_iadd hx hb dX7_solve_329 ?_
      refine xeqi (y := nI ((sn σ - 1 - x0) + 1)) (nI_add (sn σ - 1 - x0) 1) ?_
      refine lv_istore (lv' := [(4, .int (nI ((sn σ - 1 - x0) + 1))), (2, .double (q.2 (sn σ - 1 - x0))), (1, .int (nI (sn σ - 1 - x0))), (0, .ref (A 0))]) hx hb dX7_solve_330 hl (by decide) rfl (fun ls hl => ?_)
      have hsb := (sbd_bd hqb hql hn x0 (by omega)).1
      refine xfor (I := fun x1 H locs ls => ∃ (a : UInt64), (a = lfd q.1 (sbd q.1 q.2 (sn σ) x0) q.2 (sn σ - 1 - x0) x1) ∧ va_P D vwCl [(A 0, mO A th (nI (sn σ)) (nI (sc σ)) t sh tl er (nI 0) kp ks tk tz sp wd lv dn rf ev), (A 10, dA cD 3 d1), (A 11, dA cD 3 R1), (A 13, dA cD 9 f1)] H ∧ va_S (fun q => q ∈ ([A 0, A 10, A 11, A 13] : List Nat)) s.heap H locs ∧ lv_has ls 9 [(4, .int (nI (sn σ - 1 - x0 + 1 + x1))), (2, .double a), (1, .int (nI (sn σ - 1 - x0))), (0, .ref (A 0))]) x0 0 ⟨_, rfl, hP, hS, lv_sub hl [0, 1, 2, 3] rfl⟩ (Nat.zero_le _) ?_ ?_
      ·
        intro x1 h_x1 ih2 H locs ls ⟨a, ha, hP, hS, hl⟩
        refine lv_iload hx hb dX7_solve_332 (lv_at hl 0 rfl) ?_
        refine lv_aload_n hx hb dX7_solve_334 rfl (lv_at hl 3 rfl) ?_
        refine gX7 hx hb hg hown hI hP 0 rfl 1 rfl mF_X7_7 rfl dX7_solve_335 ?_
        refine lv_icmp_ge (tgt := 369) hx hb dX7_solve_338 (by decide) (fun c_338 => absurd c_338 (nI_ge (show sn σ - 1 - x0 + 1 + x1 < (sn σ) by omega) (by omega))) (fun c_338 => ?_)
        have hql2 : 1 ≤ x0 ∧ x0 ≤ 2 := by omega
        have hDB : 28 ≤ db (x0 - 1) ∧ db (x0 - 1) ≤ 629 := by rcases (show x0 = 1 ∨ x0 = 2 by omega) with h | h <;> rw [h] <;> decide
        obtain ⟨hf1, hf2⟩ := lfd_bd (i := sn σ - 1 - x0) (d := sbd q.1 q.2 (sn σ) x0) hqb hin hDB (x1 + 1) (by omega) (by omega) (fun a ha => hsb _ (by omega) (by omega))
        refine lv_dload_n hx hb dX7_solve_341 rfl (lv_at hl 1 rfl) ?_
        refine lv_aload_n hx hb dX7_solve_342 rfl (lv_at hl 3 rfl) ?_
        refine gX7 hx hb hg hown hI hP 0 rfl 20 rfl mF_X7_60 rfl dX7_solve_343 ?_
        refine lv_iconst (v := nI 3) hx hb dX7_solve_346 (by decide) ?_
        refine xpc (q := 347) rfl ?_
        refine lv_iload_n hx hb dX7_solve_347 rfl (lv_at hl 2 rfl) ?_
        refine lv_imul hx hb dX7_solve_348 ?_
        refine xeqi (y := nI (3 * (sn σ - 1 - x0))) (pk_mul 3 (sn σ - 1 - x0)) ?_
        refine lv_iload hx hb dX7_solve_349 (lv_at hl 0 rfl) ?_
        refine lv_iadd hx hb dX7_solve_351 ?_
        refine xeqi (y := nI ((3 * (sn σ - 1 - x0)) + (sn σ - 1 - x0 + 1 + x1))) (nI_add (3 * (sn σ - 1 - x0)) (sn σ - 1 - x0 + 1 + x1)) ?_
        refine xdald hx hb hI hP 3 0 rfl rfl (by omega) (by decide) dX7_solve_352 ?_
        refine xeqd (y := q.1 (sn σ - 1 - x0) (sn σ - 1 - x0 + 1 + x1)) (hmq (sn σ - 1 - x0) (sn σ - 1 - x0 + 1 + x1) (by omega) (by omega)) ?_
        refine lv_aload_n hx hb dX7_solve_353 rfl (lv_at hl 3 rfl) ?_
        refine gX7 hx hb hg hown hI hP 0 rfl 17 rfl mF_X7_51 rfl dX7_solve_354 ?_
        refine lv_iload hx hb dX7_solve_357 (lv_at hl 0 rfl) ?_
        refine xdald hx hb hI hP 1 0 rfl rfl (by omega) (by decide) dX7_solve_359 ?_
        refine xeqd (y := (sbd q.1 q.2 (sn σ) x0) (sn σ - 1 - x0 + 1 + x1)) (hd1 (sn σ - 1 - x0 + 1 + x1) (by omega) (by omega)) ?_
        refine lv_dmul hx hb dX7_solve_360 ((hf2 x1 (by omega)).nn) ?_
        subst ha
        refine lv_dsub hx hb dX7_solve_361 hf1.nn ?_
        refine lv_dstore_n (lv' := [(2, .double (FP.dsub (lfd q.1 (sbd q.1 q.2 (sn σ) x0) q.2 (sn σ - 1 - x0) x1) (FP.dmul (q.1 (sn σ - 1 - x0) (sn σ - 1 - x0 + 1 + x1)) ((sbd q.1 q.2 (sn σ) x0) (sn σ - 1 - x0 + 1 + x1))))), (4, .int (nI (sn σ - 1 - x0 + 1 + x1))), (1, .int (nI (sn σ - 1 - x0))), (0, .ref (A 0))]) hx hb dX7_solve_362 rfl hl (by decide) rfl (fun ls hl => ?_)
        refine lv_iinc (v := nI (sn σ - 1 - x0 + 1 + x1 + 1)) (lv' := [(4, .int (nI (sn σ - 1 - x0 + 1 + x1 + 1))), (2, .double (FP.dsub (lfd q.1 (sbd q.1 q.2 (sn σ) x0) q.2 (sn σ - 1 - x0) x1) (FP.dmul (q.1 (sn σ - 1 - x0) (sn σ - 1 - x0 + 1 + x1)) ((sbd q.1 q.2 (sn σ) x0) (sn σ - 1 - x0 + 1 + x1))))), (1, .int (nI (sn σ - 1 - x0))), (0, .ref (A 0))]) hx hb dX7_solve_363 hl (k := 1) rfl (nI_1 (sn σ - 1 - x0 + 1 + x1)) (by decide) rfl (fun ls hl => ?_)
        refine lv_goto (tgt := 332) hx hb dX7_solve_366 (by decide) ?_
        exact ih2 _ _ _ ⟨_, rfl, hP, hS, lv_sub hl [0, 1, 2, 3] rfl⟩
      ·
        intro H locs ls ⟨a, ha, hP, hS, hl⟩
        refine lv_iload hx hb dX7_solve_332 (lv_at hl 0 rfl) ?_
        refine lv_aload_n hx hb dX7_solve_334 rfl (lv_at hl 3 rfl) ?_
        refine gX7 hx hb hg hown hI hP 0 rfl 1 rfl mF_X7_7 rfl dX7_solve_335 ?_
        refine lv_icmp_ge (tgt := 369) hx hb dX7_solve_338 (by decide) (fun c_338 => ?_) (fun c_338 => absurd (nI_le (by omega) (by omega)) c_338)
        subst ha
        refine lv_aload_n hx hb dX7_solve_369 rfl (lv_at hl 3 rfl) ?_
        refine gX7 hx hb hg hown hI hP 0 rfl 17 rfl mF_X7_51 rfl dX7_solve_370 ?_
        refine lv_iload_n hx hb dX7_solve_373 rfl (lv_at hl 2 rfl) ?_
        refine lv_dload_n hx hb dX7_solve_374 rfl (lv_at hl 1 rfl) ?_
        refine xpc (q := 375) rfl ?_
        refine lv_aload_n hx hb dX7_solve_375 rfl (lv_at hl 3 rfl) ?_
        refine gX7 hx hb hg hown hI hP 0 rfl 20 rfl mF_X7_60 rfl dX7_solve_376 ?_
        refine lv_iconst (v := nI 3) hx hb dX7_solve_379 (by decide) ?_
        refine lv_iload_n hx hb dX7_solve_380 rfl (lv_at hl 2 rfl) ?_
        refine lv_imul hx hb dX7_solve_381 ?_
        refine xeqi (y := nI (3 * (sn σ - 1 - x0))) (pk_mul 3 (sn σ - 1 - x0)) ?_
        refine lv_iload_n hx hb dX7_solve_382 rfl (lv_at hl 2 rfl) ?_
        refine lv_iadd hx hb dX7_solve_383 ?_
        refine xeqi (y := nI ((3 * (sn σ - 1 - x0)) + (sn σ - 1 - x0))) (nI_add (3 * (sn σ - 1 - x0)) (sn σ - 1 - x0)) ?_
        refine xdald hx hb hI hP 3 0 rfl rfl (by omega) (by decide) dX7_solve_384 ?_
        refine xeqd (y := q.1 (sn σ - 1 - x0) (sn σ - 1 - x0)) (hmq (sn σ - 1 - x0) (sn σ - 1 - x0) (by omega) (by omega)) ?_
        refine lv_ddiv hx hb dX7_solve_385 (((sbd_bd hqb hql hn x0 (by omega)).2 (by omega)).nn) ?_
        refine xdast hx hb hI hP hd rfl hS 1 0 rfl rfl (by omega) (by decide) (pmS pm0) dX7_solve_386 (fun H locs hP hS => ?_)
        have hP : va_P D vwCl [(A 0, mO A th (nI (sn σ)) (nI (sc σ)) t sh tl er (nI 0) kp ks tk tz sp wd lv dn rf ev), (A 10, dA cD 3 (vf_upd d1 (sn σ - 1 - x0) (FP.ddiv (lfd q.1 (sbd q.1 q.2 (sn σ) x0) q.2 (sn σ - 1 - x0) x0) (q.1 (sn σ - 1 - x0) (sn σ - 1 - x0))))), (A 11, dA cD 3 R1), (A 13, dA cD 9 f1)] H := hP
        refine lv_iinc (v := nI ((sn σ) - (x0 + 1)) - nI 1) (lv' := [(1, .int (nI ((sn σ) - (x0 + 1)) - nI 1)), (4, .int (nI (sn σ - 1 - x0 + 1 + x0))), (2, .double (lfd q.1 (sbd q.1 q.2 (sn σ) x0) q.2 (sn σ - 1 - x0) x0)), (0, .ref (A 0))]) hx hb dX7_solve_387 hl (k := 2) rfl (by rw [show (sn σ) - (x0 + 1) = sn σ - 1 - x0 by omega]; exact i32_dec _) (by decide) rfl (fun ls hl => ?_)
        refine lv_goto (tgt := 316) hx hb dX7_solve_390 (by decide) ?_
        have hd2 : ∀ i, (sn σ) - (x0 + 1) ≤ i → i < (sn σ) → vf_upd d1 (sn σ - 1 - x0) (FP.ddiv (lfd q.1 (sbd q.1 q.2 (sn σ) x0) q.2 (sn σ - 1 - x0) x0) (q.1 (sn σ - 1 - x0) (sn σ - 1 - x0))) i = sbd q.1 q.2 (sn σ) (x0 + 1) i := by
          intro i h1 h2
          show _ = vf_upd (sbd q.1 q.2 (sn σ) x0) (sn σ - 1 - x0) _ i
          by_cases hi : i = sn σ - 1 - x0
          · rw [hi, vu_s, vu_s]
          · rw [vu_n hi, vu_n hi]; exact hd1 i (by omega) h2
        exact ih6 _ _ _ ⟨_, hd2, hP, hS, lv_sub hl [0, 3] rfl⟩
    ·
      intro H locs ls ⟨d1, hd1, hP, hS, hl⟩
      refine lv_iload_n hx hb dX7_solve_316 rfl (lv_at hl 0 rfl) ?_
      refine lv_if_lt (tgt := 393) hx hb dX7_solve_317 (by decide) (fun c_317 => ?_) (fun c_317 => absurd (by rw [Nat.sub_self]; decide) c_317)
      have hP : va_P D vwCl [(A 0, mO A th (nI (sn σ)) (nI (sc σ)) t sh tl er (bI (elm (sn σ) Mc Rc (sn σ)).isNone) kp ks tk tz sp wd lv dn rf ev), (A 10, dA cD 3 d1), (A 11, dA cD 3 R1), (A 13, dA cD 9 f1)] H := by rw [hq]; exact hP
      exact W.vret hx hb hr (fun tS hTS hWS => ⟨(f1, R1, d1), rfl, (fun q' hq' => by rw [hq] at hq'; cases hq'; exact fun i hi => hd1 i (by omega) hi), by rw [hTS]; exact hP.sub [0, 1, 2, 3] rfl, hS.F hTS⟩) hS.2.2 dX7_solve_393
