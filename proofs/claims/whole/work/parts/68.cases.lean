set_option maxHeartbeats 4000000 in
set_option maxRecDepth 100000 in
theorem law_c0 {p : Program} {e : Env} {s : State} {m : MethodId} {below : List Frame} {meth : Method} {c : Code} (l : Launch) (htr : l.stackTraces = false) {b L : Nat} {xs : Nat → Int32} (hL : L ≤ 2560) (C0 : lw_At p s m meth c b L xs) {D : va_G} {cD cI cM cL : ClassId} {A B : Nat → Nat} {rw : Nat → Option Nat} {oL oD : Nat} (hLX : LX D cD cI cM cL A B rw oL oD s) {N E k cells slots : Nat} (hN : N + 104 ≤ 53352) (hE : E + 100 < 2 ^ 29) (hk : 5 * k + 5 ≤ L) (hc1 : cells + 1 ≤ 662564) (hs1 : slots + 6 ≤ 7108413) {S : St} {v w : Nat → Nat → UInt64} {th fl : Int32} {fL : Nat → Int64} {fD : Nat → UInt64} {H : Heap} {locs : List Loc} {ls : Array Slot} (hH : LH D cD cI cM cL A B rw oL oD N E S v w th fl fL fD H) (hS : va_S (fun q => s.heap.size ≤ q) s.heap H locs) (hl : lv_has ls 10 [(5, .int (nI (5 * k))), (0, .ref b), (1, .ref (A 0)), (2, .ref (B 0)), (3, .ref oL), (4, .ref oD)])
    (kk : ∀ (S2 : St) (v2 w2 : Nat → Nat → UInt64) (th2 fl2 : Int32) (fL2 : Nat → Int64) (fD2 : Nat → UInt64) (H2 : Heap) (locs2 : List Loc) (ls2 : Array Slot), LH D cD cI cM cL A B rw oL oD (N + 104) (E + 100) S2 v2 w2 th2 fl2 fL2 fD2 H2 → va_S (fun q => s.heap.size ≤ q) s.heap H2 locs2 → lv_has ls2 10 [(5, .int (nI (5 * k))), (0, .ref b), (1, .ref (A 0)), (2, .ref (B 0)), (3, .ref oL), (4, .ref oD)] → W p l e room_1 s m #[Value.ref b] below meth c H2 locs2 (cells + 1) (slots + 6) (lw_Z below #[Value.ref b] s) (F0 m 1022 ls2 [])) : W p l e room_1 s m #[Value.ref b] below meth c H locs cells slots (lw_Z below #[Value.ref b] s) (F0 m 120 ls []) := by
  obtain ⟨hx, hb, hr, hml, hown, hts, hX, hbl, hlocks, hgv⟩ := id C0
  have hg := lw_sub hts
  have hown : s.vm.findClass RL = some m.cls := hown
  have hbA : ¬ (fun q : Nat => s.heap.size ≤ q) b := Nat.not_le.mpr hbl
  obtain ⟨⟨hI, hT, hNc, hZ0⟩, hrw, ⟨hdC, hdCL, hdCD, hdM⟩, hAll, hMx, hCL, hCD, hLD⟩ := id hLX
  obtain ⟨hv, hen, hkp, hPc, hPm, hPl, hPd⟩ := hH
  have hB : ((N * 2 ^ 1074 : Nat) : Int) ≤ BT := Int.ofNat_le.mpr (Nat.mul_le_mul_right _ (by omega))
  have hB4 : ((N * 2 ^ 1074 : Nat) : Int) ≤ (((N + 104) * 2 ^ 1074 : Nat) : Int) := Int.ofNat_le.mpr (Nat.mul_le_mul_right _ (by omega))
  have hB0 : (0 : Int) ≤ ((N * 2 ^ 1074 : Nat) : Int) := Int.natCast_nonneg _
  have hn : sn (gσ S) ≤ 3 := hv.1.2.1
  refine lv_aload_n hx hb dL_law_120 rfl (lv_at hl 2 rfl) ?_
  refine lv_aload_n hx hb dL_law_121 rfl (lv_at hl 1 rfl) ?_
  refine lv_iload hx hb dL_law_122 (lv_at hl 0 rfl) ?_
  refine lv_iconst (v := nI 1) hx hb dL_law_124 (by decide) ?_
  refine lv_iadd hx hb dL_law_125 ?_
  refine xeqi (y := nI ((5 * k) + 1)) (nI_add (5 * k) 1) ?_
  refine xsld hx hb hX hbl hbA hS (j := (5 * k) + 1) (by omega) (by omega) dL_law_126 ?_
  have hZ : tZ (fun q => q ∈ cAd A) s H := (hZ0.kept (fun a ha hna => hS.2.1 a ha hna)).narrow (fun q hq => hAll q (Or.inl hq))
  refine xpc (q := 127) rfl ?_
  refine xcRi (wo := (mW B cD cI (gσ S) S th fl w) ++ ([(oL, lA cL 1 fL)] ++ [(oD, dA cD 1 fD)])) (xLS (n := 2) (As := [.ref (A 0), .int (xs ((5 * k) + 1))]) (rest := []) hx hb hml hown hg (l_system l htr D cD cI cM cL A rw S v (xs ((5 * k) + 1))) mM_L_61 mT_L_system mC_L_system mN_L rfl rfl (by decide +kernel) ⟨Nat.le_of_ble_eq_true rfl, Nat.le_of_ble_eq_true rfl⟩ hI hPc hdC hT hNc hZ rfl hl.1 rfl (Nat.le_of_ble_eq_true rfl) dL_law_127 ⟨hc1, hs1⟩) (hPm.app (hPl.app hPd)) (fun x hx9 => (List.mem_append.mp hx9).elim (fun h => (hMx x h).1) (fun h => by rcases (show x = oL ∨ x = oD by simpa using h) with rfl | rfl; exact hCL; exact hCD)) hS (fun q hq => hAll q (Or.inl hq)) (fun _u H locs hu hPw hWo hS _ => ?_)
  have hPc := hPw
  have hPm := hWo.l
  have hO9 := hWo.r
  have hPl := hO9.l
  have hPd := hO9.r
  have hPc : va_P D vwCl (cW A rw cD cI cM (gσ ((sysP S (xs ((5 * k) + 1))).2)) ((sysP S (xs ((5 * k) + 1))).2) v) H := hPc
  refine xpc (q := 130) rfl ?_
  refine lv_istore (lv' := [(6, .int (nI ((sysP S (xs ((5 * k) + 1))).1))), (5, .int (nI (5 * k))), (0, .ref b), (1, .ref (A 0)), (2, .ref (B 0)), (3, .ref oL), (4, .ref oD)]) hx hb dL_law_130 hl (by decide) rfl (fun ls hl => ?_)
  refine lv_aload_n hx hb dL_law_132 rfl (lv_at hl 4 rfl) ?_
  refine lv_aload_n hx hb dL_law_133 rfl (lv_at hl 2 rfl) ?_
  refine lv_iload hx hb dL_law_134 (lv_at hl 1 rfl) ?_
  refine lv_iconst (v := nI 1) hx hb dL_law_136 (by decide) ?_
  refine lv_iadd hx hb dL_law_137 ?_
  refine xeqi (y := nI ((5 * k) + 1)) (nI_add (5 * k) 1) ?_
  refine xsld hx hb hX hbl hbA hS (j := (5 * k) + 1) (by omega) (by omega) dL_law_138 ?_
  refine xpc (q := 139) rfl ?_
  refine xcRv (wo := (cW A rw cD cI cM (gσ ((sysP S (xs ((5 * k) + 1))).2)) ((sysP S (xs ((5 * k) + 1))).2) v) ++ ([(oL, lA cL 1 fL)] ++ [(oD, dA cD 1 fD)])) (xLV (As := [.int (xs ((5 * k) + 1))]) (rest := []) (C := RX7) hx hb hml hown hg (g_system l D cD cI cM cL B S th fl w (xs ((5 * k) + 1))) mM_L_66 ok_X7_system rfl rfl ⟨Nat.le_of_ble_eq_true rfl, Nat.le_of_ble_eq_true rfl⟩ hI hPm hdM rfl rfl rfl hl.1 rfl (Nat.le_of_ble_eq_true rfl) dL_law_139 ⟨hc1, hs1⟩) (hPc.app (hPl.app hPd)) (fun x hx9 q => (List.mem_append.mp hx9).elim (hMx x q).1 (fun h => by rcases (show x = oL ∨ x = oD by simpa using h) with z | z; exact (hMx x q).2.1 z; exact (hMx x q).2.2 z)) hS (fun q hq => hAll q (Or.inr (Or.inl hq))) (fun _u H locs hu hPw hWo hS _ => ?_)
  have hPm := hPw
  have hPc := hWo.l
  have hO9 := hWo.r
  have hPl := hO9.l
  have hPd := hO9.r
  have hPm : va_P D vwCl (mW B cD cI (gσ ((sysP S (xs ((5 * k) + 1))).2)) ((sysP S (xs ((5 * k) + 1))).2) (nI (sysP S (xs ((5 * k) + 1))).1) fl w) H := hPm
  refine xpc (q := 142) rfl ?_
  refine lv_aload_n hx hb dL_law_142 rfl (lv_at hl 4 rfl) ?_
  refine xpc (q := 143) rfl ?_
  refine xcRi (wo := (cW A rw cD cI cM (gσ ((sysP S (xs ((5 * k) + 1))).2)) ((sysP S (xs ((5 * k) + 1))).2) v) ++ ([(oL, lA cL 1 fL)] ++ [(oD, dA cD 1 fD)])) (xLV (As := []) (rest := []) (C := RX7) hx hb hml hown hg (g_thrown l D cD cI cM cL B ((sysP S (xs ((5 * k) + 1))).2) (nI (sysP S (xs ((5 * k) + 1))).1) fl w ) mM_L_67 ok_X7_thrown rfl rfl ⟨Nat.le_of_ble_eq_true rfl, Nat.le_of_ble_eq_true rfl⟩ hI hPm hdM rfl rfl rfl hl.1 rfl (Nat.le_of_ble_eq_true rfl) dL_law_143 ⟨hc1, hs1⟩) (hPc.app (hPl.app hPd)) (fun x hx9 q => (List.mem_append.mp hx9).elim (hMx x q).1 (fun h => by rcases (show x = oL ∨ x = oD by simpa using h) with z | z; exact (hMx x q).2.1 z; exact (hMx x q).2.2 z)) hS (fun q hq => hAll q (Or.inr (Or.inl hq))) (fun _u8 H locs hu hPw hWo hS _ => ?_)
  have hPm := hPw
  have hPc := hWo.l
  have hO9 := hWo.r
  have hPl := hO9.l
  have hPd := hO9.r
  have hPm : va_P D vwCl (mW B cD cI (gσ ((sysP S (xs ((5 * k) + 1))).2)) ((sysP S (xs ((5 * k) + 1))).2) (nI (sysP S (xs ((5 * k) + 1))).1) fl w) H := hPm
  refine xpc (q := 146) rfl ?_
  refine lv_iload hx hb dL_law_146 (lv_at hl 0 rfl) ?_
  refine lv_icmp_eq (tgt := 153) hx hb dL_law_148 (by decide) (fun c_148 => ?_) (fun c_148 => absurd rfl c_148)
  refine lv_goto (tgt := 1022) hx hb dL_law_153 (by decide) ?_
  exact kk ((sysP S (xs ((5 * k) + 1))).2) v w (nI (sysP S (xs ((5 * k) + 1))).1) fl fL fD _ _ _ ⟨((inv_sys hv hB0).mono hB4 (by omega)), (enK_sys hen), (kpK_sys hkp), hPc, hPm, hPl, hPd⟩ hS (lv_sub hl [1, 2, 3, 4, 5, 6] rfl)

set_option maxHeartbeats 4000000 in
set_option maxRecDepth 100000 in
theorem law_c2 {p : Program} {e : Env} {s : State} {m : MethodId} {below : List Frame} {meth : Method} {c : Code} (l : Launch) (htr : l.stackTraces = false) {b L : Nat} {xs : Nat → Int32} (hL : L ≤ 2560) (C0 : lw_At p s m meth c b L xs) {D : va_G} {cD cI cM cL : ClassId} {A B : Nat → Nat} {rw : Nat → Option Nat} {oL oD : Nat} (hLX : LX D cD cI cM cL A B rw oL oD s) {N E k cells slots : Nat} (hN : N + 104 ≤ 53352) (hE : E + 100 < 2 ^ 29) (hk : 5 * k + 5 ≤ L) (hc1 : cells + 1 ≤ 662564) (hs1 : slots + 6 ≤ 7108413) {S : St} {v w : Nat → Nat → UInt64} {th fl : Int32} {fL : Nat → Int64} {fD : Nat → UInt64} {H : Heap} {locs : List Loc} {ls : Array Slot} (hH : LH D cD cI cM cL A B rw oL oD N E S v w th fl fL fD H) (hS : va_S (fun q => s.heap.size ≤ q) s.heap H locs) (hl : lv_has ls 10 [(5, .int (nI (5 * k))), (0, .ref b), (1, .ref (A 0)), (2, .ref (B 0)), (3, .ref oL), (4, .ref oD)])
    (kk : ∀ (S2 : St) (v2 w2 : Nat → Nat → UInt64) (th2 fl2 : Int32) (fL2 : Nat → Int64) (fD2 : Nat → UInt64) (H2 : Heap) (locs2 : List Loc) (ls2 : Array Slot), LH D cD cI cM cL A B rw oL oD (N + 104) (E + 100) S2 v2 w2 th2 fl2 fL2 fD2 H2 → va_S (fun q => s.heap.size ≤ q) s.heap H2 locs2 → lv_has ls2 10 [(5, .int (nI (5 * k))), (0, .ref b), (1, .ref (A 0)), (2, .ref (B 0)), (3, .ref oL), (4, .ref oD)] → W p l e room_1 s m #[Value.ref b] below meth c H2 locs2 (cells + 1) (slots + 6) (lw_Z below #[Value.ref b] s) (F0 m 1022 ls2 [])) : W p l e room_1 s m #[Value.ref b] below meth c H locs cells slots (lw_Z below #[Value.ref b] s) (F0 m 258 ls []) := by
  obtain ⟨hx, hb, hr, hml, hown, hts, hX, hbl, hlocks, hgv⟩ := id C0
  have hg := lw_sub hts
  have hown : s.vm.findClass RL = some m.cls := hown
  have hbA : ¬ (fun q : Nat => s.heap.size ≤ q) b := Nat.not_le.mpr hbl
  obtain ⟨⟨hI, hT, hNc, hZ0⟩, hrw, ⟨hdC, hdCL, hdCD, hdM⟩, hAll, hMx, hCL, hCD, hLD⟩ := id hLX
  obtain ⟨hv, hen, hkp, hPc, hPm, hPl, hPd⟩ := hH
  have hB : ((N * 2 ^ 1074 : Nat) : Int) ≤ BT := Int.ofNat_le.mpr (Nat.mul_le_mul_right _ (by omega))
  have hB4 : ((N * 2 ^ 1074 : Nat) : Int) ≤ (((N + 104) * 2 ^ 1074 : Nat) : Int) := Int.ofNat_le.mpr (Nat.mul_le_mul_right _ (by omega))
  have hB0 : (0 : Int) ≤ ((N * 2 ^ 1074 : Nat) : Int) := Int.natCast_nonneg _
  have hn : sn (gσ S) ≤ 3 := hv.1.2.1
  refine lv_aload_n hx hb dL_law_258 rfl (lv_at hl 2 rfl) ?_
  refine lv_aload_n hx hb dL_law_259 rfl (lv_at hl 1 rfl) ?_
  refine lv_iload hx hb dL_law_260 (lv_at hl 0 rfl) ?_
  refine lv_iconst (v := nI 1) hx hb dL_law_262 (by decide) ?_
  refine lv_iadd hx hb dL_law_263 ?_
  refine xeqi (y := nI ((5 * k) + 1)) (nI_add (5 * k) 1) ?_
  refine xsld hx hb hX hbl hbA hS (j := (5 * k) + 1) (by omega) (by omega) dL_law_264 ?_
  refine lv_aload_n hx hb dL_law_265 rfl (lv_at hl 1 rfl) ?_
  refine lv_iload hx hb dL_law_266 (lv_at hl 0 rfl) ?_
  refine lv_iconst (v := nI 2) hx hb dL_law_268 (by decide) ?_
  refine lv_iadd hx hb dL_law_269 ?_
  refine xeqi (y := nI ((5 * k) + 2)) (nI_add (5 * k) 2) ?_
  refine xsld hx hb hX hbl hbA hS (j := (5 * k) + 2) (by omega) (by omega) dL_law_270 ?_
  refine lv_i2d hx hb dL_law_271 ?_
  refine lv_ldc2d (v := k0_125) hx hb hown (hg _ mD_L_71) dL_law_272 ?_
  refine xpc (q := 275) rfl ?_
  refine lv_dmul hx hb dL_law_275 ((arg_bd _).nn) ?_
  have hZ : tZ (fun q => q ∈ cAd A) s H := (hZ0.kept (fun a ha hna => hS.2.1 a ha hna)).narrow (fun q hq => hAll q (Or.inl hq))
  refine xpc (q := 276) rfl ?_
  refine xcRi (wo := (mW B cD cI (gσ S) S th fl w) ++ ([(oL, lA cL 1 fL)] ++ [(oD, dA cD 1 fD)])) (xLS (n := 3) (As := [.ref (A 0), .int (xs ((5 * k) + 1)), .double (FP.dmul (FP.i2d (xs ((5 * k) + 2))) k0_125)]) (rest := []) hx hb hml hown hg (l_value l htr D cD cI cM cL A rw S v (xs ((5 * k) + 1)) (FP.dmul (FP.i2d (xs ((5 * k) + 2))) k0_125) hn) mM_L_77 mT_L_value mC_L_value mN_L rfl rfl (by decide +kernel) ⟨Nat.le_of_ble_eq_true rfl, Nat.le_of_ble_eq_true rfl⟩ hI hPc hdC hT hNc hZ rfl hl.1 rfl (Nat.le_of_ble_eq_true rfl) dL_law_276 ⟨hc1, hs1⟩) (hPm.app (hPl.app hPd)) (fun x hx9 => (List.mem_append.mp hx9).elim (fun h => (hMx x h).1) (fun h => by rcases (show x = oL ∨ x = oD by simpa using h) with rfl | rfl; exact hCL; exact hCD)) hS (fun q hq => hAll q (Or.inl hq)) (fun _u H locs hu hPw hWo hS _ => ?_)
  have hPc := hPw
  have hPm := hWo.l
  have hO9 := hWo.r
  have hPl := hO9.l
  have hPd := hO9.r
  have hPc : va_P D vwCl (cW A rw cD cI cM (gσ ((valP S (xs ((5 * k) + 1)) (FP.dmul (FP.i2d (xs ((5 * k) + 2))) k0_125)).2)) ((valP S (xs ((5 * k) + 1)) (FP.dmul (FP.i2d (xs ((5 * k) + 2))) k0_125)).2) v) H := hPc
  refine xpc (q := 279) rfl ?_
  refine lv_istore (lv' := [(6, .int (nI ((valP S (xs ((5 * k) + 1)) (FP.dmul (FP.i2d (xs ((5 * k) + 2))) k0_125)).1))), (5, .int (nI (5 * k))), (0, .ref b), (1, .ref (A 0)), (2, .ref (B 0)), (3, .ref oL), (4, .ref oD)]) hx hb dL_law_279 hl (by decide) rfl (fun ls hl => ?_)
  refine lv_aload_n hx hb dL_law_281 rfl (lv_at hl 4 rfl) ?_
  refine lv_aload_n hx hb dL_law_282 rfl (lv_at hl 2 rfl) ?_
  refine lv_iload hx hb dL_law_283 (lv_at hl 1 rfl) ?_
  refine lv_iconst (v := nI 1) hx hb dL_law_285 (by decide) ?_
  refine lv_iadd hx hb dL_law_286 ?_
  refine xeqi (y := nI ((5 * k) + 1)) (nI_add (5 * k) 1) ?_
  refine xsld hx hb hX hbl hbA hS (j := (5 * k) + 1) (by omega) (by omega) dL_law_287 ?_
  refine lv_aload_n hx hb dL_law_288 rfl (lv_at hl 2 rfl) ?_
  refine lv_iload hx hb dL_law_289 (lv_at hl 1 rfl) ?_
  refine lv_iconst (v := nI 2) hx hb dL_law_291 (by decide) ?_
  refine lv_iadd hx hb dL_law_292 ?_
  refine xeqi (y := nI ((5 * k) + 2)) (nI_add (5 * k) 2) ?_
  refine xsld hx hb hX hbl hbA hS (j := (5 * k) + 2) (by omega) (by omega) dL_law_293 ?_
  refine lv_i2d hx hb dL_law_294 ?_
  refine xpc (q := 295) rfl ?_
  refine lv_ldc2d (v := k0_125) hx hb hown (hg _ mD_L_71) dL_law_295 ?_
  refine lv_dmul hx hb dL_law_298 ((arg_bd _).nn) ?_
  refine xpc (q := 299) rfl ?_
  refine xcRv (wo := (cW A rw cD cI cM (gσ ((valP S (xs ((5 * k) + 1)) (FP.dmul (FP.i2d (xs ((5 * k) + 2))) k0_125)).2)) ((valP S (xs ((5 * k) + 1)) (FP.dmul (FP.i2d (xs ((5 * k) + 2))) k0_125)).2) v) ++ ([(oL, lA cL 1 fL)] ++ [(oD, dA cD 1 fD)])) (xLV (As := [.int (xs ((5 * k) + 1)), .double (FP.dmul (FP.i2d (xs ((5 * k) + 2))) k0_125)]) (rest := []) (C := RX7) hx hb hml hown hg (g_value l D cD cI cM cL B S th fl w (xs ((5 * k) + 1)) (FP.dmul (FP.i2d (xs ((5 * k) + 2))) k0_125) hn) mM_L_80 ok_X7_value rfl rfl ⟨Nat.le_of_ble_eq_true rfl, Nat.le_of_ble_eq_true rfl⟩ hI hPm hdM rfl rfl rfl hl.1 rfl (Nat.le_of_ble_eq_true rfl) dL_law_299 ⟨hc1, hs1⟩) (hPc.app (hPl.app hPd)) (fun x hx9 q => (List.mem_append.mp hx9).elim (hMx x q).1 (fun h => by rcases (show x = oL ∨ x = oD by simpa using h) with z | z; exact (hMx x q).2.1 z; exact (hMx x q).2.2 z)) hS (fun q hq => hAll q (Or.inr (Or.inl hq))) (fun _u H locs hu hPw hWo hS _ => ?_)
  have hPm := hPw
  have hPc := hWo.l
  have hO9 := hWo.r
  have hPl := hO9.l
  have hPd := hO9.r
  have hPm : va_P D vwCl (mW B cD cI (gσ ((valP S (xs ((5 * k) + 1)) (FP.dmul (FP.i2d (xs ((5 * k) + 2))) k0_125)).2)) ((valP S (xs ((5 * k) + 1)) (FP.dmul (FP.i2d (xs ((5 * k) + 2))) k0_125)).2) (nI (valP S (xs ((5 * k) + 1)) (FP.dmul (FP.i2d (xs ((5 * k) + 2))) k0_125)).1) fl w) H := hPm
  refine xpc (q := 302) rfl ?_
  refine lv_aload_n hx hb dL_law_302 rfl (lv_at hl 4 rfl) ?_
  refine xpc (q := 303) rfl ?_
  refine xcRi (wo := (cW A rw cD cI cM (gσ ((valP S (xs ((5 * k) + 1)) (FP.dmul (FP.i2d (xs ((5 * k) + 2))) k0_125)).2)) ((valP S (xs ((5 * k) + 1)) (FP.dmul (FP.i2d (xs ((5 * k) + 2))) k0_125)).2) v) ++ ([(oL, lA cL 1 fL)] ++ [(oD, dA cD 1 fD)])) (xLV (As := []) (rest := []) (C := RX7) hx hb hml hown hg (g_thrown l D cD cI cM cL B ((valP S (xs ((5 * k) + 1)) (FP.dmul (FP.i2d (xs ((5 * k) + 2))) k0_125)).2) (nI (valP S (xs ((5 * k) + 1)) (FP.dmul (FP.i2d (xs ((5 * k) + 2))) k0_125)).1) fl w ) mM_L_67 ok_X7_thrown rfl rfl ⟨Nat.le_of_ble_eq_true rfl, Nat.le_of_ble_eq_true rfl⟩ hI hPm hdM rfl rfl rfl hl.1 rfl (Nat.le_of_ble_eq_true rfl) dL_law_303 ⟨hc1, hs1⟩) (hPc.app (hPl.app hPd)) (fun x hx9 q => (List.mem_append.mp hx9).elim (hMx x q).1 (fun h => by rcases (show x = oL ∨ x = oD by simpa using h) with z | z; exact (hMx x q).2.1 z; exact (hMx x q).2.2 z)) hS (fun q hq => hAll q (Or.inr (Or.inl hq))) (fun _u8 H locs hu hPw hWo hS _ => ?_)
  have hPm := hPw
  have hPc := hWo.l
  have hO9 := hWo.r
  have hPl := hO9.l
  have hPd := hO9.r
  have hPm : va_P D vwCl (mW B cD cI (gσ ((valP S (xs ((5 * k) + 1)) (FP.dmul (FP.i2d (xs ((5 * k) + 2))) k0_125)).2)) ((valP S (xs ((5 * k) + 1)) (FP.dmul (FP.i2d (xs ((5 * k) + 2))) k0_125)).2) (nI (valP S (xs ((5 * k) + 1)) (FP.dmul (FP.i2d (xs ((5 * k) + 2))) k0_125)).1) fl w) H := hPm
  refine xpc (q := 306) rfl ?_
  refine lv_iload hx hb dL_law_306 (lv_at hl 0 rfl) ?_
  refine lv_icmp_eq (tgt := 313) hx hb dL_law_308 (by decide) (fun c_308 => ?_) (fun c_308 => absurd rfl c_308)
  refine lv_goto (tgt := 1022) hx hb dL_law_313 (by decide) ?_
  exact kk ((valP S (xs ((5 * k) + 1)) (FP.dmul (FP.i2d (xs ((5 * k) + 2))) k0_125)).2) v w (nI (valP S (xs ((5 * k) + 1)) (FP.dmul (FP.i2d (xs ((5 * k) + 2))) k0_125)).1) fl fL fD _ _ _ ⟨((inv_val (arg_bd _).1 hv).mono hB4 (by omega)), (enK_val hen), (kpK_val hkp), hPc, hPm, hPl, hPd⟩ hS (lv_sub hl [1, 2, 3, 4, 5, 6] rfl)

set_option maxHeartbeats 4000000 in
set_option maxRecDepth 100000 in
theorem law_c3 {p : Program} {e : Env} {s : State} {m : MethodId} {below : List Frame} {meth : Method} {c : Code} (l : Launch) (htr : l.stackTraces = false) {b L : Nat} {xs : Nat → Int32} (hL : L ≤ 2560) (C0 : lw_At p s m meth c b L xs) {D : va_G} {cD cI cM cL : ClassId} {A B : Nat → Nat} {rw : Nat → Option Nat} {oL oD : Nat} (hLX : LX D cD cI cM cL A B rw oL oD s) {N E k cells slots : Nat} (hN : N + 104 ≤ 53352) (hE : E + 100 < 2 ^ 29) (hk : 5 * k + 5 ≤ L) (hc1 : cells + 1 ≤ 662564) (hs1 : slots + 6 ≤ 7108413) {S : St} {v w : Nat → Nat → UInt64} {th fl : Int32} {fL : Nat → Int64} {fD : Nat → UInt64} {H : Heap} {locs : List Loc} {ls : Array Slot} (hH : LH D cD cI cM cL A B rw oL oD N E S v w th fl fL fD H) (hS : va_S (fun q => s.heap.size ≤ q) s.heap H locs) (hl : lv_has ls 10 [(5, .int (nI (5 * k))), (0, .ref b), (1, .ref (A 0)), (2, .ref (B 0)), (3, .ref oL), (4, .ref oD)])
    (kk : ∀ (S2 : St) (v2 w2 : Nat → Nat → UInt64) (th2 fl2 : Int32) (fL2 : Nat → Int64) (fD2 : Nat → UInt64) (H2 : Heap) (locs2 : List Loc) (ls2 : Array Slot), LH D cD cI cM cL A B rw oL oD (N + 104) (E + 100) S2 v2 w2 th2 fl2 fL2 fD2 H2 → va_S (fun q => s.heap.size ≤ q) s.heap H2 locs2 → lv_has ls2 10 [(5, .int (nI (5 * k))), (0, .ref b), (1, .ref (A 0)), (2, .ref (B 0)), (3, .ref oL), (4, .ref oD)] → W p l e room_1 s m #[Value.ref b] below meth c H2 locs2 (cells + 1) (slots + 6) (lw_Z below #[Value.ref b] s) (F0 m 1022 ls2 [])) : W p l e room_1 s m #[Value.ref b] below meth c H locs cells slots (lw_Z below #[Value.ref b] s) (F0 m 316 ls []) := by
  obtain ⟨hx, hb, hr, hml, hown, hts, hX, hbl, hlocks, hgv⟩ := id C0
  have hg := lw_sub hts
  have hown : s.vm.findClass RL = some m.cls := hown
  have hbA : ¬ (fun q : Nat => s.heap.size ≤ q) b := Nat.not_le.mpr hbl
  obtain ⟨⟨hI, hT, hNc, hZ0⟩, hrw, ⟨hdC, hdCL, hdCD, hdM⟩, hAll, hMx, hCL, hCD, hLD⟩ := id hLX
  obtain ⟨hv, hen, hkp, hPc, hPm, hPl, hPd⟩ := hH
  have hB : ((N * 2 ^ 1074 : Nat) : Int) ≤ BT := Int.ofNat_le.mpr (Nat.mul_le_mul_right _ (by omega))
  have hB4 : ((N * 2 ^ 1074 : Nat) : Int) ≤ (((N + 104) * 2 ^ 1074 : Nat) : Int) := Int.ofNat_le.mpr (Nat.mul_le_mul_right _ (by omega))
  have hB0 : (0 : Int) ≤ ((N * 2 ^ 1074 : Nat) : Int) := Int.natCast_nonneg _
  have hn : sn (gσ S) ≤ 3 := hv.1.2.1
  refine lv_aload_n hx hb dL_law_316 rfl (lv_at hl 2 rfl) ?_
  refine lv_aload_n hx hb dL_law_317 rfl (lv_at hl 1 rfl) ?_
  refine lv_iload hx hb dL_law_318 (lv_at hl 0 rfl) ?_
  refine lv_iconst (v := nI 1) hx hb dL_law_320 (by decide) ?_
  refine lv_iadd hx hb dL_law_321 ?_
  refine xeqi (y := nI ((5 * k) + 1)) (nI_add (5 * k) 1) ?_
  refine xsld hx hb hX hbl hbA hS (j := (5 * k) + 1) (by omega) (by omega) dL_law_322 ?_
  refine lv_i2d hx hb dL_law_323 ?_
  refine lv_ldc2d (v := k0_125) hx hb hown (hg _ mD_L_71) dL_law_324 ?_
  refine lv_dmul hx hb dL_law_327 ((arg_bd _).nn) ?_
  refine lv_aload_n hx hb dL_law_328 rfl (lv_at hl 1 rfl) ?_
  refine lv_iload hx hb dL_law_329 (lv_at hl 0 rfl) ?_
  refine lv_iconst (v := nI 2) hx hb dL_law_331 (by decide) ?_
  refine lv_iadd hx hb dL_law_332 ?_
  refine xeqi (y := nI ((5 * k) + 2)) (nI_add (5 * k) 2) ?_
  refine xpc (q := 333) rfl ?_
  refine xsld hx hb hX hbl hbA hS (j := (5 * k) + 2) (by omega) (by omega) dL_law_333 ?_
  refine lv_i2d hx hb dL_law_334 ?_
  refine lv_ldc2d (v := k0_125) hx hb hown (hg _ mD_L_71) dL_law_335 ?_
  refine lv_dmul hx hb dL_law_338 ((arg_bd _).nn) ?_
  have hZ : tZ (fun q => q ∈ cAd A) s H := (hZ0.kept (fun a ha hna => hS.2.1 a ha hna)).narrow (fun q hq => hAll q (Or.inl hq))
  refine xpc (q := 339) rfl ?_
  refine xcRi (wo := (mW B cD cI (gσ S) S th fl w) ++ ([(oL, lA cL 1 fL)] ++ [(oD, dA cD 1 fD)])) (xLS (n := 3) (As := [.ref (A 0), .double (FP.dmul (FP.i2d (xs ((5 * k) + 1))) k0_125), .double (FP.dmul (FP.i2d (xs ((5 * k) + 2))) k0_125)]) (rest := []) hx hb hml hown hg (l_size l htr D cD cI cM cL A rw S v (FP.dmul (FP.i2d (xs ((5 * k) + 1))) k0_125) (FP.dmul (FP.i2d (xs ((5 * k) + 2))) k0_125)) mM_L_81 mT_L_size mC_L_size mN_L rfl rfl (by decide +kernel) ⟨Nat.le_of_ble_eq_true rfl, Nat.le_of_ble_eq_true rfl⟩ hI hPc hdC hT hNc hZ rfl hl.1 rfl (Nat.le_of_ble_eq_true rfl) dL_law_339 ⟨hc1, hs1⟩) (hPm.app (hPl.app hPd)) (fun x hx9 => (List.mem_append.mp hx9).elim (fun h => (hMx x h).1) (fun h => by rcases (show x = oL ∨ x = oD by simpa using h) with rfl | rfl; exact hCL; exact hCD)) hS (fun q hq => hAll q (Or.inl hq)) (fun _u H locs hu hPw hWo hS _ => ?_)
  have hPc := hPw
  have hPm := hWo.l
  have hO9 := hWo.r
  have hPl := hO9.l
  have hPd := hO9.r
  have hPc : va_P D vwCl (cW A rw cD cI cM (gσ ((szP S (FP.dmul (FP.i2d (xs ((5 * k) + 1))) k0_125) (FP.dmul (FP.i2d (xs ((5 * k) + 2))) k0_125)).2)) ((szP S (FP.dmul (FP.i2d (xs ((5 * k) + 1))) k0_125) (FP.dmul (FP.i2d (xs ((5 * k) + 2))) k0_125)).2) v) H := hPc
  refine xpc (q := 342) rfl ?_
  refine lv_istore (lv' := [(6, .int (nI ((szP S (FP.dmul (FP.i2d (xs ((5 * k) + 1))) k0_125) (FP.dmul (FP.i2d (xs ((5 * k) + 2))) k0_125)).1))), (5, .int (nI (5 * k))), (0, .ref b), (1, .ref (A 0)), (2, .ref (B 0)), (3, .ref oL), (4, .ref oD)]) hx hb dL_law_342 hl (by decide) rfl (fun ls hl => ?_)
  refine lv_aload_n hx hb dL_law_344 rfl (lv_at hl 4 rfl) ?_
  refine lv_aload_n hx hb dL_law_345 rfl (lv_at hl 2 rfl) ?_
  refine lv_iload hx hb dL_law_346 (lv_at hl 1 rfl) ?_
  refine lv_iconst (v := nI 1) hx hb dL_law_348 (by decide) ?_
  refine lv_iadd hx hb dL_law_349 ?_
  refine xeqi (y := nI ((5 * k) + 1)) (nI_add (5 * k) 1) ?_
  refine xsld hx hb hX hbl hbA hS (j := (5 * k) + 1) (by omega) (by omega) dL_law_350 ?_
  refine lv_i2d hx hb dL_law_351 ?_
  refine lv_ldc2d (v := k0_125) hx hb hown (hg _ mD_L_71) dL_law_352 ?_
  refine lv_dmul hx hb dL_law_355 ((arg_bd _).nn) ?_
  refine lv_aload_n hx hb dL_law_356 rfl (lv_at hl 2 rfl) ?_
  refine lv_iload hx hb dL_law_357 (lv_at hl 1 rfl) ?_
  refine lv_iconst (v := nI 2) hx hb dL_law_359 (by decide) ?_
  refine xpc (q := 360) rfl ?_
  refine lv_iadd hx hb dL_law_360 ?_
  refine xeqi (y := nI ((5 * k) + 2)) (nI_add (5 * k) 2) ?_
  refine xsld hx hb hX hbl hbA hS (j := (5 * k) + 2) (by omega) (by omega) dL_law_361 ?_
  refine lv_i2d hx hb dL_law_362 ?_
  refine lv_ldc2d (v := k0_125) hx hb hown (hg _ mD_L_71) dL_law_363 ?_
  refine lv_dmul hx hb dL_law_366 ((arg_bd _).nn) ?_
  refine xpc (q := 367) rfl ?_
  refine xcRv (wo := (cW A rw cD cI cM (gσ ((szP S (FP.dmul (FP.i2d (xs ((5 * k) + 1))) k0_125) (FP.dmul (FP.i2d (xs ((5 * k) + 2))) k0_125)).2)) ((szP S (FP.dmul (FP.i2d (xs ((5 * k) + 1))) k0_125) (FP.dmul (FP.i2d (xs ((5 * k) + 2))) k0_125)).2) v) ++ ([(oL, lA cL 1 fL)] ++ [(oD, dA cD 1 fD)])) (xLV (As := [.double (FP.dmul (FP.i2d (xs ((5 * k) + 1))) k0_125), .double (FP.dmul (FP.i2d (xs ((5 * k) + 2))) k0_125)]) (rest := []) (C := RX7) hx hb hml hown hg (g_size l D cD cI cM cL B S th fl w (FP.dmul (FP.i2d (xs ((5 * k) + 1))) k0_125) (FP.dmul (FP.i2d (xs ((5 * k) + 2))) k0_125)) mM_L_84 ok_X7_size rfl rfl ⟨Nat.le_of_ble_eq_true rfl, Nat.le_of_ble_eq_true rfl⟩ hI hPm hdM rfl rfl rfl hl.1 rfl (Nat.le_of_ble_eq_true rfl) dL_law_367 ⟨hc1, hs1⟩) (hPc.app (hPl.app hPd)) (fun x hx9 q => (List.mem_append.mp hx9).elim (hMx x q).1 (fun h => by rcases (show x = oL ∨ x = oD by simpa using h) with z | z; exact (hMx x q).2.1 z; exact (hMx x q).2.2 z)) hS (fun q hq => hAll q (Or.inr (Or.inl hq))) (fun _u H locs hu hPw hWo hS _ => ?_)
  have hPm := hPw
  have hPc := hWo.l
  have hO9 := hWo.r
  have hPl := hO9.l
  have hPd := hO9.r
  have hPm : va_P D vwCl (mW B cD cI (gσ ((szP S (FP.dmul (FP.i2d (xs ((5 * k) + 1))) k0_125) (FP.dmul (FP.i2d (xs ((5 * k) + 2))) k0_125)).2)) ((szP S (FP.dmul (FP.i2d (xs ((5 * k) + 1))) k0_125) (FP.dmul (FP.i2d (xs ((5 * k) + 2))) k0_125)).2) (nI (szP S (FP.dmul (FP.i2d (xs ((5 * k) + 1))) k0_125) (FP.dmul (FP.i2d (xs ((5 * k) + 2))) k0_125)).1) fl w) H := hPm
  refine xpc (q := 370) rfl ?_
  refine lv_aload_n hx hb dL_law_370 rfl (lv_at hl 4 rfl) ?_
  refine xpc (q := 371) rfl ?_
  refine xcRi (wo := (cW A rw cD cI cM (gσ ((szP S (FP.dmul (FP.i2d (xs ((5 * k) + 1))) k0_125) (FP.dmul (FP.i2d (xs ((5 * k) + 2))) k0_125)).2)) ((szP S (FP.dmul (FP.i2d (xs ((5 * k) + 1))) k0_125) (FP.dmul (FP.i2d (xs ((5 * k) + 2))) k0_125)).2) v) ++ ([(oL, lA cL 1 fL)] ++ [(oD, dA cD 1 fD)])) (xLV (As := []) (rest := []) (C := RX7) hx hb hml hown hg (g_thrown l D cD cI cM cL B ((szP S (FP.dmul (FP.i2d (xs ((5 * k) + 1))) k0_125) (FP.dmul (FP.i2d (xs ((5 * k) + 2))) k0_125)).2) (nI (szP S (FP.dmul (FP.i2d (xs ((5 * k) + 1))) k0_125) (FP.dmul (FP.i2d (xs ((5 * k) + 2))) k0_125)).1) fl w ) mM_L_67 ok_X7_thrown rfl rfl ⟨Nat.le_of_ble_eq_true rfl, Nat.le_of_ble_eq_true rfl⟩ hI hPm hdM rfl rfl rfl hl.1 rfl (Nat.le_of_ble_eq_true rfl) dL_law_371 ⟨hc1, hs1⟩) (hPc.app (hPl.app hPd)) (fun x hx9 q => (List.mem_append.mp hx9).elim (hMx x q).1 (fun h => by rcases (show x = oL ∨ x = oD by simpa using h) with z | z; exact (hMx x q).2.1 z; exact (hMx x q).2.2 z)) hS (fun q hq => hAll q (Or.inr (Or.inl hq))) (fun _u8 H locs hu hPw hWo hS _ => ?_)
  have hPm := hPw
  have hPc := hWo.l
  have hO9 := hWo.r
  have hPl := hO9.l
  have hPd := hO9.r
  have hPm : va_P D vwCl (mW B cD cI (gσ ((szP S (FP.dmul (FP.i2d (xs ((5 * k) + 1))) k0_125) (FP.dmul (FP.i2d (xs ((5 * k) + 2))) k0_125)).2)) ((szP S (FP.dmul (FP.i2d (xs ((5 * k) + 1))) k0_125) (FP.dmul (FP.i2d (xs ((5 * k) + 2))) k0_125)).2) (nI (szP S (FP.dmul (FP.i2d (xs ((5 * k) + 1))) k0_125) (FP.dmul (FP.i2d (xs ((5 * k) + 2))) k0_125)).1) fl w) H := hPm
  refine xpc (q := 374) rfl ?_
  refine lv_iload hx hb dL_law_374 (lv_at hl 0 rfl) ?_
  refine lv_icmp_eq (tgt := 381) hx hb dL_law_376 (by decide) (fun c_376 => ?_) (fun c_376 => absurd rfl c_376)
  refine lv_goto (tgt := 1022) hx hb dL_law_381 (by decide) ?_
  exact kk ((szP S (FP.dmul (FP.i2d (xs ((5 * k) + 1))) k0_125) (FP.dmul (FP.i2d (xs ((5 * k) + 2))) k0_125)).2) v w (nI (szP S (FP.dmul (FP.i2d (xs ((5 * k) + 1))) k0_125) (FP.dmul (FP.i2d (xs ((5 * k) + 2))) k0_125)).1) fl fL fD _ _ _ ⟨((inv_sz (arg_bd _).1 (arg_bd _).1 hv).mono hB4 (by omega)), (enK_sz hen), (kpK_sz hkp), hPc, hPm, hPl, hPd⟩ hS (lv_sub hl [1, 2, 3, 4, 5, 6] rfl)

set_option maxHeartbeats 4000000 in
set_option maxRecDepth 100000 in
theorem law_c6 {p : Program} {e : Env} {s : State} {m : MethodId} {below : List Frame} {meth : Method} {c : Code} (l : Launch) (htr : l.stackTraces = false) {b L : Nat} {xs : Nat → Int32} (hL : L ≤ 2560) (C0 : lw_At p s m meth c b L xs) {D : va_G} {cD cI cM cL : ClassId} {A B : Nat → Nat} {rw : Nat → Option Nat} {oL oD : Nat} (hLX : LX D cD cI cM cL A B rw oL oD s) {N E k cells slots : Nat} (hN : N + 104 ≤ 53352) (hE : E + 100 < 2 ^ 29) (hk : 5 * k + 5 ≤ L) (hc1 : cells + 1 ≤ 662564) (hs1 : slots + 6 ≤ 7108413) {S : St} {v w : Nat → Nat → UInt64} {th fl : Int32} {fL : Nat → Int64} {fD : Nat → UInt64} {H : Heap} {locs : List Loc} {ls : Array Slot} (hH : LH D cD cI cM cL A B rw oL oD N E S v w th fl fL fD H) (hS : va_S (fun q => s.heap.size ≤ q) s.heap H locs) (hl : lv_has ls 10 [(5, .int (nI (5 * k))), (0, .ref b), (1, .ref (A 0)), (2, .ref (B 0)), (3, .ref oL), (4, .ref oD)])
    (kk : ∀ (S2 : St) (v2 w2 : Nat → Nat → UInt64) (th2 fl2 : Int32) (fL2 : Nat → Int64) (fD2 : Nat → UInt64) (H2 : Heap) (locs2 : List Loc) (ls2 : Array Slot), LH D cD cI cM cL A B rw oL oD (N + 104) (E + 100) S2 v2 w2 th2 fl2 fL2 fD2 H2 → va_S (fun q => s.heap.size ≤ q) s.heap H2 locs2 → lv_has ls2 10 [(5, .int (nI (5 * k))), (0, .ref b), (1, .ref (A 0)), (2, .ref (B 0)), (3, .ref oL), (4, .ref oD)] → W p l e room_1 s m #[Value.ref b] below meth c H2 locs2 (cells + 1) (slots + 6) (lw_Z below #[Value.ref b] s) (F0 m 1022 ls2 [])) : W p l e room_1 s m #[Value.ref b] below meth c H locs cells slots (lw_Z below #[Value.ref b] s) (F0 m 498 ls []) := by
  obtain ⟨hx, hb, hr, hml, hown, hts, hX, hbl, hlocks, hgv⟩ := id C0
  have hg := lw_sub hts
  have hown : s.vm.findClass RL = some m.cls := hown
  have hbA : ¬ (fun q : Nat => s.heap.size ≤ q) b := Nat.not_le.mpr hbl
  obtain ⟨⟨hI, hT, hNc, hZ0⟩, hrw, ⟨hdC, hdCL, hdCD, hdM⟩, hAll, hMx, hCL, hCD, hLD⟩ := id hLX
  obtain ⟨hv, hen, hkp, hPc, hPm, hPl, hPd⟩ := hH
  have hB : ((N * 2 ^ 1074 : Nat) : Int) ≤ BT := Int.ofNat_le.mpr (Nat.mul_le_mul_right _ (by omega))
  have hB4 : ((N * 2 ^ 1074 : Nat) : Int) ≤ (((N + 104) * 2 ^ 1074 : Nat) : Int) := Int.ofNat_le.mpr (Nat.mul_le_mul_right _ (by omega))
  have hB0 : (0 : Int) ≤ ((N * 2 ^ 1074 : Nat) : Int) := Int.natCast_nonneg _
  have hn : sn (gσ S) ≤ 3 := hv.1.2.1
  refine lv_aload_n hx hb dL_law_498 rfl (lv_at hl 2 rfl) ?_
  refine lv_aload_n hx hb dL_law_499 rfl (lv_at hl 1 rfl) ?_
  refine lv_iload hx hb dL_law_500 (lv_at hl 0 rfl) ?_
  refine lv_iconst (v := nI 1) hx hb dL_law_502 (by decide) ?_
  refine lv_iadd hx hb dL_law_503 ?_
  refine xeqi (y := nI ((5 * k) + 1)) (nI_add (5 * k) 1) ?_
  refine xsld hx hb hX hbl hbA hS (j := (5 * k) + 1) (by omega) (by omega) dL_law_504 ?_
  refine lv_aload_n hx hb dL_law_505 rfl (lv_at hl 1 rfl) ?_
  refine lv_iload hx hb dL_law_506 (lv_at hl 0 rfl) ?_
  refine lv_iconst (v := nI 2) hx hb dL_law_508 (by decide) ?_
  refine lv_iadd hx hb dL_law_509 ?_
  refine xeqi (y := nI ((5 * k) + 2)) (nI_add (5 * k) 2) ?_
  refine xsld hx hb hX hbl hbA hS (j := (5 * k) + 2) (by omega) (by omega) dL_law_510 ?_
  refine lv_i2d hx hb dL_law_511 ?_
  refine lv_ldc2d (v := k0_125) hx hb hown (hg _ mD_L_71) dL_law_512 ?_
  refine xpc (q := 515) rfl ?_
  refine lv_dmul hx hb dL_law_515 ((arg_bd _).nn) ?_
  have hZ : tZ (fun q => q ∈ cAd A) s H := (hZ0.kept (fun a ha hna => hS.2.1 a ha hna)).narrow (fun q hq => hAll q (Or.inl hq))
  refine xpc (q := 516) rfl ?_
  refine xcRi (wo := (mW B cD cI (gσ S) S th fl w) ++ ([(oL, lA cL 1 fL)] ++ [(oD, dA cD 1 fD)])) (xLS (n := 3) (As := [.ref (A 0), .int (xs ((5 * k) + 1)), .double (FP.dmul (FP.i2d (xs ((5 * k) + 2))) k0_125)]) (rest := []) hx hb hml hown hg (l_watch l htr D cD cI cM cL A rw S v (xs ((5 * k) + 1)) (FP.dmul (FP.i2d (xs ((5 * k) + 2))) k0_125) hn) mM_L_92 mT_L_watch mC_L_watch mN_L rfl rfl (by decide +kernel) ⟨Nat.le_of_ble_eq_true rfl, Nat.le_of_ble_eq_true rfl⟩ hI hPc hdC hT hNc hZ rfl hl.1 rfl (Nat.le_of_ble_eq_true rfl) dL_law_516 ⟨hc1, hs1⟩) (hPm.app (hPl.app hPd)) (fun x hx9 => (List.mem_append.mp hx9).elim (fun h => (hMx x h).1) (fun h => by rcases (show x = oL ∨ x = oD by simpa using h) with rfl | rfl; exact hCL; exact hCD)) hS (fun q hq => hAll q (Or.inl hq)) (fun _u H locs hu hPw hWo hS _ => ?_)
  have hPc := hPw
  have hPm := hWo.l
  have hO9 := hWo.r
  have hPl := hO9.l
  have hPd := hO9.r
  have hPc : va_P D vwCl (cW A rw cD cI cM (gσ ((watP S (xs ((5 * k) + 1)) (FP.dmul (FP.i2d (xs ((5 * k) + 2))) k0_125)).2)) ((watP S (xs ((5 * k) + 1)) (FP.dmul (FP.i2d (xs ((5 * k) + 2))) k0_125)).2) v) H := hPc
  refine xpc (q := 519) rfl ?_
  refine lv_istore (lv' := [(6, .int (nI ((watP S (xs ((5 * k) + 1)) (FP.dmul (FP.i2d (xs ((5 * k) + 2))) k0_125)).1))), (5, .int (nI (5 * k))), (0, .ref b), (1, .ref (A 0)), (2, .ref (B 0)), (3, .ref oL), (4, .ref oD)]) hx hb dL_law_519 hl (by decide) rfl (fun ls hl => ?_)
  refine lv_aload_n hx hb dL_law_521 rfl (lv_at hl 4 rfl) ?_
  refine lv_aload_n hx hb dL_law_522 rfl (lv_at hl 2 rfl) ?_
  refine lv_iload hx hb dL_law_523 (lv_at hl 1 rfl) ?_
  refine lv_iconst (v := nI 1) hx hb dL_law_525 (by decide) ?_
  refine lv_iadd hx hb dL_law_526 ?_
  refine xeqi (y := nI ((5 * k) + 1)) (nI_add (5 * k) 1) ?_
  refine xsld hx hb hX hbl hbA hS (j := (5 * k) + 1) (by omega) (by omega) dL_law_527 ?_
  refine lv_aload_n hx hb dL_law_528 rfl (lv_at hl 2 rfl) ?_
  refine lv_iload hx hb dL_law_529 (lv_at hl 1 rfl) ?_
  refine lv_iconst (v := nI 2) hx hb dL_law_531 (by decide) ?_
  refine lv_iadd hx hb dL_law_532 ?_
  refine xeqi (y := nI ((5 * k) + 2)) (nI_add (5 * k) 2) ?_
  refine xsld hx hb hX hbl hbA hS (j := (5 * k) + 2) (by omega) (by omega) dL_law_533 ?_
  refine lv_i2d hx hb dL_law_534 ?_
  refine xpc (q := 535) rfl ?_
  refine lv_ldc2d (v := k0_125) hx hb hown (hg _ mD_L_71) dL_law_535 ?_
  refine lv_dmul hx hb dL_law_538 ((arg_bd _).nn) ?_
  refine xpc (q := 539) rfl ?_
  refine xcRv (wo := (cW A rw cD cI cM (gσ ((watP S (xs ((5 * k) + 1)) (FP.dmul (FP.i2d (xs ((5 * k) + 2))) k0_125)).2)) ((watP S (xs ((5 * k) + 1)) (FP.dmul (FP.i2d (xs ((5 * k) + 2))) k0_125)).2) v) ++ ([(oL, lA cL 1 fL)] ++ [(oD, dA cD 1 fD)])) (xLV (As := [.int (xs ((5 * k) + 1)), .double (FP.dmul (FP.i2d (xs ((5 * k) + 2))) k0_125)]) (rest := []) (C := RX7) hx hb hml hown hg (g_watch l D cD cI cM cL B S th fl w (xs ((5 * k) + 1)) (FP.dmul (FP.i2d (xs ((5 * k) + 2))) k0_125) hn) mM_L_94 ok_X7_watch rfl rfl ⟨Nat.le_of_ble_eq_true rfl, Nat.le_of_ble_eq_true rfl⟩ hI hPm hdM rfl rfl rfl hl.1 rfl (Nat.le_of_ble_eq_true rfl) dL_law_539 ⟨hc1, hs1⟩) (hPc.app (hPl.app hPd)) (fun x hx9 q => (List.mem_append.mp hx9).elim (hMx x q).1 (fun h => by rcases (show x = oL ∨ x = oD by simpa using h) with z | z; exact (hMx x q).2.1 z; exact (hMx x q).2.2 z)) hS (fun q hq => hAll q (Or.inr (Or.inl hq))) (fun _u H locs hu hPw hWo hS _ => ?_)
  have hPm := hPw
  have hPc := hWo.l
  have hO9 := hWo.r
  have hPl := hO9.l
  have hPd := hO9.r
  have hPm : va_P D vwCl (mW B cD cI (gσ ((watP S (xs ((5 * k) + 1)) (FP.dmul (FP.i2d (xs ((5 * k) + 2))) k0_125)).2)) ((watP S (xs ((5 * k) + 1)) (FP.dmul (FP.i2d (xs ((5 * k) + 2))) k0_125)).2) (nI (watP S (xs ((5 * k) + 1)) (FP.dmul (FP.i2d (xs ((5 * k) + 2))) k0_125)).1) fl w) H := hPm
  refine xpc (q := 542) rfl ?_
  refine lv_aload_n hx hb dL_law_542 rfl (lv_at hl 4 rfl) ?_
  refine xpc (q := 543) rfl ?_
  refine xcRi (wo := (cW A rw cD cI cM (gσ ((watP S (xs ((5 * k) + 1)) (FP.dmul (FP.i2d (xs ((5 * k) + 2))) k0_125)).2)) ((watP S (xs ((5 * k) + 1)) (FP.dmul (FP.i2d (xs ((5 * k) + 2))) k0_125)).2) v) ++ ([(oL, lA cL 1 fL)] ++ [(oD, dA cD 1 fD)])) (xLV (As := []) (rest := []) (C := RX7) hx hb hml hown hg (g_thrown l D cD cI cM cL B ((watP S (xs ((5 * k) + 1)) (FP.dmul (FP.i2d (xs ((5 * k) + 2))) k0_125)).2) (nI (watP S (xs ((5 * k) + 1)) (FP.dmul (FP.i2d (xs ((5 * k) + 2))) k0_125)).1) fl w ) mM_L_67 ok_X7_thrown rfl rfl ⟨Nat.le_of_ble_eq_true rfl, Nat.le_of_ble_eq_true rfl⟩ hI hPm hdM rfl rfl rfl hl.1 rfl (Nat.le_of_ble_eq_true rfl) dL_law_543 ⟨hc1, hs1⟩) (hPc.app (hPl.app hPd)) (fun x hx9 q => (List.mem_append.mp hx9).elim (hMx x q).1 (fun h => by rcases (show x = oL ∨ x = oD by simpa using h) with z | z; exact (hMx x q).2.1 z; exact (hMx x q).2.2 z)) hS (fun q hq => hAll q (Or.inr (Or.inl hq))) (fun _u8 H locs hu hPw hWo hS _ => ?_)
  have hPm := hPw
  have hPc := hWo.l
  have hO9 := hWo.r
  have hPl := hO9.l
  have hPd := hO9.r
  have hPm : va_P D vwCl (mW B cD cI (gσ ((watP S (xs ((5 * k) + 1)) (FP.dmul (FP.i2d (xs ((5 * k) + 2))) k0_125)).2)) ((watP S (xs ((5 * k) + 1)) (FP.dmul (FP.i2d (xs ((5 * k) + 2))) k0_125)).2) (nI (watP S (xs ((5 * k) + 1)) (FP.dmul (FP.i2d (xs ((5 * k) + 2))) k0_125)).1) fl w) H := hPm
  refine xpc (q := 546) rfl ?_
  refine lv_iload hx hb dL_law_546 (lv_at hl 0 rfl) ?_
  refine lv_icmp_eq (tgt := 553) hx hb dL_law_548 (by decide) (fun c_548 => ?_) (fun c_548 => absurd rfl c_548)
  refine lv_goto (tgt := 1022) hx hb dL_law_553 (by decide) ?_
  exact kk ((watP S (xs ((5 * k) + 1)) (FP.dmul (FP.i2d (xs ((5 * k) + 2))) k0_125)).2) v w (nI (watP S (xs ((5 * k) + 1)) (FP.dmul (FP.i2d (xs ((5 * k) + 2))) k0_125)).1) fl fL fD _ _ _ ⟨((inv_wat (arg_bd _).1 hv).mono hB4 (by omega)), (enK_wat hen), (kpK_wat hkp), hPc, hPm, hPl, hPd⟩ hS (lv_sub hl [1, 2, 3, 4, 5, 6] rfl)

set_option maxHeartbeats 4000000 in
set_option maxRecDepth 100000 in
theorem law_c4 {p : Program} {e : Env} {s : State} {m : MethodId} {below : List Frame} {meth : Method} {c : Code} (l : Launch) (htr : l.stackTraces = false) {b L : Nat} {xs : Nat → Int32} (hL : L ≤ 2560) (C0 : lw_At p s m meth c b L xs) {D : va_G} {cD cI cM cL : ClassId} {A B : Nat → Nat} {rw : Nat → Option Nat} {oL oD : Nat} (hLX : LX D cD cI cM cL A B rw oL oD s) {N E k cells slots : Nat} (hN : N + 104 ≤ 53352) (hE : E + 100 < 2 ^ 29) (hk : 5 * k + 5 ≤ L) (hc1 : cells + 1 ≤ 662564) (hs1 : slots + 6 ≤ 7108413) {S : St} {v w : Nat → Nat → UInt64} {th fl : Int32} {fL : Nat → Int64} {fD : Nat → UInt64} {H : Heap} {locs : List Loc} {ls : Array Slot} (hH : LH D cD cI cM cL A B rw oL oD N E S v w th fl fL fD H) (hS : va_S (fun q => s.heap.size ≤ q) s.heap H locs) (hl : lv_has ls 10 [(5, .int (nI (5 * k))), (0, .ref b), (1, .ref (A 0)), (2, .ref (B 0)), (3, .ref oL), (4, .ref oD)])
    (kk : ∀ (S2 : St) (v2 w2 : Nat → Nat → UInt64) (th2 fl2 : Int32) (fL2 : Nat → Int64) (fD2 : Nat → UInt64) (H2 : Heap) (locs2 : List Loc) (ls2 : Array Slot), LH D cD cI cM cL A B rw oL oD (N + 104) (E + 100) S2 v2 w2 th2 fl2 fL2 fD2 H2 → va_S (fun q => s.heap.size ≤ q) s.heap H2 locs2 → lv_has ls2 10 [(5, .int (nI (5 * k))), (0, .ref b), (1, .ref (A 0)), (2, .ref (B 0)), (3, .ref oL), (4, .ref oD)] → W p l e room_1 s m #[Value.ref b] below meth c H2 locs2 (cells + 1) (slots + 6) (lw_Z below #[Value.ref b] s) (F0 m 1022 ls2 [])) : W p l e room_1 s m #[Value.ref b] below meth c H locs cells slots (lw_Z below #[Value.ref b] s) (F0 m 384 ls []) := by
  obtain ⟨hx, hb, hr, hml, hown, hts, hX, hbl, hlocks, hgv⟩ := id C0
  have hg := lw_sub hts
  have hown : s.vm.findClass RL = some m.cls := hown
  have hbA : ¬ (fun q : Nat => s.heap.size ≤ q) b := Nat.not_le.mpr hbl
  obtain ⟨⟨hI, hT, hNc, hZ0⟩, hrw, ⟨hdC, hdCL, hdCD, hdM⟩, hAll, hMx, hCL, hCD, hLD⟩ := id hLX
  obtain ⟨hv, hen, hkp, hPc, hPm, hPl, hPd⟩ := hH
  have hB : ((N * 2 ^ 1074 : Nat) : Int) ≤ BT := Int.ofNat_le.mpr (Nat.mul_le_mul_right _ (by omega))
  have hB4 : ((N * 2 ^ 1074 : Nat) : Int) ≤ (((N + 104) * 2 ^ 1074 : Nat) : Int) := Int.ofNat_le.mpr (Nat.mul_le_mul_right _ (by omega))
  have hB0 : (0 : Int) ≤ ((N * 2 ^ 1074 : Nat) : Int) := Int.natCast_nonneg _
  have hn : sn (gσ S) ≤ 3 := hv.1.2.1
  refine lv_aload_n hx hb dL_law_384 rfl (lv_at hl 2 rfl) ?_
  refine lv_aload_n hx hb dL_law_385 rfl (lv_at hl 1 rfl) ?_
  refine lv_iload hx hb dL_law_386 (lv_at hl 0 rfl) ?_
  refine lv_iconst (v := nI 1) hx hb dL_law_388 (by decide) ?_
  refine lv_iadd hx hb dL_law_389 ?_
  refine xeqi (y := nI ((5 * k) + 1)) (nI_add (5 * k) 1) ?_
  refine xsld hx hb hX hbl hbA hS (j := (5 * k) + 1) (by omega) (by omega) dL_law_390 ?_
  have hZ : tZ (fun q => q ∈ cAd A) s H := (hZ0.kept (fun a ha hna => hS.2.1 a ha hna)).narrow (fun q hq => hAll q (Or.inl hq))
  refine xpc (q := 391) rfl ?_
  refine xcRi (wo := (mW B cD cI (gσ S) S th fl w) ++ ([(oL, lA cL 1 fL)] ++ [(oD, dA cD 1 fD)])) (xLS (n := 2) (As := [.ref (A 0), .int (xs ((5 * k) + 1))]) (rest := []) hx hb hml hown hg (l_step l htr D cD cI cM cL A rw S v (xs ((5 * k) + 1)) ((N * 2 ^ 1074 : Nat) : Int) E hv hB (by omega) hen hrw) mM_L_85 mT_L_step mC_L_step mN_L rfl rfl (by decide +kernel) ⟨Nat.le_of_ble_eq_true rfl, Nat.le_of_ble_eq_true rfl⟩ hI hPc hdC hT hNc hZ rfl hl.1 rfl (Nat.le_of_ble_eq_true rfl) dL_law_391 ⟨hc1, hs1⟩) (hPm.app (hPl.app hPd)) (fun x hx9 => (List.mem_append.mp hx9).elim (fun h => (hMx x h).1) (fun h => by rcases (show x = oL ∨ x = oD by simpa using h) with rfl | rfl; exact hCL; exact hCD)) hS (fun q hq => hAll q (Or.inl hq)) (fun u H locs hu hPw hWo hS _ => ?_)
  have hu1 := hu
  have hPc := hPw
  have hPm := hWo.l
  have hO9 := hWo.r
  have hPl := hO9.l
  have hPd := hO9.r
  have hPc : va_P D vwCl (cW A rw cD cI cM (gσ ((stpP S (xs ((5 * k) + 1))).2)) ((stpP S (xs ((5 * k) + 1))).2) (vset u 16 (v 16))) H := hPc
  refine xpc (q := 394) rfl ?_
  refine lv_istore (lv' := [(6, .int (nI ((stpP S (xs ((5 * k) + 1))).1))), (5, .int (nI (5 * k))), (0, .ref b), (1, .ref (A 0)), (2, .ref (B 0)), (3, .ref oL), (4, .ref oD)]) hx hb dL_law_394 hl (by decide) rfl (fun ls hl => ?_)
  refine lv_aload_n hx hb dL_law_396 rfl (lv_at hl 4 rfl) ?_
  refine lv_aload_n hx hb dL_law_397 rfl (lv_at hl 2 rfl) ?_
  refine lv_iload hx hb dL_law_398 (lv_at hl 1 rfl) ?_
  refine lv_iconst (v := nI 1) hx hb dL_law_400 (by decide) ?_
  refine lv_iadd hx hb dL_law_401 ?_
  refine xeqi (y := nI ((5 * k) + 1)) (nI_add (5 * k) 1) ?_
  refine xsld hx hb hX hbl hbA hS (j := (5 * k) + 1) (by omega) (by omega) dL_law_402 ?_
  refine xpc (q := 403) rfl ?_
  refine xcRv (wo := (cW A rw cD cI cM (gσ ((stpP S (xs ((5 * k) + 1))).2)) ((stpP S (xs ((5 * k) + 1))).2) (vset u 16 (v 16))) ++ ([(oL, lA cL 1 fL)] ++ [(oD, dA cD 1 fD)])) (xLV (As := [.int (xs ((5 * k) + 1))]) (rest := []) (C := RX7) hx hb hml hown hg (g_step l D cD cI cM cL B S th fl w (xs ((5 * k) + 1)) ((N * 2 ^ 1074 : Nat) : Int) E hv hB (by omega) hkp) mM_L_87 ok_X7_step rfl rfl ⟨Nat.le_of_ble_eq_true rfl, Nat.le_of_ble_eq_true rfl⟩ hI hPm hdM rfl rfl rfl hl.1 rfl (Nat.le_of_ble_eq_true rfl) dL_law_403 ⟨hc1, hs1⟩) (hPc.app (hPl.app hPd)) (fun x hx9 q => (List.mem_append.mp hx9).elim (hMx x q).1 (fun h => by rcases (show x = oL ∨ x = oD by simpa using h) with z | z; exact (hMx x q).2.1 z; exact (hMx x q).2.2 z)) hS (fun q hq => hAll q (Or.inr (Or.inl hq))) (fun u9 H locs hu hPw hWo hS _ => ?_)
  have hu2 := hu
  have hPm := hPw
  have hPc := hWo.l
  have hO9 := hWo.r
  have hPl := hO9.l
  have hPd := hO9.r
  have hPm : va_P D vwCl (mW B cD cI (gσ ((stpP S (xs ((5 * k) + 1))).2)) ((stpP S (xs ((5 * k) + 1))).2) (nI (stpP S (xs ((5 * k) + 1))).1) u9.2 u9.1) H := hPm
  refine xpc (q := 406) rfl ?_
  refine lv_aload_n hx hb dL_law_406 rfl (lv_at hl 4 rfl) ?_
  refine xpc (q := 407) rfl ?_
  refine xcRi (wo := (cW A rw cD cI cM (gσ ((stpP S (xs ((5 * k) + 1))).2)) ((stpP S (xs ((5 * k) + 1))).2) (vset u 16 (v 16))) ++ ([(oL, lA cL 1 fL)] ++ [(oD, dA cD 1 fD)])) (xLV (As := []) (rest := []) (C := RX7) hx hb hml hown hg (g_thrown l D cD cI cM cL B ((stpP S (xs ((5 * k) + 1))).2) (nI (stpP S (xs ((5 * k) + 1))).1) u9.2 u9.1 ) mM_L_67 ok_X7_thrown rfl rfl ⟨Nat.le_of_ble_eq_true rfl, Nat.le_of_ble_eq_true rfl⟩ hI hPm hdM rfl rfl rfl hl.1 rfl (Nat.le_of_ble_eq_true rfl) dL_law_407 ⟨hc1, hs1⟩) (hPc.app (hPl.app hPd)) (fun x hx9 q => (List.mem_append.mp hx9).elim (hMx x q).1 (fun h => by rcases (show x = oL ∨ x = oD by simpa using h) with z | z; exact (hMx x q).2.1 z; exact (hMx x q).2.2 z)) hS (fun q hq => hAll q (Or.inr (Or.inl hq))) (fun _u8 H locs hu hPw hWo hS _ => ?_)
  have hPm := hPw
  have hPc := hWo.l
  have hO9 := hWo.r
  have hPl := hO9.l
  have hPd := hO9.r
  have hPm : va_P D vwCl (mW B cD cI (gσ ((stpP S (xs ((5 * k) + 1))).2)) ((stpP S (xs ((5 * k) + 1))).2) (nI (stpP S (xs ((5 * k) + 1))).1) u9.2 u9.1) H := hPm
  refine xpc (q := 410) rfl ?_
  refine lv_iload hx hb dL_law_410 (lv_at hl 0 rfl) ?_
  refine lv_icmp_eq (tgt := 417) hx hb dL_law_412 (by decide) (fun c_412 => ?_) (fun c_412 => absurd rfl c_412)
  refine lv_goto (tgt := 1022) hx hb dL_law_417 (by decide) ?_
  exact kk ((stpP S (xs ((5 * k) + 1))).2) (vset u 16 (v 16)) u9.1 (nI (stpP S (xs ((5 * k) + 1))).1) u9.2 fL fD _ _ _ ⟨(inv_stp hv hN), hu1, hu2, hPc, hPm, hPl, hPd⟩ hS (lv_sub hl [1, 2, 3, 4, 5, 6] rfl)

set_option maxHeartbeats 4000000 in
set_option maxRecDepth 100000 in
theorem law_c1 {p : Program} {e : Env} {s : State} {m : MethodId} {below : List Frame} {meth : Method} {c : Code} (l : Launch) (htr : l.stackTraces = false) {b L : Nat} {xs : Nat → Int32} (hL : L ≤ 2560) (C0 : lw_At p s m meth c b L xs) {D : va_G} {cD cI cM cL : ClassId} {A B : Nat → Nat} {rw : Nat → Option Nat} {oL oD : Nat} (hLX : LX D cD cI cM cL A B rw oL oD s) {N E k cells slots : Nat} (hN : N + 104 ≤ 53352) (hE : E + 100 < 2 ^ 29) (hk : 5 * k + 5 ≤ L) (hc1 : cells + 1 ≤ 662564) (hs1 : slots + 6 ≤ 7108413) {S : St} {v w : Nat → Nat → UInt64} {th fl : Int32} {fL : Nat → Int64} {fD : Nat → UInt64} {H : Heap} {locs : List Loc} {ls : Array Slot} (hH : LH D cD cI cM cL A B rw oL oD N E S v w th fl fL fD H) (hS : va_S (fun q => s.heap.size ≤ q) s.heap H locs) (hl : lv_has ls 10 [(5, .int (nI (5 * k))), (0, .ref b), (1, .ref (A 0)), (2, .ref (B 0)), (3, .ref oL), (4, .ref oD)])
    (kk : ∀ (S2 : St) (v2 w2 : Nat → Nat → UInt64) (th2 fl2 : Int32) (fL2 : Nat → Int64) (fD2 : Nat → UInt64) (H2 : Heap) (locs2 : List Loc) (ls2 : Array Slot), LH D cD cI cM cL A B rw oL oD (N + 104) (E + 100) S2 v2 w2 th2 fl2 fL2 fD2 H2 → va_S (fun q => s.heap.size ≤ q) s.heap H2 locs2 → lv_has ls2 10 [(5, .int (nI (5 * k))), (0, .ref b), (1, .ref (A 0)), (2, .ref (B 0)), (3, .ref oL), (4, .ref oD)] → W p l e room_1 s m #[Value.ref b] below meth c H2 locs2 (cells + 1) (slots + 6) (lw_Z below #[Value.ref b] s) (F0 m 1022 ls2 [])) : W p l e room_1 s m #[Value.ref b] below meth c H locs cells slots (lw_Z below #[Value.ref b] s) (F0 m 156 ls []) := by
  obtain ⟨hx, hb, hr, hml, hown, hts, hX, hbl, hlocks, hgv⟩ := id C0
  have hg := lw_sub hts
  have hown : s.vm.findClass RL = some m.cls := hown
  have hbA : ¬ (fun q : Nat => s.heap.size ≤ q) b := Nat.not_le.mpr hbl
  obtain ⟨⟨hI, hT, hNc, hZ0⟩, hrw, ⟨hdC, hdCL, hdCD, hdM⟩, hAll, hMx, hCL, hCD, hLD⟩ := id hLX
  obtain ⟨hv, hen, hkp, hPc, hPm, hPl, hPd⟩ := hH
  have hB : ((N * 2 ^ 1074 : Nat) : Int) ≤ BT := Int.ofNat_le.mpr (Nat.mul_le_mul_right _ (by omega))
  have hB4 : ((N * 2 ^ 1074 : Nat) : Int) ≤ (((N + 104) * 2 ^ 1074 : Nat) : Int) := Int.ofNat_le.mpr (Nat.mul_le_mul_right _ (by omega))
  have hB0 : (0 : Int) ≤ ((N * 2 ^ 1074 : Nat) : Int) := Int.natCast_nonneg _
  have hn : sn (gσ S) ≤ 3 := hv.1.2.1
  refine lv_aload_n hx hb dL_law_156 rfl (lv_at hl 2 rfl) ?_
  refine lv_aload_n hx hb dL_law_157 rfl (lv_at hl 1 rfl) ?_
  refine lv_iload hx hb dL_law_158 (lv_at hl 0 rfl) ?_
  refine lv_iconst (v := nI 1) hx hb dL_law_160 (by decide) ?_
  refine lv_iadd hx hb dL_law_161 ?_
  refine xeqi (y := nI ((5 * k) + 1)) (nI_add (5 * k) 1) ?_
  refine xsld hx hb hX hbl hbA hS (j := (5 * k) + 1) (by omega) (by omega) dL_law_162 ?_
  refine lv_aload_n hx hb dL_law_163 rfl (lv_at hl 1 rfl) ?_
  refine lv_iload hx hb dL_law_164 (lv_at hl 0 rfl) ?_
  refine lv_iconst (v := nI 2) hx hb dL_law_166 (by decide) ?_
  refine lv_iadd hx hb dL_law_167 ?_
  refine xeqi (y := nI ((5 * k) + 2)) (nI_add (5 * k) 2) ?_
  refine xsld hx hb hX hbl hbA hS (j := (5 * k) + 2) (by omega) (by omega) dL_law_168 ?_
  refine lv_i2d hx hb dL_law_169 ?_
  refine lv_ldc2d (v := k0_125) hx hb hown (hg _ mD_L_71) dL_law_170 ?_
  refine xpc (q := 173) rfl ?_
  refine lv_dmul hx hb dL_law_173 ((arg_bd _).nn) ?_
  refine lv_aload_n hx hb dL_law_174 rfl (lv_at hl 1 rfl) ?_
  refine lv_iload hx hb dL_law_175 (lv_at hl 0 rfl) ?_
  refine lv_iconst (v := nI 3) hx hb dL_law_177 (by decide) ?_
  refine lv_iadd hx hb dL_law_178 ?_
  refine xeqi (y := nI ((5 * k) + 3)) (nI_add (5 * k) 3) ?_
  refine xsld hx hb hX hbl hbA hS (j := (5 * k) + 3) (by omega) (by omega) dL_law_179 ?_
  refine lv_aload_n hx hb dL_law_180 rfl (lv_at hl 1 rfl) ?_
  refine lv_iload hx hb dL_law_181 (lv_at hl 0 rfl) ?_
  refine lv_iconst (v := nI 4) hx hb dL_law_183 (by decide) ?_
  refine lv_iadd hx hb dL_law_184 ?_
  refine xeqi (y := nI ((5 * k) + 4)) (nI_add (5 * k) 4) ?_
  refine xsld hx hb hX hbl hbA hS (j := (5 * k) + 4) (by omega) (by omega) dL_law_185 ?_
  refine lv_aload_n hx hb dL_law_186 rfl (lv_at hl 4 rfl) ?_
  have hZ : tZ (fun q => q ∈ cAd A ++ [oL]) s H := (hZ0.kept (fun a ha hna => hS.2.1 a ha hna)).narrow (fun q hq => hAll q ((List.mem_append.mp hq).elim Or.inl (fun z => Or.inr (Or.inr (Or.inl (List.mem_singleton.mp z))))))
  refine xpc (q := 187) rfl ?_
  refine xcRi (wo := (mW B cD cI (gσ S) S th fl w) ++ ([(oD, dA cD 1 fD)])) (xLS (n := 6) (As := [.ref (A 0), .int (xs ((5 * k) + 1)), .double (FP.dmul (FP.i2d (xs ((5 * k) + 2))) k0_125), .int (xs ((5 * k) + 3)), .int (xs ((5 * k) + 4)), .ref oL]) (rest := []) hx hb hml hown hg (l_term l htr D cD cI cM cL A rw S v (xs ((5 * k) + 1)) (FP.dmul (FP.i2d (xs ((5 * k) + 2))) k0_125) (xs ((5 * k) + 3)) (xs ((5 * k) + 4)) oL fL hv.1.2.2.1) mM_L_73 mT_L_term mC_L_term mN_L rfl rfl (by decide +kernel) ⟨Nat.le_of_ble_eq_true rfl, Nat.le_of_ble_eq_true rfl⟩ hI (hPc.app hPl) hdCL hT hNc hZ rfl hl.1 rfl (Nat.le_of_ble_eq_true rfl) dL_law_187 ⟨hc1, hs1⟩) (hPm.app hPd) (fun x hx9 => (List.mem_append.mp hx9).elim (fun h q => (List.mem_append.mp q).elim (hMx x h).1 (fun z => (hMx x h).2.1 (List.mem_singleton.mp z))) (fun h q => by rw [show x = oD by simpa using h] at q; exact (List.mem_append.mp q).elim hCD (fun z => (fun z => hLD z.symm) (List.mem_singleton.mp z)))) hS (fun q hq => hAll q ((List.mem_append.mp hq).elim Or.inl (fun z => Or.inr (Or.inr (Or.inl (List.mem_singleton.mp z)))))) (fun u H locs hu hPw hWo hS _ => ?_)
  have hu1 := hu
  have hPc := hPw.l
  have hPl := hPw.r
  have hPm := hWo.l
  have hO9 := hWo.r
  have hPd := hO9
  have hPc : va_P D vwCl (cW A rw cD cI cM (gσ ((trmP S (xs ((5 * k) + 1)) (FP.dmul (FP.i2d (xs ((5 * k) + 2))) k0_125) (xs ((5 * k) + 3)) (xs ((5 * k) + 4))).2)) ((trmP S (xs ((5 * k) + 1)) (FP.dmul (FP.i2d (xs ((5 * k) + 2))) k0_125) (xs ((5 * k) + 3)) (xs ((5 * k) + 4))).2) v) H := hPc
  refine xpc (q := 190) rfl ?_
  refine lv_istore (lv' := [(6, .int (nI ((trmP S (xs ((5 * k) + 1)) (FP.dmul (FP.i2d (xs ((5 * k) + 2))) k0_125) (xs ((5 * k) + 3)) (xs ((5 * k) + 4))).1))), (5, .int (nI (5 * k))), (0, .ref b), (1, .ref (A 0)), (2, .ref (B 0)), (3, .ref oL), (4, .ref oD)]) hx hb dL_law_190 hl (by decide) rfl (fun ls hl => ?_)
  refine lv_aload_n hx hb dL_law_192 rfl (lv_at hl 4 rfl) ?_
  refine lv_aload_n hx hb dL_law_193 rfl (lv_at hl 2 rfl) ?_
  refine lv_iload hx hb dL_law_194 (lv_at hl 1 rfl) ?_
  refine lv_iconst (v := nI 1) hx hb dL_law_196 (by decide) ?_
  refine lv_iadd hx hb dL_law_197 ?_
  refine xeqi (y := nI ((5 * k) + 1)) (nI_add (5 * k) 1) ?_
  refine xsld hx hb hX hbl hbA hS (j := (5 * k) + 1) (by omega) (by omega) dL_law_198 ?_
  refine lv_aload_n hx hb dL_law_199 rfl (lv_at hl 2 rfl) ?_
  refine lv_iload hx hb dL_law_200 (lv_at hl 1 rfl) ?_
  refine lv_iconst (v := nI 2) hx hb dL_law_202 (by decide) ?_
  refine lv_iadd hx hb dL_law_203 ?_
  refine xeqi (y := nI ((5 * k) + 2)) (nI_add (5 * k) 2) ?_
  refine xsld hx hb hX hbl hbA hS (j := (5 * k) + 2) (by omega) (by omega) dL_law_204 ?_
  refine lv_i2d hx hb dL_law_205 ?_
  refine xpc (q := 206) rfl ?_
  refine lv_ldc2d (v := k0_125) hx hb hown (hg _ mD_L_71) dL_law_206 ?_
  refine lv_dmul hx hb dL_law_209 ((arg_bd _).nn) ?_
  refine lv_aload_n hx hb dL_law_210 rfl (lv_at hl 2 rfl) ?_
  refine lv_iload hx hb dL_law_211 (lv_at hl 1 rfl) ?_
  refine lv_iconst (v := nI 3) hx hb dL_law_213 (by decide) ?_
  refine lv_iadd hx hb dL_law_214 ?_
  refine xeqi (y := nI ((5 * k) + 3)) (nI_add (5 * k) 3) ?_
  refine xsld hx hb hX hbl hbA hS (j := (5 * k) + 3) (by omega) (by omega) dL_law_215 ?_
  refine lv_aload_n hx hb dL_law_216 rfl (lv_at hl 2 rfl) ?_
  refine lv_iload hx hb dL_law_217 (lv_at hl 1 rfl) ?_
  refine lv_iconst (v := nI 4) hx hb dL_law_219 (by decide) ?_
  refine lv_iadd hx hb dL_law_220 ?_
  refine xeqi (y := nI ((5 * k) + 4)) (nI_add (5 * k) 4) ?_
  refine xsld hx hb hX hbl hbA hS (j := (5 * k) + 4) (by omega) (by omega) dL_law_221 ?_
  refine xpc (q := 222) rfl ?_
  refine xcRi (wo := (cW A rw cD cI cM (gσ ((trmP S (xs ((5 * k) + 1)) (FP.dmul (FP.i2d (xs ((5 * k) + 2))) k0_125) (xs ((5 * k) + 3)) (xs ((5 * k) + 4))).2)) ((trmP S (xs ((5 * k) + 1)) (FP.dmul (FP.i2d (xs ((5 * k) + 2))) k0_125) (xs ((5 * k) + 3)) (xs ((5 * k) + 4))).2) v) ++ ([(oL, lA cL 1 u)] ++ [(oD, dA cD 1 fD)])) (xLV (As := [.int (xs ((5 * k) + 1)), .double (FP.dmul (FP.i2d (xs ((5 * k) + 2))) k0_125), .int (xs ((5 * k) + 3)), .int (xs ((5 * k) + 4))]) (rest := []) (C := RX7) hx hb hml hown hg (g_term l D cD cI cM cL B S th fl w (xs ((5 * k) + 1)) (FP.dmul (FP.i2d (xs ((5 * k) + 2))) k0_125) (xs ((5 * k) + 3)) (xs ((5 * k) + 4)) hv.1.2.2.1) mM_L_76 ok_X7_term rfl rfl ⟨Nat.le_of_ble_eq_true rfl, Nat.le_of_ble_eq_true rfl⟩ hI hPm hdM rfl rfl rfl hl.1 rfl (Nat.le_of_ble_eq_true rfl) dL_law_222 ⟨hc1, hs1⟩) (hPc.app (hPl.app hPd)) (fun x hx9 q => (List.mem_append.mp hx9).elim (hMx x q).1 (fun h => by rcases (show x = oL ∨ x = oD by simpa using h) with z | z; exact (hMx x q).2.1 z; exact (hMx x q).2.2 z)) hS (fun q hq => hAll q (Or.inr (Or.inl hq))) (fun _u H locs hu hPw hWo hS _ => ?_)
  have hPm := hPw
  have hPc := hWo.l
  have hO9 := hWo.r
  have hPl := hO9.l
  have hPd := hO9.r
  have hPm : va_P D vwCl (mW B cD cI (gσ ((trmP S (xs ((5 * k) + 1)) (FP.dmul (FP.i2d (xs ((5 * k) + 2))) k0_125) (xs ((5 * k) + 3)) (xs ((5 * k) + 4))).2)) ((trmP S (xs ((5 * k) + 1)) (FP.dmul (FP.i2d (xs ((5 * k) + 2))) k0_125) (xs ((5 * k) + 3)) (xs ((5 * k) + 4))).2) (nI (trmP S (xs ((5 * k) + 1)) (FP.dmul (FP.i2d (xs ((5 * k) + 2))) k0_125) (xs ((5 * k) + 3)) (xs ((5 * k) + 4))).1) fl w) H := hPm
  refine xpc (q := 225) rfl ?_
  refine lv_istore (lv' := [(7, .int (if (trmP S (xs ((5 * k) + 1)) (FP.dmul (FP.i2d (xs ((5 * k) + 2))) k0_125) (xs ((5 * k) + 3)) (xs ((5 * k) + 4))).1 = 0 then nI (sc (gσ S) + 1) else nI 0)), (6, .int (nI ((trmP S (xs ((5 * k) + 1)) (FP.dmul (FP.i2d (xs ((5 * k) + 2))) k0_125) (xs ((5 * k) + 3)) (xs ((5 * k) + 4))).1))), (5, .int (nI (5 * k))), (0, .ref b), (1, .ref (A 0)), (2, .ref (B 0)), (3, .ref oL), (4, .ref oD)]) hx hb dL_law_225 hl (by decide) rfl (fun ls hl => ?_)
  refine lv_aload_n hx hb dL_law_227 rfl (lv_at hl 5 rfl) ?_
  refine xpc (q := 228) rfl ?_
  refine xcRi (wo := (cW A rw cD cI cM (gσ ((trmP S (xs ((5 * k) + 1)) (FP.dmul (FP.i2d (xs ((5 * k) + 2))) k0_125) (xs ((5 * k) + 3)) (xs ((5 * k) + 4))).2)) ((trmP S (xs ((5 * k) + 1)) (FP.dmul (FP.i2d (xs ((5 * k) + 2))) k0_125) (xs ((5 * k) + 3)) (xs ((5 * k) + 4))).2) v) ++ ([(oL, lA cL 1 u)] ++ [(oD, dA cD 1 fD)])) (xLV (As := []) (rest := []) (C := RX7) hx hb hml hown hg (g_thrown l D cD cI cM cL B ((trmP S (xs ((5 * k) + 1)) (FP.dmul (FP.i2d (xs ((5 * k) + 2))) k0_125) (xs ((5 * k) + 3)) (xs ((5 * k) + 4))).2) (nI (trmP S (xs ((5 * k) + 1)) (FP.dmul (FP.i2d (xs ((5 * k) + 2))) k0_125) (xs ((5 * k) + 3)) (xs ((5 * k) + 4))).1) fl w ) mM_L_67 ok_X7_thrown rfl rfl ⟨Nat.le_of_ble_eq_true rfl, Nat.le_of_ble_eq_true rfl⟩ hI hPm hdM rfl rfl rfl hl.1 rfl (Nat.le_of_ble_eq_true rfl) dL_law_228 ⟨hc1, hs1⟩) (hPc.app (hPl.app hPd)) (fun x hx9 q => (List.mem_append.mp hx9).elim (hMx x q).1 (fun h => by rcases (show x = oL ∨ x = oD by simpa using h) with z | z; exact (hMx x q).2.1 z; exact (hMx x q).2.2 z)) hS (fun q hq => hAll q (Or.inr (Or.inl hq))) (fun _u8 H locs hu hPw hWo hS _ => ?_)
  have hPm := hPw
  have hPc := hWo.l
  have hO9 := hWo.r
  have hPl := hO9.l
  have hPd := hO9.r
  have hPm : va_P D vwCl (mW B cD cI (gσ ((trmP S (xs ((5 * k) + 1)) (FP.dmul (FP.i2d (xs ((5 * k) + 2))) k0_125) (xs ((5 * k) + 3)) (xs ((5 * k) + 4))).2)) ((trmP S (xs ((5 * k) + 1)) (FP.dmul (FP.i2d (xs ((5 * k) + 2))) k0_125) (xs ((5 * k) + 3)) (xs ((5 * k) + 4))).2) (nI (trmP S (xs ((5 * k) + 1)) (FP.dmul (FP.i2d (xs ((5 * k) + 2))) k0_125) (xs ((5 * k) + 3)) (xs ((5 * k) + 4))).1) fl w) H := hPm
  refine xpc (q := 231) rfl ?_
  refine lv_iload hx hb dL_law_231 (lv_at hl 1 rfl) ?_
  refine lv_icmp_eq (tgt := 238) hx hb dL_law_233 (by decide) (fun c_233 => ?_) (fun c_233 => absurd rfl c_233)
  refine lv_iload hx hb dL_law_238 (lv_at hl 1 rfl) ?_
  refine lv_if_ne (tgt := 255) hx hb dL_law_240 (by decide) (fun c_240 => ?_) (fun c_240 => ?_)
  ·
    refine lv_goto (tgt := 1022) hx hb dL_law_255 (by decide) ?_
    exact kk ((trmP S (xs ((5 * k) + 1)) (FP.dmul (FP.i2d (xs ((5 * k) + 2))) k0_125) (xs ((5 * k) + 3)) (xs ((5 * k) + 4))).2) v w (nI (trmP S (xs ((5 * k) + 1)) (FP.dmul (FP.i2d (xs ((5 * k) + 2))) k0_125) (xs ((5 * k) + 3)) (xs ((5 * k) + 4))).1) fl u fD _ _ _ ⟨((inv_trm (arg_bd _).1 hv).mono hB4 (by omega)), (enK_trm hen), (kpK_trm hkp), hPc, hPm, hPl, hPd⟩ hS (lv_sub hl [2, 3, 4, 5, 6, 7] rfl)
  ·
    have hk0 : (trmP S (xs ((5 * k) + 1)) (FP.dmul (FP.i2d (xs ((5 * k) + 2))) k0_125) (xs ((5 * k) + 3)) (xs ((5 * k) + 4))).1 = 0 := k0_of trm_le c_240
    refine lv_aload_n hx hb dL_law_243 rfl (lv_at hl 6 rfl) ?_
    refine lv_iconst (v := nI 0) hx hb dL_law_244 (by decide) ?_
    refine xlald hx hb hI hPl 0 3 rfl rfl (j := 0) (by decide) (by decide) dL_law_245 ?_
    refine xeql (y := (nI (sc (gσ S) + 1)).toInt64) (hu1 hk0) ?_
    refine lv_iload hx hb dL_law_246 (lv_at hl 0 rfl) ?_
    refine xeqi (y := nI (sc (gσ S) + 1)) (if_pos hk0) ?_
    refine lv_i2l (v := (nI (sc (gσ S) + 1)).toInt64) hx hb dL_law_248 rfl ?_
    refine W.lcmp hx hb dL_law_249 ?_
    refine lv_if_eq (tgt := 255) hx hb dL_law_250 (by decide) (fun c_250 => ?_) (fun c_250 => absurd (lgc rfl) c_250)
    refine lv_goto (tgt := 1022) hx hb dL_law_255 (by decide) ?_
    exact kk ((trmP S (xs ((5 * k) + 1)) (FP.dmul (FP.i2d (xs ((5 * k) + 2))) k0_125) (xs ((5 * k) + 3)) (xs ((5 * k) + 4))).2) v w (nI (trmP S (xs ((5 * k) + 1)) (FP.dmul (FP.i2d (xs ((5 * k) + 2))) k0_125) (xs ((5 * k) + 3)) (xs ((5 * k) + 4))).1) fl u fD _ _ _ ⟨((inv_trm (arg_bd _).1 hv).mono hB4 (by omega)), (enK_trm hen), (kpK_trm hkp), hPc, hPm, hPl, hPd⟩ hS (lv_sub hl [2, 3, 4, 5, 6, 7] rfl)

set_option maxHeartbeats 4000000 in
set_option maxRecDepth 100000 in
theorem law_c5 {p : Program} {e : Env} {s : State} {m : MethodId} {below : List Frame} {meth : Method} {c : Code} (l : Launch) (htr : l.stackTraces = false) {b L : Nat} {xs : Nat → Int32} (hL : L ≤ 2560) (C0 : lw_At p s m meth c b L xs) {D : va_G} {cD cI cM cL : ClassId} {A B : Nat → Nat} {rw : Nat → Option Nat} {oL oD : Nat} (hLX : LX D cD cI cM cL A B rw oL oD s) {N E k cells slots : Nat} (hN : N + 104 ≤ 53352) (hE : E + 100 < 2 ^ 29) (hk : 5 * k + 5 ≤ L) (hc1 : cells + 1 ≤ 662564) (hs1 : slots + 6 ≤ 7108413) {S : St} {v w : Nat → Nat → UInt64} {th fl : Int32} {fL : Nat → Int64} {fD : Nat → UInt64} {H : Heap} {locs : List Loc} {ls : Array Slot} (hH : LH D cD cI cM cL A B rw oL oD N E S v w th fl fL fD H) (hS : va_S (fun q => s.heap.size ≤ q) s.heap H locs) (hl : lv_has ls 10 [(5, .int (nI (5 * k))), (0, .ref b), (1, .ref (A 0)), (2, .ref (B 0)), (3, .ref oL), (4, .ref oD)])
    (kk : ∀ (S2 : St) (v2 w2 : Nat → Nat → UInt64) (th2 fl2 : Int32) (fL2 : Nat → Int64) (fD2 : Nat → UInt64) (H2 : Heap) (locs2 : List Loc) (ls2 : Array Slot), LH D cD cI cM cL A B rw oL oD (N + 104) (E + 100) S2 v2 w2 th2 fl2 fL2 fD2 H2 → va_S (fun q => s.heap.size ≤ q) s.heap H2 locs2 → lv_has ls2 10 [(5, .int (nI (5 * k))), (0, .ref b), (1, .ref (A 0)), (2, .ref (B 0)), (3, .ref oL), (4, .ref oD)] → W p l e room_1 s m #[Value.ref b] below meth c H2 locs2 (cells + 1) (slots + 6) (lw_Z below #[Value.ref b] s) (F0 m 1022 ls2 [])) : W p l e room_1 s m #[Value.ref b] below meth c H locs cells slots (lw_Z below #[Value.ref b] s) (F0 m 420 ls []) := by
  obtain ⟨hx, hb, hr, hml, hown, hts, hX, hbl, hlocks, hgv⟩ := id C0
  have hg := lw_sub hts
  have hown : s.vm.findClass RL = some m.cls := hown
  have hbA : ¬ (fun q : Nat => s.heap.size ≤ q) b := Nat.not_le.mpr hbl
  obtain ⟨⟨hI, hT, hNc, hZ0⟩, hrw, ⟨hdC, hdCL, hdCD, hdM⟩, hAll, hMx, hCL, hCD, hLD⟩ := id hLX
  obtain ⟨hv, hen, hkp, hPc, hPm, hPl, hPd⟩ := hH
  have hB : ((N * 2 ^ 1074 : Nat) : Int) ≤ BT := Int.ofNat_le.mpr (Nat.mul_le_mul_right _ (by omega))
  have hB4 : ((N * 2 ^ 1074 : Nat) : Int) ≤ (((N + 104) * 2 ^ 1074 : Nat) : Int) := Int.ofNat_le.mpr (Nat.mul_le_mul_right _ (by omega))
  have hB0 : (0 : Int) ≤ ((N * 2 ^ 1074 : Nat) : Int) := Int.natCast_nonneg _
  have hn : sn (gσ S) ≤ 3 := hv.1.2.1
  refine lv_aload_n hx hb dL_law_420 rfl (lv_at hl 2 rfl) ?_
  refine lv_aload_n hx hb dL_law_421 rfl (lv_at hl 1 rfl) ?_
  refine lv_iload hx hb dL_law_422 (lv_at hl 0 rfl) ?_
  refine lv_iconst (v := nI 1) hx hb dL_law_424 (by decide) ?_
  refine lv_iadd hx hb dL_law_425 ?_
  refine xeqi (y := nI ((5 * k) + 1)) (nI_add (5 * k) 1) ?_
  refine xsld hx hb hX hbl hbA hS (j := (5 * k) + 1) (by omega) (by omega) dL_law_426 ?_
  refine lv_aload_n hx hb dL_law_427 rfl (lv_at hl 1 rfl) ?_
  refine lv_iload hx hb dL_law_428 (lv_at hl 0 rfl) ?_
  refine lv_iconst (v := nI 2) hx hb dL_law_430 (by decide) ?_
  refine lv_iadd hx hb dL_law_431 ?_
  refine xeqi (y := nI ((5 * k) + 2)) (nI_add (5 * k) 2) ?_
  refine xsld hx hb hX hbl hbA hS (j := (5 * k) + 2) (by omega) (by omega) dL_law_432 ?_
  refine lv_i2d hx hb dL_law_433 ?_
  refine lv_ldc2d (v := k0_125) hx hb hown (hg _ mD_L_71) dL_law_434 ?_
  refine xpc (q := 437) rfl ?_
  refine lv_dmul hx hb dL_law_437 ((arg_bd _).nn) ?_
  refine lv_aload_n hx hb dL_law_438 rfl (lv_at hl 4 rfl) ?_
  have hZ : tZ (fun q => q ∈ cAd A ++ [oL]) s H := (hZ0.kept (fun a ha hna => hS.2.1 a ha hna)).narrow (fun q hq => hAll q ((List.mem_append.mp hq).elim Or.inl (fun z => Or.inr (Or.inr (Or.inl (List.mem_singleton.mp z))))))
  refine xpc (q := 439) rfl ?_
  refine xcRi (wo := (mW B cD cI (gσ S) S th fl w) ++ ([(oD, dA cD 1 fD)])) (xLS (n := 4) (As := [.ref (A 0), .int (xs ((5 * k) + 1)), .double (FP.dmul (FP.i2d (xs ((5 * k) + 2))) k0_125), .ref oL]) (rest := []) hx hb hml hown hg (l_go l htr D cD cI cM cL A rw S v (xs ((5 * k) + 1)) (FP.dmul (FP.i2d (xs ((5 * k) + 2))) k0_125) oL fL N E hv hN (arg_bd _).1 hE hen hrw) mM_L_88 mT_L_go mC_L_go mN_L rfl rfl (by decide +kernel) ⟨Nat.le_of_ble_eq_true rfl, Nat.le_of_ble_eq_true rfl⟩ hI (hPc.app hPl) hdCL hT hNc hZ rfl hl.1 rfl (Nat.le_of_ble_eq_true rfl) dL_law_439 ⟨hc1, hs1⟩) (hPm.app hPd) (fun x hx9 => (List.mem_append.mp hx9).elim (fun h q => (List.mem_append.mp q).elim (hMx x h).1 (fun z => (hMx x h).2.1 (List.mem_singleton.mp z))) (fun h q => by rw [show x = oD by simpa using h] at q; exact (List.mem_append.mp q).elim hCD (fun z => (fun z => hLD z.symm) (List.mem_singleton.mp z)))) hS (fun q hq => hAll q ((List.mem_append.mp hq).elim Or.inl (fun z => Or.inr (Or.inr (Or.inl (List.mem_singleton.mp z)))))) (fun u H locs hu hPw hWo hS _ => ?_)
  have hu1 := hu
  have hPc := hPw.l
  have hPl := hPw.r
  have hPm := hWo.l
  have hO9 := hWo.r
  have hPd := hO9
  have hPc : va_P D vwCl (cW A rw cD cI cM (gσ ((goP S (xs ((5 * k) + 1)) (FP.dmul (FP.i2d (xs ((5 * k) + 2))) k0_125)).2)) ((goP S (xs ((5 * k) + 1)) (FP.dmul (FP.i2d (xs ((5 * k) + 2))) k0_125)).2) (vset u.1 16 (v 16))) H := hPc
  refine xpc (q := 442) rfl ?_
  refine lv_istore (lv' := [(6, .int (nI ((goP S (xs ((5 * k) + 1)) (FP.dmul (FP.i2d (xs ((5 * k) + 2))) k0_125)).1))), (5, .int (nI (5 * k))), (0, .ref b), (1, .ref (A 0)), (2, .ref (B 0)), (3, .ref oL), (4, .ref oD)]) hx hb dL_law_442 hl (by decide) rfl (fun ls hl => ?_)
  refine lv_aload_n hx hb dL_law_444 rfl (lv_at hl 4 rfl) ?_
  refine lv_aload_n hx hb dL_law_445 rfl (lv_at hl 2 rfl) ?_
  refine lv_iload hx hb dL_law_446 (lv_at hl 1 rfl) ?_
  refine lv_iconst (v := nI 1) hx hb dL_law_448 (by decide) ?_
  refine lv_iadd hx hb dL_law_449 ?_
  refine xeqi (y := nI ((5 * k) + 1)) (nI_add (5 * k) 1) ?_
  refine xsld hx hb hX hbl hbA hS (j := (5 * k) + 1) (by omega) (by omega) dL_law_450 ?_
  refine lv_aload_n hx hb dL_law_451 rfl (lv_at hl 2 rfl) ?_
  refine lv_iload hx hb dL_law_452 (lv_at hl 1 rfl) ?_
  refine lv_iconst (v := nI 2) hx hb dL_law_454 (by decide) ?_
  refine lv_iadd hx hb dL_law_455 ?_
  refine xeqi (y := nI ((5 * k) + 2)) (nI_add (5 * k) 2) ?_
  refine xsld hx hb hX hbl hbA hS (j := (5 * k) + 2) (by omega) (by omega) dL_law_456 ?_
  refine lv_i2d hx hb dL_law_457 ?_
  refine xpc (q := 458) rfl ?_
  refine lv_ldc2d (v := k0_125) hx hb hown (hg _ mD_L_71) dL_law_458 ?_
  refine lv_dmul hx hb dL_law_461 ((arg_bd _).nn) ?_
  refine xpc (q := 462) rfl ?_
  refine xcRi (wo := (cW A rw cD cI cM (gσ ((goP S (xs ((5 * k) + 1)) (FP.dmul (FP.i2d (xs ((5 * k) + 2))) k0_125)).2)) ((goP S (xs ((5 * k) + 1)) (FP.dmul (FP.i2d (xs ((5 * k) + 2))) k0_125)).2) (vset u.1 16 (v 16))) ++ ([(oL, lA cL 1 u.2)] ++ [(oD, dA cD 1 fD)])) (xLV (As := [.int (xs ((5 * k) + 1)), .double (FP.dmul (FP.i2d (xs ((5 * k) + 2))) k0_125)]) (rest := []) (C := RX7) hx hb hml hown hg (g_go l D cD cI cM cL B S th fl w (xs ((5 * k) + 1)) (FP.dmul (FP.i2d (xs ((5 * k) + 2))) k0_125) N E hv hN (arg_bd _).1 hE hkp) mM_L_91 ok_X7_go rfl rfl ⟨Nat.le_of_ble_eq_true rfl, Nat.le_of_ble_eq_true rfl⟩ hI hPm hdM rfl rfl rfl hl.1 rfl (Nat.le_of_ble_eq_true rfl) dL_law_462 ⟨hc1, hs1⟩) (hPc.app (hPl.app hPd)) (fun x hx9 q => (List.mem_append.mp hx9).elim (hMx x q).1 (fun h => by rcases (show x = oL ∨ x = oD by simpa using h) with z | z; exact (hMx x q).2.1 z; exact (hMx x q).2.2 z)) hS (fun q hq => hAll q (Or.inr (Or.inl hq))) (fun u9 H locs hu hPw hWo hS _ => ?_)
  have hu2 := hu
  have hPm := hPw
  have hPc := hWo.l
  have hO9 := hWo.r
  have hPl := hO9.l
  have hPd := hO9.r
  have hPm : va_P D vwCl (mW B cD cI (gσ ((goP S (xs ((5 * k) + 1)) (FP.dmul (FP.i2d (xs ((5 * k) + 2))) k0_125)).2)) ((goP S (xs ((5 * k) + 1)) (FP.dmul (FP.i2d (xs ((5 * k) + 2))) k0_125)).2) (nI (goP S (xs ((5 * k) + 1)) (FP.dmul (FP.i2d (xs ((5 * k) + 2))) k0_125)).1) u9.2 u9.1) H := hPm
  refine xpc (q := 465) rfl ?_
  refine lv_istore (lv' := [(7, .int (if (goP S (xs ((5 * k) + 1)) (FP.dmul (FP.i2d (xs ((5 * k) + 2))) k0_125)).1 = 0 then gtk (goP S (xs ((5 * k) + 1)) (FP.dmul (FP.i2d (xs ((5 * k) + 2))) k0_125)).2 - gtk S else nI 0)), (6, .int (nI ((goP S (xs ((5 * k) + 1)) (FP.dmul (FP.i2d (xs ((5 * k) + 2))) k0_125)).1))), (5, .int (nI (5 * k))), (0, .ref b), (1, .ref (A 0)), (2, .ref (B 0)), (3, .ref oL), (4, .ref oD)]) hx hb dL_law_465 hl (by decide) rfl (fun ls hl => ?_)
  refine lv_aload_n hx hb dL_law_467 rfl (lv_at hl 5 rfl) ?_
  refine xpc (q := 468) rfl ?_
  refine xcRi (wo := (cW A rw cD cI cM (gσ ((goP S (xs ((5 * k) + 1)) (FP.dmul (FP.i2d (xs ((5 * k) + 2))) k0_125)).2)) ((goP S (xs ((5 * k) + 1)) (FP.dmul (FP.i2d (xs ((5 * k) + 2))) k0_125)).2) (vset u.1 16 (v 16))) ++ ([(oL, lA cL 1 u.2)] ++ [(oD, dA cD 1 fD)])) (xLV (As := []) (rest := []) (C := RX7) hx hb hml hown hg (g_thrown l D cD cI cM cL B ((goP S (xs ((5 * k) + 1)) (FP.dmul (FP.i2d (xs ((5 * k) + 2))) k0_125)).2) (nI (goP S (xs ((5 * k) + 1)) (FP.dmul (FP.i2d (xs ((5 * k) + 2))) k0_125)).1) u9.2 u9.1 ) mM_L_67 ok_X7_thrown rfl rfl ⟨Nat.le_of_ble_eq_true rfl, Nat.le_of_ble_eq_true rfl⟩ hI hPm hdM rfl rfl rfl hl.1 rfl (Nat.le_of_ble_eq_true rfl) dL_law_468 ⟨hc1, hs1⟩) (hPc.app (hPl.app hPd)) (fun x hx9 q => (List.mem_append.mp hx9).elim (hMx x q).1 (fun h => by rcases (show x = oL ∨ x = oD by simpa using h) with z | z; exact (hMx x q).2.1 z; exact (hMx x q).2.2 z)) hS (fun q hq => hAll q (Or.inr (Or.inl hq))) (fun _u8 H locs hu hPw hWo hS _ => ?_)
  have hPm := hPw
  have hPc := hWo.l
  have hO9 := hWo.r
  have hPl := hO9.l
  have hPd := hO9.r
  have hPm : va_P D vwCl (mW B cD cI (gσ ((goP S (xs ((5 * k) + 1)) (FP.dmul (FP.i2d (xs ((5 * k) + 2))) k0_125)).2)) ((goP S (xs ((5 * k) + 1)) (FP.dmul (FP.i2d (xs ((5 * k) + 2))) k0_125)).2) (nI (goP S (xs ((5 * k) + 1)) (FP.dmul (FP.i2d (xs ((5 * k) + 2))) k0_125)).1) u9.2 u9.1) H := hPm
  refine xpc (q := 471) rfl ?_
  refine lv_iload hx hb dL_law_471 (lv_at hl 1 rfl) ?_
  refine lv_icmp_eq (tgt := 478) hx hb dL_law_473 (by decide) (fun c_473 => ?_) (fun c_473 => absurd rfl c_473)
  refine lv_iload hx hb dL_law_478 (lv_at hl 1 rfl) ?_
  refine lv_if_ne (tgt := 495) hx hb dL_law_480 (by decide) (fun c_480 => ?_) (fun c_480 => ?_)
  ·
    refine lv_goto (tgt := 1022) hx hb dL_law_495 (by decide) ?_
    exact kk ((goP S (xs ((5 * k) + 1)) (FP.dmul (FP.i2d (xs ((5 * k) + 2))) k0_125)).2) (vset u.1 16 (v 16)) u9.1 (nI (goP S (xs ((5 * k) + 1)) (FP.dmul (FP.i2d (xs ((5 * k) + 2))) k0_125)).1) u9.2 u.2 fD _ _ _ ⟨(inv_go hv hN (arg_bd _).1), hu1.1, hu2, hPc, hPm, hPl, hPd⟩ hS (lv_sub hl [2, 3, 4, 5, 6, 7] rfl)
  ·
    have hk0 : (goP S (xs ((5 * k) + 1)) (FP.dmul (FP.i2d (xs ((5 * k) + 2))) k0_125)).1 = 0 := k0_of go_le c_480
    refine lv_aload_n hx hb dL_law_483 rfl (lv_at hl 6 rfl) ?_
    refine lv_iconst (v := nI 0) hx hb dL_law_484 (by decide) ?_
    refine xlald hx hb hI hPl 0 3 rfl rfl (j := 0) (by decide) (by decide) dL_law_485 ?_
    refine xeql (y := (gtk (goP S (xs ((5 * k) + 1)) (FP.dmul (FP.i2d (xs ((5 * k) + 2))) k0_125)).2 - gtk S).toInt64) (hu1.2 hk0) ?_
    refine lv_iload hx hb dL_law_486 (lv_at hl 0 rfl) ?_
    refine xeqi (y := gtk (goP S (xs ((5 * k) + 1)) (FP.dmul (FP.i2d (xs ((5 * k) + 2))) k0_125)).2 - gtk S) (if_pos hk0) ?_
    refine lv_i2l (v := (gtk (goP S (xs ((5 * k) + 1)) (FP.dmul (FP.i2d (xs ((5 * k) + 2))) k0_125)).2 - gtk S).toInt64) hx hb dL_law_488 rfl ?_
    refine W.lcmp hx hb dL_law_489 ?_
    refine lv_if_eq (tgt := 495) hx hb dL_law_490 (by decide) (fun c_490 => ?_) (fun c_490 => absurd (lgc rfl) c_490)
    refine lv_goto (tgt := 1022) hx hb dL_law_495 (by decide) ?_
    exact kk ((goP S (xs ((5 * k) + 1)) (FP.dmul (FP.i2d (xs ((5 * k) + 2))) k0_125)).2) (vset u.1 16 (v 16)) u9.1 (nI (goP S (xs ((5 * k) + 1)) (FP.dmul (FP.i2d (xs ((5 * k) + 2))) k0_125)).1) u9.2 u.2 fD _ _ _ ⟨(inv_go hv hN (arg_bd _).1), hu1.1, hu2, hPc, hPm, hPl, hPd⟩ hS (lv_sub hl [2, 3, 4, 5, 6, 7] rfl)

set_option maxHeartbeats 4000000 in
set_option maxRecDepth 100000 in
theorem law_c8 {p : Program} {e : Env} {s : State} {m : MethodId} {below : List Frame} {meth : Method} {c : Code} (l : Launch) (htr : l.stackTraces = false) {b L : Nat} {xs : Nat → Int32} (hL : L ≤ 2560) (C0 : lw_At p s m meth c b L xs) {D : va_G} {cD cI cM cL : ClassId} {A B : Nat → Nat} {rw : Nat → Option Nat} {oL oD : Nat} (hLX : LX D cD cI cM cL A B rw oL oD s) {N E k cells slots : Nat} (hN : N + 104 ≤ 53352) (hE : E + 100 < 2 ^ 29) (hk : 5 * k + 5 ≤ L) (hc1 : cells + 1 ≤ 662564) (hs1 : slots + 6 ≤ 7108413) {S : St} {v w : Nat → Nat → UInt64} {th fl : Int32} {fL : Nat → Int64} {fD : Nat → UInt64} {H : Heap} {locs : List Loc} {ls : Array Slot} (hH : LH D cD cI cM cL A B rw oL oD N E S v w th fl fL fD H) (hS : va_S (fun q => s.heap.size ≤ q) s.heap H locs) (hl : lv_has ls 10 [(5, .int (nI (5 * k))), (0, .ref b), (1, .ref (A 0)), (2, .ref (B 0)), (3, .ref oL), (4, .ref oD)])
    (kk : ∀ (S2 : St) (v2 w2 : Nat → Nat → UInt64) (th2 fl2 : Int32) (fL2 : Nat → Int64) (fD2 : Nat → UInt64) (H2 : Heap) (locs2 : List Loc) (ls2 : Array Slot), LH D cD cI cM cL A B rw oL oD (N + 104) (E + 100) S2 v2 w2 th2 fl2 fL2 fD2 H2 → va_S (fun q => s.heap.size ≤ q) s.heap H2 locs2 → lv_has ls2 10 [(5, .int (nI (5 * k))), (0, .ref b), (1, .ref (A 0)), (2, .ref (B 0)), (3, .ref oL), (4, .ref oD)] → W p l e room_1 s m #[Value.ref b] below meth c H2 locs2 (cells + 1) (slots + 6) (lw_Z below #[Value.ref b] s) (F0 m 1022 ls2 [])) : W p l e room_1 s m #[Value.ref b] below meth c H locs cells slots (lw_Z below #[Value.ref b] s) (F0 m 569 ls []) := by
  obtain ⟨hx, hb, hr, hml, hown, hts, hX, hbl, hlocks, hgv⟩ := id C0
  have hg := lw_sub hts
  have hown : s.vm.findClass RL = some m.cls := hown
  have hbA : ¬ (fun q : Nat => s.heap.size ≤ q) b := Nat.not_le.mpr hbl
  obtain ⟨⟨hI, hT, hNc, hZ0⟩, hrw, ⟨hdC, hdCL, hdCD, hdM⟩, hAll, hMx, hCL, hCD, hLD⟩ := id hLX
  obtain ⟨hv, hen, hkp, hPc, hPm, hPl, hPd⟩ := hH
  have hB : ((N * 2 ^ 1074 : Nat) : Int) ≤ BT := Int.ofNat_le.mpr (Nat.mul_le_mul_right _ (by omega))
  have hB4 : ((N * 2 ^ 1074 : Nat) : Int) ≤ (((N + 104) * 2 ^ 1074 : Nat) : Int) := Int.ofNat_le.mpr (Nat.mul_le_mul_right _ (by omega))
  have hB0 : (0 : Int) ≤ ((N * 2 ^ 1074 : Nat) : Int) := Int.natCast_nonneg _
  have hn : sn (gσ S) ≤ 3 := hv.1.2.1
  refine lv_aload_n hx hb dL_law_569 rfl (lv_at hl 2 rfl) ?_
  refine lv_aload_n hx hb dL_law_570 rfl (lv_at hl 1 rfl) ?_
  refine lv_iload hx hb dL_law_571 (lv_at hl 0 rfl) ?_
  refine lv_iconst (v := nI 1) hx hb dL_law_573 (by decide) ?_
  refine lv_iadd hx hb dL_law_574 ?_
  refine xeqi (y := nI ((5 * k) + 1)) (nI_add (5 * k) 1) ?_
  refine xsld hx hb hX hbl hbA hS (j := (5 * k) + 1) (by omega) (by omega) dL_law_575 ?_
  refine lv_aload hx hb dL_law_576 (lv_at hl 5 rfl) ?_
  have hZ : tZ (fun q => q ∈ cAd A ++ [oD]) s H := (hZ0.kept (fun a ha hna => hS.2.1 a ha hna)).narrow (fun q hq => hAll q ((List.mem_append.mp hq).elim Or.inl (fun z => Or.inr (Or.inr (Or.inr (List.mem_singleton.mp z))))))
  refine xpc (q := 578) rfl ?_
  refine xcRi (wo := (mW B cD cI (gσ S) S th fl w) ++ ([(oL, lA cL 1 fL)])) (xLS (n := 3) (As := [.ref (A 0), .int (xs ((5 * k) + 1)), .ref oD]) (rest := []) hx hb hml hown hg (l_event l htr D cD cI cM cL A rw S v (xs ((5 * k) + 1)) oD fD (by have := hv.2.2.2.2.2.2.2.2; omega)) mM_L_99 mT_L_event mC_L_event mN_L rfl rfl (by decide +kernel) ⟨Nat.le_of_ble_eq_true rfl, Nat.le_of_ble_eq_true rfl⟩ hI (hPc.app hPd) hdCD hT hNc hZ rfl hl.1 rfl (Nat.le_of_ble_eq_true rfl) dL_law_578 ⟨hc1, hs1⟩) (hPm.app hPl) (fun x hx9 => (List.mem_append.mp hx9).elim (fun h q => (List.mem_append.mp q).elim (hMx x h).1 (fun z => (hMx x h).2.2 (List.mem_singleton.mp z))) (fun h q => by rw [show x = oL by simpa using h] at q; exact (List.mem_append.mp q).elim hCL (fun z => hLD (List.mem_singleton.mp z)))) hS (fun q hq => hAll q ((List.mem_append.mp hq).elim Or.inl (fun z => Or.inr (Or.inr (Or.inr (List.mem_singleton.mp z)))))) (fun u H locs hu hPw hWo hS _ => ?_)
  have hu1 := hu
  have hPc := hPw.l
  have hPd := hPw.r
  have hPm := hWo.l
  have hO9 := hWo.r
  have hPl := hO9
  have hPc : va_P D vwCl (cW A rw cD cI cM (gσ S) S v) H := hPc
  refine xpc (q := 581) rfl ?_
  refine lv_istore (lv' := [(6, .int (nI (if rmb S (xs ((5 * k) + 1)) then 0 else 1))), (5, .int (nI (5 * k))), (0, .ref b), (1, .ref (A 0)), (2, .ref (B 0)), (3, .ref oL), (4, .ref oD)]) hx hb dL_law_581 hl (by decide) rfl (fun ls hl => ?_)
  refine lv_aload_n hx hb dL_law_583 rfl (lv_at hl 4 rfl) ?_
  refine lv_aload_n hx hb dL_law_584 rfl (lv_at hl 2 rfl) ?_
  refine lv_iload hx hb dL_law_585 (lv_at hl 1 rfl) ?_
  refine lv_iconst (v := nI 1) hx hb dL_law_587 (by decide) ?_
  refine lv_iadd hx hb dL_law_588 ?_
  refine xeqi (y := nI ((5 * k) + 1)) (nI_add (5 * k) 1) ?_
  refine xsld hx hb hX hbl hbA hS (j := (5 * k) + 1) (by omega) (by omega) dL_law_589 ?_
  refine xpc (q := 590) rfl ?_
  refine xcRd (wo := (cW A rw cD cI cM (gσ S) S v) ++ ([(oL, lA cL 1 fL)] ++ [(oD, dA cD 1 u)])) (xLV (As := [.int (xs ((5 * k) + 1))]) (rest := []) (C := RX7) hx hb hml hown hg (g_event l D cD cI cM cL B S th fl w (xs ((5 * k) + 1)) (by have := hv.2.2.2.2.2.2.2.2; omega)) mM_L_102 ok_X7_event rfl rfl ⟨Nat.le_of_ble_eq_true rfl, Nat.le_of_ble_eq_true rfl⟩ hI hPm hdM rfl rfl rfl hl.1 rfl (Nat.le_of_ble_eq_true rfl) dL_law_590 ⟨hc1, hs1⟩) (hPc.app (hPl.app hPd)) (fun x hx9 q => (List.mem_append.mp hx9).elim (hMx x q).1 (fun h => by rcases (show x = oL ∨ x = oD by simpa using h) with z | z; exact (hMx x q).2.1 z; exact (hMx x q).2.2 z)) hS (fun q hq => hAll q (Or.inr (Or.inl hq))) (fun _u H locs hu hPw hWo hS _ => ?_)
  have hPm := hPw
  have hPc := hWo.l
  have hO9 := hWo.r
  have hPl := hO9.l
  have hPd := hO9.r
  have hPm : va_P D vwCl (mW B cD cI (gσ S) S (nI (if rmb S (xs ((5 * k) + 1)) then 0 else 1)) fl w) H := hPm
  refine xpc (q := 593) rfl ?_
  refine lv_dstore (lv' := [(7, .double (if rmb S (xs ((5 * k) + 1)) then gtm S ((gev S - 1 - ((xs ((5 * k) + 1))).toNatClampNeg) % 8) else FP.dconst0)), (6, .int (nI (if rmb S (xs ((5 * k) + 1)) then 0 else 1))), (5, .int (nI (5 * k))), (0, .ref b), (1, .ref (A 0)), (2, .ref (B 0)), (3, .ref oL), (4, .ref oD)]) hx hb dL_law_593 hl (by decide) rfl (fun ls hl => ?_)
  refine lv_aload_n hx hb dL_law_595 rfl (lv_at hl 5 rfl) ?_
  refine xpc (q := 596) rfl ?_
  refine xcRi (wo := (cW A rw cD cI cM (gσ S) S v) ++ ([(oL, lA cL 1 fL)] ++ [(oD, dA cD 1 u)])) (xLV (As := []) (rest := []) (C := RX7) hx hb hml hown hg (g_thrown l D cD cI cM cL B S (nI (if rmb S (xs ((5 * k) + 1)) then 0 else 1)) fl w ) mM_L_67 ok_X7_thrown rfl rfl ⟨Nat.le_of_ble_eq_true rfl, Nat.le_of_ble_eq_true rfl⟩ hI hPm hdM rfl rfl rfl hl.1 rfl (Nat.le_of_ble_eq_true rfl) dL_law_596 ⟨hc1, hs1⟩) (hPc.app (hPl.app hPd)) (fun x hx9 q => (List.mem_append.mp hx9).elim (hMx x q).1 (fun h => by rcases (show x = oL ∨ x = oD by simpa using h) with z | z; exact (hMx x q).2.1 z; exact (hMx x q).2.2 z)) hS (fun q hq => hAll q (Or.inr (Or.inl hq))) (fun _u8 H locs hu hPw hWo hS _ => ?_)
  have hPm := hPw
  have hPc := hWo.l
  have hO9 := hWo.r
  have hPl := hO9.l
  have hPd := hO9.r
  have hPm : va_P D vwCl (mW B cD cI (gσ S) S (nI (if rmb S (xs ((5 * k) + 1)) then 0 else 1)) fl w) H := hPm
  refine xpc (q := 599) rfl ?_
  refine lv_iload hx hb dL_law_599 (lv_at hl 1 rfl) ?_
  refine lv_icmp_eq (tgt := 606) hx hb dL_law_601 (by decide) (fun c_601 => ?_) (fun c_601 => absurd rfl c_601)
  refine lv_iload hx hb dL_law_606 (lv_at hl 1 rfl) ?_
  refine lv_if_ne (tgt := 643) hx hb dL_law_608 (by decide) (fun c_608 => ?_) (fun c_608 => ?_)
  ·
    refine lv_goto (tgt := 1022) hx hb dL_law_643 (by decide) ?_
    exact kk S v w (nI (if rmb S (xs ((5 * k) + 1)) then 0 else 1)) fl fL u _ _ _ ⟨(hv.mono hB4 (by omega)), hen, hkp, hPc, hPm, hPl, hPd⟩ hS (lv_sub hl [2, 3, 4, 5, 6, 7] rfl)
  ·
    have hk0 : (if rmb S (xs ((5 * k) + 1)) then 0 else 1) = 0 := k0_of if_le c_608
    have hif : (if rmb S (xs ((5 * k) + 1)) then gtm S ((gev S - 1 - ((xs ((5 * k) + 1))).toNatClampNeg) % 8) else FP.dconst0) = gtm S ((gev S - 1 - ((xs ((5 * k) + 1))).toNatClampNeg) % 8) := if_pos (if0 hk0)
    refine lv_aload hx hb dL_law_611 (lv_at hl 7 rfl) ?_
    refine lv_iconst (v := nI 0) hx hb dL_law_613 (by decide) ?_
    refine xdald hx hb hI hPd 0 0 rfl rfl (j := 0) (by decide) (by decide) dL_law_614 ?_
    refine xeqd (y := gtm S ((gev S - 1 - ((xs ((5 * k) + 1))).toNatClampNeg) % 8)) (hu1 hk0) ?_
    refine lv_dload hx hb dL_law_615 (lv_at hl 0 rfl) ?_
    refine xeqd (y := gtm S ((gev S - 1 - ((xs ((5 * k) + 1))).toNatClampNeg) % 8)) hif ?_
    refine xl_eq (tgt := 643) hx hb dL_law_617 dL_law_618 (by decide) (fun c_617 => ?_) (fun c_617 => ?_)
    ·
      refine lv_goto (tgt := 1022) hx hb dL_law_643 (by decide) ?_
      exact kk S v w (nI (if rmb S (xs ((5 * k) + 1)) then 0 else 1)) fl fL u _ _ _ ⟨(hv.mono hB4 (by omega)), hen, hkp, hPc, hPm, hPl, hPd⟩ hS (lv_sub hl [2, 3, 4, 5, 6, 7] rfl)
    ·
      refine lv_aload hx hb dL_law_621 (lv_at hl 7 rfl) ?_
      refine lv_iconst (v := nI 0) hx hb dL_law_623 (by decide) ?_
      refine xdald hx hb hI hPd 0 0 rfl rfl (j := 0) (by decide) (by decide) dL_law_624 ?_
      refine xeqd (y := gtm S ((gev S - 1 - ((xs ((5 * k) + 1))).toNatClampNeg) % 8)) (hu1 hk0) ?_
      refine lv_aload hx hb dL_law_625 (lv_at hl 7 rfl) ?_
      refine lv_iconst (v := nI 0) hx hb dL_law_627 (by decide) ?_
      refine xdald hx hb hI hPd 0 0 rfl rfl (j := 0) (by decide) (by decide) dL_law_628 ?_
      refine xeqd (y := gtm S ((gev S - 1 - ((xs ((5 * k) + 1))).toNatClampNeg) % 8)) (hu1 hk0) ?_
      refine xl_eq (tgt := 641) hx hb dL_law_629 dL_law_630 (by decide) (fun c_629 => absurd c_629 c_617) (fun c_629 => ?_)
      refine lv_dload hx hb dL_law_633 (lv_at hl 0 rfl) ?_
      refine xeqd (y := gtm S ((gev S - 1 - ((xs ((5 * k) + 1))).toNatClampNeg) % 8)) hif ?_
      refine lv_dload hx hb dL_law_635 (lv_at hl 0 rfl) ?_
      refine xeqd (y := gtm S ((gev S - 1 - ((xs ((5 * k) + 1))).toNatClampNeg) % 8)) hif ?_
      refine xl_ne (tgt := 643) hx hb dL_law_637 dL_law_638 (by decide) (fun c_637 => ?_) (fun c_637 => (c_617 c_637).elim)
      refine lv_goto (tgt := 1022) hx hb dL_law_643 (by decide) ?_
      exact kk S v w (nI (if rmb S (xs ((5 * k) + 1)) then 0 else 1)) fl fL u _ _ _ ⟨(hv.mono hB4 (by omega)), hen, hkp, hPc, hPm, hPl, hPd⟩ hS (lv_sub hl [2, 3, 4, 5, 6, 7] rfl)

set_option maxHeartbeats 4000000 in
set_option maxRecDepth 100000 in
theorem law_c9 {p : Program} {e : Env} {s : State} {m : MethodId} {below : List Frame} {meth : Method} {c : Code} (l : Launch) (htr : l.stackTraces = false) {b L : Nat} {xs : Nat → Int32} (hL : L ≤ 2560) (C0 : lw_At p s m meth c b L xs) {D : va_G} {cD cI cM cL : ClassId} {A B : Nat → Nat} {rw : Nat → Option Nat} {oL oD : Nat} (hLX : LX D cD cI cM cL A B rw oL oD s) {N E k cells slots : Nat} (hN : N + 104 ≤ 53352) (hE : E + 100 < 2 ^ 29) (hk : 5 * k + 5 ≤ L) (hc1 : cells + 1 ≤ 662564) (hs1 : slots + 6 ≤ 7108413) {S : St} {v w : Nat → Nat → UInt64} {th fl : Int32} {fL : Nat → Int64} {fD : Nat → UInt64} {H : Heap} {locs : List Loc} {ls : Array Slot} (hH : LH D cD cI cM cL A B rw oL oD N E S v w th fl fL fD H) (hS : va_S (fun q => s.heap.size ≤ q) s.heap H locs) (hl : lv_has ls 10 [(5, .int (nI (5 * k))), (0, .ref b), (1, .ref (A 0)), (2, .ref (B 0)), (3, .ref oL), (4, .ref oD)])
    (kk : ∀ (S2 : St) (v2 w2 : Nat → Nat → UInt64) (th2 fl2 : Int32) (fL2 : Nat → Int64) (fD2 : Nat → UInt64) (H2 : Heap) (locs2 : List Loc) (ls2 : Array Slot), LH D cD cI cM cL A B rw oL oD (N + 104) (E + 100) S2 v2 w2 th2 fl2 fL2 fD2 H2 → va_S (fun q => s.heap.size ≤ q) s.heap H2 locs2 → lv_has ls2 10 [(5, .int (nI (5 * k))), (0, .ref b), (1, .ref (A 0)), (2, .ref (B 0)), (3, .ref oL), (4, .ref oD)] → W p l e room_1 s m #[Value.ref b] below meth c H2 locs2 (cells + 1) (slots + 6) (lw_Z below #[Value.ref b] s) (F0 m 1022 ls2 [])) : W p l e room_1 s m #[Value.ref b] below meth c H locs cells slots (lw_Z below #[Value.ref b] s) (F0 m 646 ls []) := by
  obtain ⟨hx, hb, hr, hml, hown, hts, hX, hbl, hlocks, hgv⟩ := id C0
  have hg := lw_sub hts
  have hown : s.vm.findClass RL = some m.cls := hown
  have hbA : ¬ (fun q : Nat => s.heap.size ≤ q) b := Nat.not_le.mpr hbl
  obtain ⟨⟨hI, hT, hNc, hZ0⟩, hrw, ⟨hdC, hdCL, hdCD, hdM⟩, hAll, hMx, hCL, hCD, hLD⟩ := id hLX
  obtain ⟨hv, hen, hkp, hPc, hPm, hPl, hPd⟩ := hH
  have hB : ((N * 2 ^ 1074 : Nat) : Int) ≤ BT := Int.ofNat_le.mpr (Nat.mul_le_mul_right _ (by omega))
  have hB4 : ((N * 2 ^ 1074 : Nat) : Int) ≤ (((N + 104) * 2 ^ 1074 : Nat) : Int) := Int.ofNat_le.mpr (Nat.mul_le_mul_right _ (by omega))
  have hB0 : (0 : Int) ≤ ((N * 2 ^ 1074 : Nat) : Int) := Int.natCast_nonneg _
  have hn : sn (gσ S) ≤ 3 := hv.1.2.1
  refine lv_aload_n hx hb dL_law_646 rfl (lv_at hl 2 rfl) ?_
  refine lv_aload_n hx hb dL_law_647 rfl (lv_at hl 1 rfl) ?_
  refine lv_iload hx hb dL_law_648 (lv_at hl 0 rfl) ?_
  refine lv_iconst (v := nI 1) hx hb dL_law_650 (by decide) ?_
  refine lv_iadd hx hb dL_law_651 ?_
  refine xeqi (y := nI ((5 * k) + 1)) (nI_add (5 * k) 1) ?_
  refine xsld hx hb hX hbl hbA hS (j := (5 * k) + 1) (by omega) (by omega) dL_law_652 ?_
  refine lv_aload hx hb dL_law_653 (lv_at hl 5 rfl) ?_
  have hZ : tZ (fun q => q ∈ cAd A ++ [oD]) s H := (hZ0.kept (fun a ha hna => hS.2.1 a ha hna)).narrow (fun q hq => hAll q ((List.mem_append.mp hq).elim Or.inl (fun z => Or.inr (Or.inr (Or.inr (List.mem_singleton.mp z))))))
  refine xpc (q := 655) rfl ?_
  refine xcRi (wo := (mW B cD cI (gσ S) S th fl w) ++ ([(oL, lA cL 1 fL)])) (xLS (n := 3) (As := [.ref (A 0), .int (xs ((5 * k) + 1)), .ref oD]) (rest := []) hx hb hml hown hg (l_at l htr D cD cI cM cL A rw S v (xs ((5 * k) + 1)) oD fD hn) mM_L_103 mT_L_at mC_L_at mN_L rfl rfl (by decide +kernel) ⟨Nat.le_of_ble_eq_true rfl, Nat.le_of_ble_eq_true rfl⟩ hI (hPc.app hPd) hdCD hT hNc hZ rfl hl.1 rfl (Nat.le_of_ble_eq_true rfl) dL_law_655 ⟨hc1, hs1⟩) (hPm.app hPl) (fun x hx9 => (List.mem_append.mp hx9).elim (fun h q => (List.mem_append.mp q).elim (hMx x h).1 (fun z => (hMx x h).2.2 (List.mem_singleton.mp z))) (fun h q => by rw [show x = oL by simpa using h] at q; exact (List.mem_append.mp q).elim hCL (fun z => hLD (List.mem_singleton.mp z)))) hS (fun q hq => hAll q ((List.mem_append.mp hq).elim Or.inl (fun z => Or.inr (Or.inr (Or.inr (List.mem_singleton.mp z)))))) (fun u H locs hu hPw hWo hS _ => ?_)
  have hu1 := hu
  have hPc := hPw.l
  have hPd := hPw.r
  have hPm := hWo.l
  have hO9 := hWo.r
  have hPl := hO9
  have hPc : va_P D vwCl (cW A rw cD cI cM (gσ S) S v) H := hPc
  refine xpc (q := 658) rfl ?_
  refine lv_istore (lv' := [(6, .int (nI (if inV S (xs ((5 * k) + 1)) then 0 else 1))), (5, .int (nI (5 * k))), (0, .ref b), (1, .ref (A 0)), (2, .ref (B 0)), (3, .ref oL), (4, .ref oD)]) hx hb dL_law_658 hl (by decide) rfl (fun ls hl => ?_)
  refine lv_aload_n hx hb dL_law_660 rfl (lv_at hl 4 rfl) ?_
  refine lv_aload_n hx hb dL_law_661 rfl (lv_at hl 2 rfl) ?_
  refine lv_iload hx hb dL_law_662 (lv_at hl 1 rfl) ?_
  refine lv_iconst (v := nI 1) hx hb dL_law_664 (by decide) ?_
  refine lv_iadd hx hb dL_law_665 ?_
  refine xeqi (y := nI ((5 * k) + 1)) (nI_add (5 * k) 1) ?_
  refine xsld hx hb hX hbl hbA hS (j := (5 * k) + 1) (by omega) (by omega) dL_law_666 ?_
  refine xpc (q := 667) rfl ?_
  refine xcRd (wo := (cW A rw cD cI cM (gσ S) S v) ++ ([(oL, lA cL 1 fL)] ++ [(oD, dA cD 1 u)])) (xLV (As := [.int (xs ((5 * k) + 1))]) (rest := []) (C := RX7) hx hb hml hown hg (g_at l D cD cI cM cL B S th fl w (xs ((5 * k) + 1)) hn) mM_L_105 ok_X7_at rfl rfl ⟨Nat.le_of_ble_eq_true rfl, Nat.le_of_ble_eq_true rfl⟩ hI hPm hdM rfl rfl rfl hl.1 rfl (Nat.le_of_ble_eq_true rfl) dL_law_667 ⟨hc1, hs1⟩) (hPc.app (hPl.app hPd)) (fun x hx9 q => (List.mem_append.mp hx9).elim (hMx x q).1 (fun h => by rcases (show x = oL ∨ x = oD by simpa using h) with z | z; exact (hMx x q).2.1 z; exact (hMx x q).2.2 z)) hS (fun q hq => hAll q (Or.inr (Or.inl hq))) (fun _u H locs hu hPw hWo hS _ => ?_)
  have hPm := hPw
  have hPc := hWo.l
  have hO9 := hWo.r
  have hPl := hO9.l
  have hPd := hO9.r
  have hPm : va_P D vwCl (mW B cD cI (gσ S) S (nI (if inV S (xs ((5 * k) + 1)) then 0 else 1)) fl w) H := hPm
  refine xpc (q := 670) rfl ?_
  refine lv_dstore (lv' := [(7, .double (if inV S (xs ((5 * k) + 1)) then gy S ((xs ((5 * k) + 1))).toNatClampNeg else FP.dconst0)), (6, .int (nI (if inV S (xs ((5 * k) + 1)) then 0 else 1))), (5, .int (nI (5 * k))), (0, .ref b), (1, .ref (A 0)), (2, .ref (B 0)), (3, .ref oL), (4, .ref oD)]) hx hb dL_law_670 hl (by decide) rfl (fun ls hl => ?_)
  refine lv_aload_n hx hb dL_law_672 rfl (lv_at hl 5 rfl) ?_
  refine xpc (q := 673) rfl ?_
  refine xcRi (wo := (cW A rw cD cI cM (gσ S) S v) ++ ([(oL, lA cL 1 fL)] ++ [(oD, dA cD 1 u)])) (xLV (As := []) (rest := []) (C := RX7) hx hb hml hown hg (g_thrown l D cD cI cM cL B S (nI (if inV S (xs ((5 * k) + 1)) then 0 else 1)) fl w ) mM_L_67 ok_X7_thrown rfl rfl ⟨Nat.le_of_ble_eq_true rfl, Nat.le_of_ble_eq_true rfl⟩ hI hPm hdM rfl rfl rfl hl.1 rfl (Nat.le_of_ble_eq_true rfl) dL_law_673 ⟨hc1, hs1⟩) (hPc.app (hPl.app hPd)) (fun x hx9 q => (List.mem_append.mp hx9).elim (hMx x q).1 (fun h => by rcases (show x = oL ∨ x = oD by simpa using h) with z | z; exact (hMx x q).2.1 z; exact (hMx x q).2.2 z)) hS (fun q hq => hAll q (Or.inr (Or.inl hq))) (fun _u8 H locs hu hPw hWo hS _ => ?_)
  have hPm := hPw
  have hPc := hWo.l
  have hO9 := hWo.r
  have hPl := hO9.l
  have hPd := hO9.r
  have hPm : va_P D vwCl (mW B cD cI (gσ S) S (nI (if inV S (xs ((5 * k) + 1)) then 0 else 1)) fl w) H := hPm
  refine xpc (q := 676) rfl ?_
  refine lv_iload hx hb dL_law_676 (lv_at hl 1 rfl) ?_
  refine lv_icmp_eq (tgt := 683) hx hb dL_law_678 (by decide) (fun c_678 => ?_) (fun c_678 => absurd rfl c_678)
  refine lv_iload hx hb dL_law_683 (lv_at hl 1 rfl) ?_
  refine lv_if_ne (tgt := 720) hx hb dL_law_685 (by decide) (fun c_685 => ?_) (fun c_685 => ?_)
  ·
    refine lv_goto (tgt := 1022) hx hb dL_law_720 (by decide) ?_
    exact kk S v w (nI (if inV S (xs ((5 * k) + 1)) then 0 else 1)) fl fL u _ _ _ ⟨(hv.mono hB4 (by omega)), hen, hkp, hPc, hPm, hPl, hPd⟩ hS (lv_sub hl [2, 3, 4, 5, 6, 7] rfl)
  ·
    have hk0 : (if inV S (xs ((5 * k) + 1)) then 0 else 1) = 0 := k0_of if_le c_685
    have hif : (if inV S (xs ((5 * k) + 1)) then gy S ((xs ((5 * k) + 1))).toNatClampNeg else FP.dconst0) = gy S ((xs ((5 * k) + 1))).toNatClampNeg := if_pos (if0 hk0)
    refine lv_aload hx hb dL_law_688 (lv_at hl 7 rfl) ?_
    refine lv_iconst (v := nI 0) hx hb dL_law_690 (by decide) ?_
    refine xdald hx hb hI hPd 0 0 rfl rfl (j := 0) (by decide) (by decide) dL_law_691 ?_
    refine xeqd (y := gy S ((xs ((5 * k) + 1))).toNatClampNeg) (hu1 hk0) ?_
    refine lv_dload hx hb dL_law_692 (lv_at hl 0 rfl) ?_
    refine xeqd (y := gy S ((xs ((5 * k) + 1))).toNatClampNeg) hif ?_
    refine xl_eq (tgt := 720) hx hb dL_law_694 dL_law_695 (by decide) (fun c_694 => ?_) (fun c_694 => ?_)
    ·
      refine lv_goto (tgt := 1022) hx hb dL_law_720 (by decide) ?_
      exact kk S v w (nI (if inV S (xs ((5 * k) + 1)) then 0 else 1)) fl fL u _ _ _ ⟨(hv.mono hB4 (by omega)), hen, hkp, hPc, hPm, hPl, hPd⟩ hS (lv_sub hl [2, 3, 4, 5, 6, 7] rfl)
    ·
      refine lv_aload hx hb dL_law_698 (lv_at hl 7 rfl) ?_
      refine lv_iconst (v := nI 0) hx hb dL_law_700 (by decide) ?_
      refine xdald hx hb hI hPd 0 0 rfl rfl (j := 0) (by decide) (by decide) dL_law_701 ?_
      refine xeqd (y := gy S ((xs ((5 * k) + 1))).toNatClampNeg) (hu1 hk0) ?_
      refine lv_aload hx hb dL_law_702 (lv_at hl 7 rfl) ?_
      refine lv_iconst (v := nI 0) hx hb dL_law_704 (by decide) ?_
      refine xdald hx hb hI hPd 0 0 rfl rfl (j := 0) (by decide) (by decide) dL_law_705 ?_
      refine xeqd (y := gy S ((xs ((5 * k) + 1))).toNatClampNeg) (hu1 hk0) ?_
      refine xl_eq (tgt := 718) hx hb dL_law_706 dL_law_707 (by decide) (fun c_706 => absurd c_706 c_694) (fun c_706 => ?_)
      refine lv_dload hx hb dL_law_710 (lv_at hl 0 rfl) ?_
      refine xeqd (y := gy S ((xs ((5 * k) + 1))).toNatClampNeg) hif ?_
      refine lv_dload hx hb dL_law_712 (lv_at hl 0 rfl) ?_
      refine xeqd (y := gy S ((xs ((5 * k) + 1))).toNatClampNeg) hif ?_
      refine xl_ne (tgt := 720) hx hb dL_law_714 dL_law_715 (by decide) (fun c_714 => ?_) (fun c_714 => (c_694 c_714).elim)
      refine lv_goto (tgt := 1022) hx hb dL_law_720 (by decide) ?_
      exact kk S v w (nI (if inV S (xs ((5 * k) + 1)) then 0 else 1)) fl fL u _ _ _ ⟨(hv.mono hB4 (by omega)), hen, hkp, hPc, hPm, hPl, hPd⟩ hS (lv_sub hl [2, 3, 4, 5, 6, 7] rfl)

set_option maxHeartbeats 4000000 in
set_option maxRecDepth 100000 in
theorem law_c10 {p : Program} {e : Env} {s : State} {m : MethodId} {below : List Frame} {meth : Method} {c : Code} (l : Launch) (htr : l.stackTraces = false) {b L : Nat} {xs : Nat → Int32} (hL : L ≤ 2560) (C0 : lw_At p s m meth c b L xs) {D : va_G} {cD cI cM cL : ClassId} {A B : Nat → Nat} {rw : Nat → Option Nat} {oL oD : Nat} (hLX : LX D cD cI cM cL A B rw oL oD s) {N E k cells slots : Nat} (hN : N + 104 ≤ 53352) (hE : E + 100 < 2 ^ 29) (hk : 5 * k + 5 ≤ L) (hc1 : cells + 1 ≤ 662564) (hs1 : slots + 6 ≤ 7108413) {S : St} {v w : Nat → Nat → UInt64} {th fl : Int32} {fL : Nat → Int64} {fD : Nat → UInt64} {H : Heap} {locs : List Loc} {ls : Array Slot} (hH : LH D cD cI cM cL A B rw oL oD N E S v w th fl fL fD H) (hS : va_S (fun q => s.heap.size ≤ q) s.heap H locs) (hl : lv_has ls 10 [(5, .int (nI (5 * k))), (0, .ref b), (1, .ref (A 0)), (2, .ref (B 0)), (3, .ref oL), (4, .ref oD)])
    (kk : ∀ (S2 : St) (v2 w2 : Nat → Nat → UInt64) (th2 fl2 : Int32) (fL2 : Nat → Int64) (fD2 : Nat → UInt64) (H2 : Heap) (locs2 : List Loc) (ls2 : Array Slot), LH D cD cI cM cL A B rw oL oD (N + 104) (E + 100) S2 v2 w2 th2 fl2 fL2 fD2 H2 → va_S (fun q => s.heap.size ≤ q) s.heap H2 locs2 → lv_has ls2 10 [(5, .int (nI (5 * k))), (0, .ref b), (1, .ref (A 0)), (2, .ref (B 0)), (3, .ref oL), (4, .ref oD)] → W p l e room_1 s m #[Value.ref b] below meth c H2 locs2 (cells + 1) (slots + 6) (lw_Z below #[Value.ref b] s) (F0 m 1022 ls2 [])) : W p l e room_1 s m #[Value.ref b] below meth c H locs cells slots (lw_Z below #[Value.ref b] s) (F0 m 723 ls []) := by
  obtain ⟨hx, hb, hr, hml, hown, hts, hX, hbl, hlocks, hgv⟩ := id C0
  have hg := lw_sub hts
  have hown : s.vm.findClass RL = some m.cls := hown
  have hbA : ¬ (fun q : Nat => s.heap.size ≤ q) b := Nat.not_le.mpr hbl
  obtain ⟨⟨hI, hT, hNc, hZ0⟩, hrw, ⟨hdC, hdCL, hdCD, hdM⟩, hAll, hMx, hCL, hCD, hLD⟩ := id hLX
  obtain ⟨hv, hen, hkp, hPc, hPm, hPl, hPd⟩ := hH
  have hB : ((N * 2 ^ 1074 : Nat) : Int) ≤ BT := Int.ofNat_le.mpr (Nat.mul_le_mul_right _ (by omega))
  have hB4 : ((N * 2 ^ 1074 : Nat) : Int) ≤ (((N + 104) * 2 ^ 1074 : Nat) : Int) := Int.ofNat_le.mpr (Nat.mul_le_mul_right _ (by omega))
  have hB0 : (0 : Int) ≤ ((N * 2 ^ 1074 : Nat) : Int) := Int.natCast_nonneg _
  have hn : sn (gσ S) ≤ 3 := hv.1.2.1
  refine lv_aload_n hx hb dL_law_723 rfl (lv_at hl 2 rfl) ?_
  refine lv_aload_n hx hb dL_law_724 rfl (lv_at hl 1 rfl) ?_
  refine lv_iload hx hb dL_law_725 (lv_at hl 0 rfl) ?_
  refine lv_iconst (v := nI 1) hx hb dL_law_727 (by decide) ?_
  refine lv_iadd hx hb dL_law_728 ?_
  refine xeqi (y := nI ((5 * k) + 1)) (nI_add (5 * k) 1) ?_
  refine xsld hx hb hX hbl hbA hS (j := (5 * k) + 1) (by omega) (by omega) dL_law_729 ?_
  refine lv_aload hx hb dL_law_730 (lv_at hl 5 rfl) ?_
  have hZ : tZ (fun q => q ∈ cAd A ++ [oD]) s H := (hZ0.kept (fun a ha hna => hS.2.1 a ha hna)).narrow (fun q hq => hAll q ((List.mem_append.mp hq).elim Or.inl (fun z => Or.inr (Or.inr (Or.inr (List.mem_singleton.mp z))))))
  refine xpc (q := 732) rfl ?_
  refine xcRi (wo := (mW B cD cI (gσ S) S th fl w) ++ ([(oL, lA cL 1 fL)])) (xLS (n := 3) (As := [.ref (A 0), .int (xs ((5 * k) + 1)), .ref oD]) (rest := []) hx hb hml hown hg (l_derivative l htr D cD cI cM cL A rw S v (xs ((5 * k) + 1)) oD fD ((N * 2 ^ 1074 : Nat) : Int) E hv hB) mM_L_106 mT_L_derivative mC_L_derivative mN_L rfl rfl (by decide +kernel) ⟨Nat.le_of_ble_eq_true rfl, Nat.le_of_ble_eq_true rfl⟩ hI (hPc.app hPd) hdCD hT hNc hZ rfl hl.1 rfl (Nat.le_of_ble_eq_true rfl) dL_law_732 ⟨hc1, hs1⟩) (hPm.app hPl) (fun x hx9 => (List.mem_append.mp hx9).elim (fun h q => (List.mem_append.mp q).elim (hMx x h).1 (fun z => (hMx x h).2.2 (List.mem_singleton.mp z))) (fun h q => by rw [show x = oL by simpa using h] at q; exact (List.mem_append.mp q).elim hCL (fun z => hLD (List.mem_singleton.mp z)))) hS (fun q hq => hAll q ((List.mem_append.mp hq).elim Or.inl (fun z => Or.inr (Or.inr (Or.inr (List.mem_singleton.mp z)))))) (fun u H locs hu hPw hWo hS _ => ?_)
  have hu1 := hu
  have hPc := hPw.l
  have hPd := hPw.r
  have hPm := hWo.l
  have hO9 := hWo.r
  have hPl := hO9
  have hPc : va_P D vwCl (cW A rw cD cI cM (gσ S) S (vset v 16 u.1)) H := hPc
  refine xpc (q := 735) rfl ?_
  refine lv_istore (lv' := [(6, .int (nI (if inV S (xs ((5 * k) + 1)) then 0 else 1))), (5, .int (nI (5 * k))), (0, .ref b), (1, .ref (A 0)), (2, .ref (B 0)), (3, .ref oL), (4, .ref oD)]) hx hb dL_law_735 hl (by decide) rfl (fun ls hl => ?_)
  refine lv_aload_n hx hb dL_law_737 rfl (lv_at hl 4 rfl) ?_
  refine lv_aload_n hx hb dL_law_738 rfl (lv_at hl 2 rfl) ?_
  refine lv_iload hx hb dL_law_739 (lv_at hl 1 rfl) ?_
  refine lv_iconst (v := nI 1) hx hb dL_law_741 (by decide) ?_
  refine lv_iadd hx hb dL_law_742 ?_
  refine xeqi (y := nI ((5 * k) + 1)) (nI_add (5 * k) 1) ?_
  refine xsld hx hb hX hbl hbA hS (j := (5 * k) + 1) (by omega) (by omega) dL_law_743 ?_
  refine xpc (q := 744) rfl ?_
  refine xcRd (wo := (cW A rw cD cI cM (gσ S) S (vset v 16 u.1)) ++ ([(oL, lA cL 1 fL)] ++ [(oD, dA cD 1 u.2)])) (xLV (As := [.int (xs ((5 * k) + 1))]) (rest := []) (C := RX7) hx hb hml hown hg (g_derivative l D cD cI cM cL B S th fl w (xs ((5 * k) + 1)) ((N * 2 ^ 1074 : Nat) : Int) E hv hB) mM_L_108 ok_X7_derivative rfl rfl ⟨Nat.le_of_ble_eq_true rfl, Nat.le_of_ble_eq_true rfl⟩ hI hPm hdM rfl rfl rfl hl.1 rfl (Nat.le_of_ble_eq_true rfl) dL_law_744 ⟨hc1, hs1⟩) (hPc.app (hPl.app hPd)) (fun x hx9 q => (List.mem_append.mp hx9).elim (hMx x q).1 (fun h => by rcases (show x = oL ∨ x = oD by simpa using h) with z | z; exact (hMx x q).2.1 z; exact (hMx x q).2.2 z)) hS (fun q hq => hAll q (Or.inr (Or.inl hq))) (fun u9 H locs hu hPw hWo hS _ => ?_)
  have hPm := hPw
  have hPc := hWo.l
  have hO9 := hWo.r
  have hPl := hO9.l
  have hPd := hO9.r
  have hPm : va_P D vwCl (mW B cD cI (gσ S) S (nI (if inV S (xs ((5 * k) + 1)) then 0 else 1)) fl (vset w 5 u9)) H := hPm
  refine xpc (q := 747) rfl ?_
  refine lv_dstore (lv' := [(7, .double (if inV S (xs ((5 * k) + 1)) then fs (gσ S) (gt S) (gy S) ((xs ((5 * k) + 1))).toNatClampNeg else FP.dconst0)), (6, .int (nI (if inV S (xs ((5 * k) + 1)) then 0 else 1))), (5, .int (nI (5 * k))), (0, .ref b), (1, .ref (A 0)), (2, .ref (B 0)), (3, .ref oL), (4, .ref oD)]) hx hb dL_law_747 hl (by decide) rfl (fun ls hl => ?_)
  refine lv_aload_n hx hb dL_law_749 rfl (lv_at hl 5 rfl) ?_
  refine xpc (q := 750) rfl ?_
  refine xcRi (wo := (cW A rw cD cI cM (gσ S) S (vset v 16 u.1)) ++ ([(oL, lA cL 1 fL)] ++ [(oD, dA cD 1 u.2)])) (xLV (As := []) (rest := []) (C := RX7) hx hb hml hown hg (g_thrown l D cD cI cM cL B S (nI (if inV S (xs ((5 * k) + 1)) then 0 else 1)) fl (vset w 5 u9) ) mM_L_67 ok_X7_thrown rfl rfl ⟨Nat.le_of_ble_eq_true rfl, Nat.le_of_ble_eq_true rfl⟩ hI hPm hdM rfl rfl rfl hl.1 rfl (Nat.le_of_ble_eq_true rfl) dL_law_750 ⟨hc1, hs1⟩) (hPc.app (hPl.app hPd)) (fun x hx9 q => (List.mem_append.mp hx9).elim (hMx x q).1 (fun h => by rcases (show x = oL ∨ x = oD by simpa using h) with z | z; exact (hMx x q).2.1 z; exact (hMx x q).2.2 z)) hS (fun q hq => hAll q (Or.inr (Or.inl hq))) (fun _u8 H locs hu hPw hWo hS _ => ?_)
  have hPm := hPw
  have hPc := hWo.l
  have hO9 := hWo.r
  have hPl := hO9.l
  have hPd := hO9.r
  have hPm : va_P D vwCl (mW B cD cI (gσ S) S (nI (if inV S (xs ((5 * k) + 1)) then 0 else 1)) fl (vset w 5 u9)) H := hPm
  refine xpc (q := 753) rfl ?_
  refine lv_iload hx hb dL_law_753 (lv_at hl 1 rfl) ?_
  refine lv_icmp_eq (tgt := 760) hx hb dL_law_755 (by decide) (fun c_755 => ?_) (fun c_755 => absurd rfl c_755)
  refine lv_iload hx hb dL_law_760 (lv_at hl 1 rfl) ?_
  refine lv_if_ne (tgt := 797) hx hb dL_law_762 (by decide) (fun c_762 => ?_) (fun c_762 => ?_)
  ·
    refine lv_goto (tgt := 1022) hx hb dL_law_797 (by decide) ?_
    exact kk S (vset v 16 u.1) (vset w 5 u9) (nI (if inV S (xs ((5 * k) + 1)) then 0 else 1)) fl fL u.2 _ _ _ ⟨(hv.mono hB4 (by omega)), hen, hkp, hPc, hPm, hPl, hPd⟩ hS (lv_sub hl [2, 3, 4, 5, 6, 7] rfl)
  ·
    have hk0 : (if inV S (xs ((5 * k) + 1)) then 0 else 1) = 0 := k0_of if_le c_762
    have hif : (if inV S (xs ((5 * k) + 1)) then fs (gσ S) (gt S) (gy S) ((xs ((5 * k) + 1))).toNatClampNeg else FP.dconst0) = fs (gσ S) (gt S) (gy S) ((xs ((5 * k) + 1))).toNatClampNeg := if_pos (if0 hk0)
    refine lv_aload hx hb dL_law_765 (lv_at hl 7 rfl) ?_
    refine lv_iconst (v := nI 0) hx hb dL_law_767 (by decide) ?_
    refine xdald hx hb hI hPd 0 0 rfl rfl (j := 0) (by decide) (by decide) dL_law_768 ?_
    refine xeqd (y := fs (gσ S) (gt S) (gy S) ((xs ((5 * k) + 1))).toNatClampNeg) (hu1 hk0) ?_
    refine lv_dload hx hb dL_law_769 (lv_at hl 0 rfl) ?_
    refine xeqd (y := fs (gσ S) (gt S) (gy S) ((xs ((5 * k) + 1))).toNatClampNeg) hif ?_
    refine xl_eq (tgt := 797) hx hb dL_law_771 dL_law_772 (by decide) (fun c_771 => ?_) (fun c_771 => ?_)
    ·
      refine lv_goto (tgt := 1022) hx hb dL_law_797 (by decide) ?_
      exact kk S (vset v 16 u.1) (vset w 5 u9) (nI (if inV S (xs ((5 * k) + 1)) then 0 else 1)) fl fL u.2 _ _ _ ⟨(hv.mono hB4 (by omega)), hen, hkp, hPc, hPm, hPl, hPd⟩ hS (lv_sub hl [2, 3, 4, 5, 6, 7] rfl)
    ·
      refine lv_aload hx hb dL_law_775 (lv_at hl 7 rfl) ?_
      refine lv_iconst (v := nI 0) hx hb dL_law_777 (by decide) ?_
      refine xdald hx hb hI hPd 0 0 rfl rfl (j := 0) (by decide) (by decide) dL_law_778 ?_
      refine xeqd (y := fs (gσ S) (gt S) (gy S) ((xs ((5 * k) + 1))).toNatClampNeg) (hu1 hk0) ?_
      refine lv_aload hx hb dL_law_779 (lv_at hl 7 rfl) ?_
      refine lv_iconst (v := nI 0) hx hb dL_law_781 (by decide) ?_
      refine xdald hx hb hI hPd 0 0 rfl rfl (j := 0) (by decide) (by decide) dL_law_782 ?_
      refine xeqd (y := fs (gσ S) (gt S) (gy S) ((xs ((5 * k) + 1))).toNatClampNeg) (hu1 hk0) ?_
      refine xl_eq (tgt := 795) hx hb dL_law_783 dL_law_784 (by decide) (fun c_783 => absurd c_783 c_771) (fun c_783 => ?_)
      refine lv_dload hx hb dL_law_787 (lv_at hl 0 rfl) ?_
      refine xeqd (y := fs (gσ S) (gt S) (gy S) ((xs ((5 * k) + 1))).toNatClampNeg) hif ?_
      refine lv_dload hx hb dL_law_789 (lv_at hl 0 rfl) ?_
      refine xeqd (y := fs (gσ S) (gt S) (gy S) ((xs ((5 * k) + 1))).toNatClampNeg) hif ?_
      refine xl_ne (tgt := 797) hx hb dL_law_791 dL_law_792 (by decide) (fun c_791 => ?_) (fun c_791 => (c_771 c_791).elim)
      refine lv_goto (tgt := 1022) hx hb dL_law_797 (by decide) ?_
      exact kk S (vset v 16 u.1) (vset w 5 u9) (nI (if inV S (xs ((5 * k) + 1)) then 0 else 1)) fl fL u.2 _ _ _ ⟨(hv.mono hB4 (by omega)), hen, hkp, hPc, hPm, hPl, hPd⟩ hS (lv_sub hl [2, 3, 4, 5, 6, 7] rfl)

set_option maxHeartbeats 4000000 in
set_option maxRecDepth 100000 in
theorem law_c11 {p : Program} {e : Env} {s : State} {m : MethodId} {below : List Frame} {meth : Method} {c : Code} (l : Launch) (htr : l.stackTraces = false) {b L : Nat} {xs : Nat → Int32} (hL : L ≤ 2560) (C0 : lw_At p s m meth c b L xs) {D : va_G} {cD cI cM cL : ClassId} {A B : Nat → Nat} {rw : Nat → Option Nat} {oL oD : Nat} (hLX : LX D cD cI cM cL A B rw oL oD s) {N E k cells slots : Nat} (hN : N + 104 ≤ 53352) (hE : E + 100 < 2 ^ 29) (hk : 5 * k + 5 ≤ L) (hc1 : cells + 1 ≤ 662564) (hs1 : slots + 6 ≤ 7108413) {S : St} {v w : Nat → Nat → UInt64} {th fl : Int32} {fL : Nat → Int64} {fD : Nat → UInt64} {H : Heap} {locs : List Loc} {ls : Array Slot} (hH : LH D cD cI cM cL A B rw oL oD N E S v w th fl fL fD H) (hS : va_S (fun q => s.heap.size ≤ q) s.heap H locs) (hl : lv_has ls 10 [(5, .int (nI (5 * k))), (0, .ref b), (1, .ref (A 0)), (2, .ref (B 0)), (3, .ref oL), (4, .ref oD)])
    (kk : ∀ (S2 : St) (v2 w2 : Nat → Nat → UInt64) (th2 fl2 : Int32) (fL2 : Nat → Int64) (fD2 : Nat → UInt64) (H2 : Heap) (locs2 : List Loc) (ls2 : Array Slot), LH D cD cI cM cL A B rw oL oD (N + 104) (E + 100) S2 v2 w2 th2 fl2 fL2 fD2 H2 → va_S (fun q => s.heap.size ≤ q) s.heap H2 locs2 → lv_has ls2 10 [(5, .int (nI (5 * k))), (0, .ref b), (1, .ref (A 0)), (2, .ref (B 0)), (3, .ref oL), (4, .ref oD)] → W p l e room_1 s m #[Value.ref b] below meth c H2 locs2 (cells + 1) (slots + 6) (lw_Z below #[Value.ref b] s) (F0 m 1022 ls2 [])) : W p l e room_1 s m #[Value.ref b] below meth c H locs cells slots (lw_Z below #[Value.ref b] s) (F0 m 800 ls []) := by
  obtain ⟨hx, hb, hr, hml, hown, hts, hX, hbl, hlocks, hgv⟩ := id C0
  have hg := lw_sub hts
  have hown : s.vm.findClass RL = some m.cls := hown
  have hbA : ¬ (fun q : Nat => s.heap.size ≤ q) b := Nat.not_le.mpr hbl
  obtain ⟨⟨hI, hT, hNc, hZ0⟩, hrw, ⟨hdC, hdCL, hdCD, hdM⟩, hAll, hMx, hCL, hCD, hLD⟩ := id hLX
  obtain ⟨hv, hen, hkp, hPc, hPm, hPl, hPd⟩ := hH
  have hB : ((N * 2 ^ 1074 : Nat) : Int) ≤ BT := Int.ofNat_le.mpr (Nat.mul_le_mul_right _ (by omega))
  have hB4 : ((N * 2 ^ 1074 : Nat) : Int) ≤ (((N + 104) * 2 ^ 1074 : Nat) : Int) := Int.ofNat_le.mpr (Nat.mul_le_mul_right _ (by omega))
  have hB0 : (0 : Int) ≤ ((N * 2 ^ 1074 : Nat) : Int) := Int.natCast_nonneg _
  have hn : sn (gσ S) ≤ 3 := hv.1.2.1
  refine lv_aload_n hx hb dL_law_800 rfl (lv_at hl 2 rfl) ?_
  refine lv_aload_n hx hb dL_law_801 rfl (lv_at hl 1 rfl) ?_
  refine lv_iload hx hb dL_law_802 (lv_at hl 0 rfl) ?_
  refine lv_iconst (v := nI 1) hx hb dL_law_804 (by decide) ?_
  refine lv_iadd hx hb dL_law_805 ?_
  refine xeqi (y := nI ((5 * k) + 1)) (nI_add (5 * k) 1) ?_
  refine xsld hx hb hX hbl hbA hS (j := (5 * k) + 1) (by omega) (by omega) dL_law_806 ?_
  refine lv_aload_n hx hb dL_law_807 rfl (lv_at hl 1 rfl) ?_
  refine lv_iload hx hb dL_law_808 (lv_at hl 0 rfl) ?_
  refine lv_iconst (v := nI 2) hx hb dL_law_810 (by decide) ?_
  refine lv_iadd hx hb dL_law_811 ?_
  refine xeqi (y := nI ((5 * k) + 2)) (nI_add (5 * k) 2) ?_
  refine xsld hx hb hX hbl hbA hS (j := (5 * k) + 2) (by omega) (by omega) dL_law_812 ?_
  refine lv_i2d hx hb dL_law_813 ?_
  refine lv_ldc2d (v := k0_125) hx hb hown (hg _ mD_L_71) dL_law_814 ?_
  refine xpc (q := 817) rfl ?_
  refine lv_dmul hx hb dL_law_817 ((arg_bd _).nn) ?_
  refine lv_aload hx hb dL_law_818 (lv_at hl 5 rfl) ?_
  have hZ : tZ (fun q => q ∈ cAd A ++ [oD]) s H := (hZ0.kept (fun a ha hna => hS.2.1 a ha hna)).narrow (fun q hq => hAll q ((List.mem_append.mp hq).elim Or.inl (fun z => Or.inr (Or.inr (Or.inr (List.mem_singleton.mp z))))))
  refine xpc (q := 820) rfl ?_
  refine xcRi (wo := (mW B cD cI (gσ S) S th fl w) ++ ([(oL, lA cL 1 fL)])) (xLS (n := 4) (As := [.ref (A 0), .int (xs ((5 * k) + 1)), .double (FP.dmul (FP.i2d (xs ((5 * k) + 2))) k0_125), .ref oD]) (rest := []) hx hb hml hown hg (l_between l htr D cD cI cM cL A rw S v (xs ((5 * k) + 1)) (FP.dmul (FP.i2d (xs ((5 * k) + 2))) k0_125) oD fD ((N * 2 ^ 1074 : Nat) : Int) E hv hB (arg_bd _).1 hen) mM_L_109 mT_L_between mC_L_between mN_L rfl rfl (by decide +kernel) ⟨Nat.le_of_ble_eq_true rfl, Nat.le_of_ble_eq_true rfl⟩ hI (hPc.app hPd) hdCD hT hNc hZ rfl hl.1 rfl (Nat.le_of_ble_eq_true rfl) dL_law_820 ⟨hc1, hs1⟩) (hPm.app hPl) (fun x hx9 => (List.mem_append.mp hx9).elim (fun h q => (List.mem_append.mp q).elim (hMx x h).1 (fun z => (hMx x h).2.2 (List.mem_singleton.mp z))) (fun h q => by rw [show x = oL by simpa using h] at q; exact (List.mem_append.mp q).elim hCL (fun z => hLD (List.mem_singleton.mp z)))) hS (fun q hq => hAll q ((List.mem_append.mp hq).elim Or.inl (fun z => Or.inr (Or.inr (Or.inr (List.mem_singleton.mp z)))))) (fun u H locs hu hPw hWo hS _ => ?_)
  have hu1 := hu
  have hPc := hPw.l
  have hPd := hPw.r
  have hPm := hWo.l
  have hO9 := hWo.r
  have hPl := hO9
  have hPc : va_P D vwCl (cW A rw cD cI cM (gσ S) S v) H := hPc
  refine xpc (q := 823) rfl ?_
  refine lv_istore (lv' := [(6, .int (nI (btK S (xs ((5 * k) + 1)) (FP.dmul (FP.i2d (xs ((5 * k) + 2))) k0_125)))), (5, .int (nI (5 * k))), (0, .ref b), (1, .ref (A 0)), (2, .ref (B 0)), (3, .ref oL), (4, .ref oD)]) hx hb dL_law_823 hl (by decide) rfl (fun ls hl => ?_)
  refine lv_aload_n hx hb dL_law_825 rfl (lv_at hl 4 rfl) ?_
  refine lv_aload_n hx hb dL_law_826 rfl (lv_at hl 2 rfl) ?_
  refine lv_iload hx hb dL_law_827 (lv_at hl 1 rfl) ?_
  refine lv_iconst (v := nI 1) hx hb dL_law_829 (by decide) ?_
  refine lv_iadd hx hb dL_law_830 ?_
  refine xeqi (y := nI ((5 * k) + 1)) (nI_add (5 * k) 1) ?_
  refine xsld hx hb hX hbl hbA hS (j := (5 * k) + 1) (by omega) (by omega) dL_law_831 ?_
  refine lv_aload_n hx hb dL_law_832 rfl (lv_at hl 2 rfl) ?_
  refine lv_iload hx hb dL_law_833 (lv_at hl 1 rfl) ?_
  refine lv_iconst (v := nI 2) hx hb dL_law_835 (by decide) ?_
  refine lv_iadd hx hb dL_law_836 ?_
  refine xeqi (y := nI ((5 * k) + 2)) (nI_add (5 * k) 2) ?_
  refine xsld hx hb hX hbl hbA hS (j := (5 * k) + 2) (by omega) (by omega) dL_law_837 ?_
  refine lv_i2d hx hb dL_law_838 ?_
  refine xpc (q := 839) rfl ?_
  refine lv_ldc2d (v := k0_125) hx hb hown (hg _ mD_L_71) dL_law_839 ?_
  refine lv_dmul hx hb dL_law_842 ((arg_bd _).nn) ?_
  refine xpc (q := 843) rfl ?_
  refine xcRd (wo := (cW A rw cD cI cM (gσ S) S v) ++ ([(oL, lA cL 1 fL)] ++ [(oD, dA cD 1 u)])) (xLV (As := [.int (xs ((5 * k) + 1)), .double (FP.dmul (FP.i2d (xs ((5 * k) + 2))) k0_125)]) (rest := []) (C := RX7) hx hb hml hown hg (g_between l D cD cI cM cL B S th fl w (xs ((5 * k) + 1)) (FP.dmul (FP.i2d (xs ((5 * k) + 2))) k0_125) ((N * 2 ^ 1074 : Nat) : Int) E hv hB (arg_bd _).1) mM_L_112 ok_X7_between rfl rfl ⟨Nat.le_of_ble_eq_true rfl, Nat.le_of_ble_eq_true rfl⟩ hI hPm hdM rfl rfl rfl hl.1 rfl (Nat.le_of_ble_eq_true rfl) dL_law_843 ⟨hc1, hs1⟩) (hPc.app (hPl.app hPd)) (fun x hx9 q => (List.mem_append.mp hx9).elim (hMx x q).1 (fun h => by rcases (show x = oL ∨ x = oD by simpa using h) with z | z; exact (hMx x q).2.1 z; exact (hMx x q).2.2 z)) hS (fun q hq => hAll q (Or.inr (Or.inl hq))) (fun _u H locs hu hPw hWo hS _ => ?_)
  have hPm := hPw
  have hPc := hWo.l
  have hO9 := hWo.r
  have hPl := hO9.l
  have hPd := hO9.r
  have hPm : va_P D vwCl (mW B cD cI (gσ S) S (nI (btK S (xs ((5 * k) + 1)) (FP.dmul (FP.i2d (xs ((5 * k) + 2))) k0_125))) fl w) H := hPm
  refine xpc (q := 846) rfl ?_
  refine lv_dstore (lv' := [(7, .double (if btK S (xs ((5 * k) + 1)) (FP.dmul (FP.i2d (xs ((5 * k) + 2))) k0_125) = 0 then crv (gy0 S ((xs ((5 * k) + 1))).toNatClampNeg) (gg S ((xs ((5 * k) + 1))).toNatClampNeg) (gy S ((xs ((5 * k) + 1))).toNatClampNeg) (gq S ((xs ((5 * k) + 1))).toNatClampNeg) (gsp S) (FP.dmul (FP.i2d (xs ((5 * k) + 2))) k0_125) else FP.dconst0)), (6, .int (nI (btK S (xs ((5 * k) + 1)) (FP.dmul (FP.i2d (xs ((5 * k) + 2))) k0_125)))), (5, .int (nI (5 * k))), (0, .ref b), (1, .ref (A 0)), (2, .ref (B 0)), (3, .ref oL), (4, .ref oD)]) hx hb dL_law_846 hl (by decide) rfl (fun ls hl => ?_)
  refine lv_aload_n hx hb dL_law_848 rfl (lv_at hl 5 rfl) ?_
  refine xpc (q := 849) rfl ?_
  refine xcRi (wo := (cW A rw cD cI cM (gσ S) S v) ++ ([(oL, lA cL 1 fL)] ++ [(oD, dA cD 1 u)])) (xLV (As := []) (rest := []) (C := RX7) hx hb hml hown hg (g_thrown l D cD cI cM cL B S (nI (btK S (xs ((5 * k) + 1)) (FP.dmul (FP.i2d (xs ((5 * k) + 2))) k0_125))) fl w ) mM_L_67 ok_X7_thrown rfl rfl ⟨Nat.le_of_ble_eq_true rfl, Nat.le_of_ble_eq_true rfl⟩ hI hPm hdM rfl rfl rfl hl.1 rfl (Nat.le_of_ble_eq_true rfl) dL_law_849 ⟨hc1, hs1⟩) (hPc.app (hPl.app hPd)) (fun x hx9 q => (List.mem_append.mp hx9).elim (hMx x q).1 (fun h => by rcases (show x = oL ∨ x = oD by simpa using h) with z | z; exact (hMx x q).2.1 z; exact (hMx x q).2.2 z)) hS (fun q hq => hAll q (Or.inr (Or.inl hq))) (fun _u8 H locs hu hPw hWo hS _ => ?_)
  have hPm := hPw
  have hPc := hWo.l
  have hO9 := hWo.r
  have hPl := hO9.l
  have hPd := hO9.r
  have hPm : va_P D vwCl (mW B cD cI (gσ S) S (nI (btK S (xs ((5 * k) + 1)) (FP.dmul (FP.i2d (xs ((5 * k) + 2))) k0_125))) fl w) H := hPm
  refine xpc (q := 852) rfl ?_
  refine lv_iload hx hb dL_law_852 (lv_at hl 1 rfl) ?_
  refine lv_icmp_eq (tgt := 859) hx hb dL_law_854 (by decide) (fun c_854 => ?_) (fun c_854 => absurd rfl c_854)
  refine lv_iload hx hb dL_law_859 (lv_at hl 1 rfl) ?_
  refine lv_if_ne (tgt := 896) hx hb dL_law_861 (by decide) (fun c_861 => ?_) (fun c_861 => ?_)
  ·
    refine lv_goto (tgt := 1022) hx hb dL_law_896 (by decide) ?_
    exact kk S v w (nI (btK S (xs ((5 * k) + 1)) (FP.dmul (FP.i2d (xs ((5 * k) + 2))) k0_125))) fl fL u _ _ _ ⟨(hv.mono hB4 (by omega)), hen, hkp, hPc, hPm, hPl, hPd⟩ hS (lv_sub hl [2, 3, 4, 5, 6, 7] rfl)
  ·
    have hk0 : btK S (xs ((5 * k) + 1)) (FP.dmul (FP.i2d (xs ((5 * k) + 2))) k0_125) = 0 := k0_of btK_le c_861
    have hif : (if btK S (xs ((5 * k) + 1)) (FP.dmul (FP.i2d (xs ((5 * k) + 2))) k0_125) = 0 then crv (gy0 S ((xs ((5 * k) + 1))).toNatClampNeg) (gg S ((xs ((5 * k) + 1))).toNatClampNeg) (gy S ((xs ((5 * k) + 1))).toNatClampNeg) (gq S ((xs ((5 * k) + 1))).toNatClampNeg) (gsp S) (FP.dmul (FP.i2d (xs ((5 * k) + 2))) k0_125) else FP.dconst0) = crv (gy0 S ((xs ((5 * k) + 1))).toNatClampNeg) (gg S ((xs ((5 * k) + 1))).toNatClampNeg) (gy S ((xs ((5 * k) + 1))).toNatClampNeg) (gq S ((xs ((5 * k) + 1))).toNatClampNeg) (gsp S) (FP.dmul (FP.i2d (xs ((5 * k) + 2))) k0_125) := if_pos hk0
    refine lv_aload hx hb dL_law_864 (lv_at hl 7 rfl) ?_
    refine lv_iconst (v := nI 0) hx hb dL_law_866 (by decide) ?_
    refine xdald hx hb hI hPd 0 0 rfl rfl (j := 0) (by decide) (by decide) dL_law_867 ?_
    refine xeqd (y := crv (gy0 S ((xs ((5 * k) + 1))).toNatClampNeg) (gg S ((xs ((5 * k) + 1))).toNatClampNeg) (gy S ((xs ((5 * k) + 1))).toNatClampNeg) (gq S ((xs ((5 * k) + 1))).toNatClampNeg) (gsp S) (FP.dmul (FP.i2d (xs ((5 * k) + 2))) k0_125)) (hu1 hk0) ?_
    refine lv_dload hx hb dL_law_868 (lv_at hl 0 rfl) ?_
    refine xeqd (y := crv (gy0 S ((xs ((5 * k) + 1))).toNatClampNeg) (gg S ((xs ((5 * k) + 1))).toNatClampNeg) (gy S ((xs ((5 * k) + 1))).toNatClampNeg) (gq S ((xs ((5 * k) + 1))).toNatClampNeg) (gsp S) (FP.dmul (FP.i2d (xs ((5 * k) + 2))) k0_125)) hif ?_
    refine xl_eq (tgt := 896) hx hb dL_law_870 dL_law_871 (by decide) (fun c_870 => ?_) (fun c_870 => ?_)
    ·
      refine lv_goto (tgt := 1022) hx hb dL_law_896 (by decide) ?_
      exact kk S v w (nI (btK S (xs ((5 * k) + 1)) (FP.dmul (FP.i2d (xs ((5 * k) + 2))) k0_125))) fl fL u _ _ _ ⟨(hv.mono hB4 (by omega)), hen, hkp, hPc, hPm, hPl, hPd⟩ hS (lv_sub hl [2, 3, 4, 5, 6, 7] rfl)
    ·
      refine lv_aload hx hb dL_law_874 (lv_at hl 7 rfl) ?_
      refine lv_iconst (v := nI 0) hx hb dL_law_876 (by decide) ?_
      refine xdald hx hb hI hPd 0 0 rfl rfl (j := 0) (by decide) (by decide) dL_law_877 ?_
      refine xeqd (y := crv (gy0 S ((xs ((5 * k) + 1))).toNatClampNeg) (gg S ((xs ((5 * k) + 1))).toNatClampNeg) (gy S ((xs ((5 * k) + 1))).toNatClampNeg) (gq S ((xs ((5 * k) + 1))).toNatClampNeg) (gsp S) (FP.dmul (FP.i2d (xs ((5 * k) + 2))) k0_125)) (hu1 hk0) ?_
      refine lv_aload hx hb dL_law_878 (lv_at hl 7 rfl) ?_
      refine lv_iconst (v := nI 0) hx hb dL_law_880 (by decide) ?_
      refine xdald hx hb hI hPd 0 0 rfl rfl (j := 0) (by decide) (by decide) dL_law_881 ?_
      refine xeqd (y := crv (gy0 S ((xs ((5 * k) + 1))).toNatClampNeg) (gg S ((xs ((5 * k) + 1))).toNatClampNeg) (gy S ((xs ((5 * k) + 1))).toNatClampNeg) (gq S ((xs ((5 * k) + 1))).toNatClampNeg) (gsp S) (FP.dmul (FP.i2d (xs ((5 * k) + 2))) k0_125)) (hu1 hk0) ?_
      refine xl_eq (tgt := 894) hx hb dL_law_882 dL_law_883 (by decide) (fun c_882 => absurd c_882 c_870) (fun c_882 => ?_)
      refine lv_dload hx hb dL_law_886 (lv_at hl 0 rfl) ?_
      refine xeqd (y := crv (gy0 S ((xs ((5 * k) + 1))).toNatClampNeg) (gg S ((xs ((5 * k) + 1))).toNatClampNeg) (gy S ((xs ((5 * k) + 1))).toNatClampNeg) (gq S ((xs ((5 * k) + 1))).toNatClampNeg) (gsp S) (FP.dmul (FP.i2d (xs ((5 * k) + 2))) k0_125)) hif ?_
      refine lv_dload hx hb dL_law_888 (lv_at hl 0 rfl) ?_
      refine xeqd (y := crv (gy0 S ((xs ((5 * k) + 1))).toNatClampNeg) (gg S ((xs ((5 * k) + 1))).toNatClampNeg) (gy S ((xs ((5 * k) + 1))).toNatClampNeg) (gq S ((xs ((5 * k) + 1))).toNatClampNeg) (gsp S) (FP.dmul (FP.i2d (xs ((5 * k) + 2))) k0_125)) hif ?_
      refine xl_ne (tgt := 896) hx hb dL_law_890 dL_law_891 (by decide) (fun c_890 => ?_) (fun c_890 => (c_870 c_890).elim)
      refine lv_goto (tgt := 1022) hx hb dL_law_896 (by decide) ?_
      exact kk S v w (nI (btK S (xs ((5 * k) + 1)) (FP.dmul (FP.i2d (xs ((5 * k) + 2))) k0_125))) fl fL u _ _ _ ⟨(hv.mono hB4 (by omega)), hen, hkp, hPc, hPm, hPl, hPd⟩ hS (lv_sub hl [2, 3, 4, 5, 6, 7] rfl)

set_option maxHeartbeats 4000000 in
set_option maxRecDepth 100000 in
theorem law_c7 {p : Program} {e : Env} {s : State} {m : MethodId} {below : List Frame} {meth : Method} {c : Code} (l : Launch) (htr : l.stackTraces = false) {b L : Nat} {xs : Nat → Int32} (hL : L ≤ 2560) (C0 : lw_At p s m meth c b L xs) {D : va_G} {cD cI cM cL : ClassId} {A B : Nat → Nat} {rw : Nat → Option Nat} {oL oD : Nat} (hLX : LX D cD cI cM cL A B rw oL oD s) {N E k cells slots : Nat} (hN : N + 104 ≤ 53352) (hE : E + 100 < 2 ^ 29) (hk : 5 * k + 5 ≤ L) (hc1 : cells + 1 ≤ 662564) (hs1 : slots + 6 ≤ 7108413) {S : St} {v w : Nat → Nat → UInt64} {th fl : Int32} {fL : Nat → Int64} {fD : Nat → UInt64} {H : Heap} {locs : List Loc} {ls : Array Slot} (hH : LH D cD cI cM cL A B rw oL oD N E S v w th fl fL fD H) (hS : va_S (fun q => s.heap.size ≤ q) s.heap H locs) (hl : lv_has ls 10 [(5, .int (nI (5 * k))), (0, .ref b), (1, .ref (A 0)), (2, .ref (B 0)), (3, .ref oL), (4, .ref oD)])
    (kk : ∀ (S2 : St) (v2 w2 : Nat → Nat → UInt64) (th2 fl2 : Int32) (fL2 : Nat → Int64) (fD2 : Nat → UInt64) (H2 : Heap) (locs2 : List Loc) (ls2 : Array Slot), LH D cD cI cM cL A B rw oL oD (N + 104) (E + 100) S2 v2 w2 th2 fl2 fL2 fD2 H2 → va_S (fun q => s.heap.size ≤ q) s.heap H2 locs2 → lv_has ls2 10 [(5, .int (nI (5 * k))), (0, .ref b), (1, .ref (A 0)), (2, .ref (B 0)), (3, .ref oL), (4, .ref oD)] → W p l e room_1 s m #[Value.ref b] below meth c H2 locs2 (cells + 1) (slots + 6) (lw_Z below #[Value.ref b] s) (F0 m 1022 ls2 [])) : W p l e room_1 s m #[Value.ref b] below meth c H locs cells slots (lw_Z below #[Value.ref b] s) (F0 m 556 ls []) := by
  obtain ⟨hx, hb, hr, hml, hown, hts, hX, hbl, hlocks, hgv⟩ := id C0
  have hg := lw_sub hts
  have hown : s.vm.findClass RL = some m.cls := hown
  have hbA : ¬ (fun q : Nat => s.heap.size ≤ q) b := Nat.not_le.mpr hbl
  obtain ⟨⟨hI, hT, hNc, hZ0⟩, hrw, ⟨hdC, hdCL, hdCD, hdM⟩, hAll, hMx, hCL, hCD, hLD⟩ := id hLX
  obtain ⟨hv, hen, hkp, hPc, hPm, hPl, hPd⟩ := hH
  have hB : ((N * 2 ^ 1074 : Nat) : Int) ≤ BT := Int.ofNat_le.mpr (Nat.mul_le_mul_right _ (by omega))
  have hB4 : ((N * 2 ^ 1074 : Nat) : Int) ≤ (((N + 104) * 2 ^ 1074 : Nat) : Int) := Int.ofNat_le.mpr (Nat.mul_le_mul_right _ (by omega))
  have hB0 : (0 : Int) ≤ ((N * 2 ^ 1074 : Nat) : Int) := Int.natCast_nonneg _
  have hn : sn (gσ S) ≤ 3 := hv.1.2.1
  refine lv_aload_n hx hb dL_law_556 rfl (lv_at hl 2 rfl) ?_
  refine xpc (q := 557) rfl ?_
  refine xcRi (wo := (mW B cD cI (gσ S) S th fl w) ++ ([(oL, lA cL 1 fL)] ++ [(oD, dA cD 1 fD)])) (xLV (As := []) (rest := []) (C := RX6) hx hb hml hown hg (f_events l D cD cI cM cL A rw S v ) mM_L_95 ok_X6_events rfl rfl ⟨Nat.le_of_ble_eq_true rfl, Nat.le_of_ble_eq_true rfl⟩ hI hPc hdC rfl rfl rfl hl.1 rfl (Nat.le_of_ble_eq_true rfl) dL_law_557 ⟨Nat.le_of_lt hc1, Nat.le_trans (Nat.le_add_right _ 6) hs1⟩) (hPm.app (hPl.app hPd)) (fun x hx9 => (List.mem_append.mp hx9).elim (fun h => (hMx x h).1) (fun h => by rcases (show x = oL ∨ x = oD by simpa using h) with rfl | rfl; exact hCL; exact hCD)) hS (fun q hq => hAll q (Or.inl hq)) (fun _ H locs hu hPc hWo hS _ => ?_)
  have hPm := hWo.l
  have hO9 := hWo.r
  have hPl := hO9.l
  have hPd := hO9.r
  refine xpc (q := 560) rfl ?_
  refine lv_aload_n hx hb dL_law_560 rfl (lv_at hl 3 rfl) ?_
  refine xpc (q := 561) rfl ?_
  refine xcRi (wo := (cW A rw cD cI cM (gσ S) S v) ++ ([(oL, lA cL 1 fL)] ++ [(oD, dA cD 1 fD)])) (xLV (As := []) (rest := [.int (nI (gev S))]) (C := RX7) hx hb hml hown hg (g_events l D cD cI cM cL B S th fl w ) mM_L_98 ok_X7_events rfl rfl ⟨Nat.le_of_ble_eq_true rfl, Nat.le_of_ble_eq_true rfl⟩ hI hPm hdM rfl rfl rfl hl.1 rfl (Nat.le_of_ble_eq_true rfl) dL_law_561 ⟨Nat.le_of_lt hc1, Nat.le_trans (Nat.le_add_right _ 6) hs1⟩) (hPc.app (hPl.app hPd)) (fun x hx9 q => (List.mem_append.mp hx9).elim (hMx x q).1 (fun h => by rcases (show x = oL ∨ x = oD by simpa using h) with z | z; exact (hMx x q).2.1 z; exact (hMx x q).2.2 z)) hS (fun q hq => hAll q (Or.inr (Or.inl hq))) (fun _u H locs hu hPw hWo hS _ => ?_)
  have hPm := hPw
  have hPc := hWo.l
  have hO9 := hWo.r
  have hPl := hO9.l
  have hPd := hO9.r
  have hPm : va_P D vwCl (mW B cD cI (gσ S) S (nI 0) fl w) H := hPm
  refine xpc (q := 564) rfl ?_
  refine lv_icmp_eq (tgt := 1022) hx hb dL_law_564 (by decide) (fun c_564 => ?_) (fun c_564 => absurd rfl c_564)
  refine W.widen (Nat.le_succ cells) (Nat.le_add_right slots 6) ?_
  exact kk S v w (nI 0) fl fL fD _ _ _ ⟨(hv.mono hB4 (by omega)), hen, hkp, hPc, hPm, hPl, hPd⟩ hS (lv_sub hl [0, 1, 2, 3, 4, 5] rfl)

set_option maxHeartbeats 4000000 in
set_option maxRecDepth 100000 in
theorem law_c12 {p : Program} {e : Env} {s : State} {m : MethodId} {below : List Frame} {meth : Method} {c : Code} (l : Launch) (htr : l.stackTraces = false) {b L : Nat} {xs : Nat → Int32} (hL : L ≤ 2560) (C0 : lw_At p s m meth c b L xs) {D : va_G} {cD cI cM cL : ClassId} {A B : Nat → Nat} {rw : Nat → Option Nat} {oL oD : Nat} (hLX : LX D cD cI cM cL A B rw oL oD s) {N E k cells slots : Nat} (hN : N + 104 ≤ 53352) (hE : E + 100 < 2 ^ 29) (hk : 5 * k + 5 ≤ L) (hc1 : cells + 1 ≤ 662564) (hs1 : slots + 6 ≤ 7108413) {S : St} {v w : Nat → Nat → UInt64} {th fl : Int32} {fL : Nat → Int64} {fD : Nat → UInt64} {H : Heap} {locs : List Loc} {ls : Array Slot} (hH : LH D cD cI cM cL A B rw oL oD N E S v w th fl fL fD H) (hS : va_S (fun q => s.heap.size ≤ q) s.heap H locs) (hl : lv_has ls 10 [(5, .int (nI (5 * k))), (0, .ref b), (1, .ref (A 0)), (2, .ref (B 0)), (3, .ref oL), (4, .ref oD)])
    (kk : ∀ (S2 : St) (v2 w2 : Nat → Nat → UInt64) (th2 fl2 : Int32) (fL2 : Nat → Int64) (fD2 : Nat → UInt64) (H2 : Heap) (locs2 : List Loc) (ls2 : Array Slot), LH D cD cI cM cL A B rw oL oD (N + 104) (E + 100) S2 v2 w2 th2 fl2 fL2 fD2 H2 → va_S (fun q => s.heap.size ≤ q) s.heap H2 locs2 → lv_has ls2 10 [(5, .int (nI (5 * k))), (0, .ref b), (1, .ref (A 0)), (2, .ref (B 0)), (3, .ref oL), (4, .ref oD)] → W p l e room_1 s m #[Value.ref b] below meth c H2 locs2 (cells + 1) (slots + 6) (lw_Z below #[Value.ref b] s) (F0 m 1022 ls2 [])) : W p l e room_1 s m #[Value.ref b] below meth c H locs cells slots (lw_Z below #[Value.ref b] s) (F0 m 899 ls []) := by
  obtain ⟨hx, hb, hr, hml, hown, hts, hX, hbl, hlocks, hgv⟩ := id C0
  have hg := lw_sub hts
  have hown : s.vm.findClass RL = some m.cls := hown
  have hbA : ¬ (fun q : Nat => s.heap.size ≤ q) b := Nat.not_le.mpr hbl
  obtain ⟨⟨hI, hT, hNc, hZ0⟩, hrw, ⟨hdC, hdCL, hdCD, hdM⟩, hAll, hMx, hCL, hCD, hLD⟩ := id hLX
  obtain ⟨hv, hen, hkp, hPc, hPm, hPl, hPd⟩ := hH
  have hB : ((N * 2 ^ 1074 : Nat) : Int) ≤ BT := Int.ofNat_le.mpr (Nat.mul_le_mul_right _ (by omega))
  have hB4 : ((N * 2 ^ 1074 : Nat) : Int) ≤ (((N + 104) * 2 ^ 1074 : Nat) : Int) := Int.ofNat_le.mpr (Nat.mul_le_mul_right _ (by omega))
  have hB0 : (0 : Int) ≤ ((N * 2 ^ 1074 : Nat) : Int) := Int.natCast_nonneg _
  have hn : sn (gσ S) ≤ 3 := hv.1.2.1
  refine lv_aload_n hx hb dL_law_899 rfl (lv_at hl 2 rfl) ?_
  refine xpc (q := 900) rfl ?_
  refine xcRd (wo := (mW B cD cI (gσ S) S th fl w) ++ ([(oL, lA cL 1 fL)] ++ [(oD, dA cD 1 fD)])) (xLV (As := []) (rest := []) (C := RX6) hx hb hml hown hg (f_time l D cD cI cM cL A rw S v ) mM_L_113 ok_X6_time rfl rfl ⟨Nat.le_of_ble_eq_true rfl, Nat.le_of_ble_eq_true rfl⟩ hI hPc hdC rfl rfl rfl hl.1 rfl (Nat.le_of_ble_eq_true rfl) dL_law_900 ⟨Nat.le_of_lt hc1, Nat.le_trans (Nat.le_add_right _ 6) hs1⟩) (hPm.app (hPl.app hPd)) (fun x hx9 => (List.mem_append.mp hx9).elim (fun h => (hMx x h).1) (fun h => by rcases (show x = oL ∨ x = oD by simpa using h) with rfl | rfl; exact hCL; exact hCD)) hS (fun q hq => hAll q (Or.inl hq)) (fun _ H locs hu hPc hWo hS _ => ?_)
  have hPm := hWo.l
  have hO9 := hWo.r
  have hPl := hO9.l
  have hPd := hO9.r
  refine xpc (q := 903) rfl ?_
  refine lv_dstore (lv' := [(6, .double (gt S)), (5, .int (nI (5 * k))), (0, .ref b), (1, .ref (A 0)), (2, .ref (B 0)), (3, .ref oL), (4, .ref oD)]) hx hb dL_law_903 hl (by decide) rfl (fun ls hl => ?_)
  refine lv_aload_n hx hb dL_law_905 rfl (lv_at hl 4 rfl) ?_
  refine xpc (q := 906) rfl ?_
  refine xcRd (wo := (cW A rw cD cI cM (gσ S) S v) ++ ([(oL, lA cL 1 fL)] ++ [(oD, dA cD 1 fD)])) (xLV (As := []) (rest := []) (C := RX7) hx hb hml hown hg (g_time l D cD cI cM cL B S th fl w ) mM_L_117 ok_X7_time rfl rfl ⟨Nat.le_of_ble_eq_true rfl, Nat.le_of_ble_eq_true rfl⟩ hI hPm hdM rfl rfl rfl hl.1 rfl (Nat.le_of_ble_eq_true rfl) dL_law_906 ⟨Nat.le_of_lt hc1, Nat.le_trans (Nat.le_add_right _ 6) hs1⟩) (hPc.app (hPl.app hPd)) (fun x hx9 q => (List.mem_append.mp hx9).elim (hMx x q).1 (fun h => by rcases (show x = oL ∨ x = oD by simpa using h) with z | z; exact (hMx x q).2.1 z; exact (hMx x q).2.2 z)) hS (fun q hq => hAll q (Or.inr (Or.inl hq))) (fun _u H locs hu hPw hWo hS _ => ?_)
  have hPm := hPw
  have hPc := hWo.l
  have hO9 := hWo.r
  have hPl := hO9.l
  have hPd := hO9.r
  have hPm : va_P D vwCl (mW B cD cI (gσ S) S (nI 0) fl w) H := hPm
  refine xpc (q := 909) rfl ?_
  refine lv_dstore (lv' := [(8, .double (gt S)), (6, .double (gt S)), (5, .int (nI (5 * k))), (0, .ref b), (1, .ref (A 0)), (2, .ref (B 0)), (3, .ref oL), (4, .ref oD)]) hx hb dL_law_909 hl (by decide) rfl (fun ls hl => ?_)
  refine lv_dload hx hb dL_law_911 (lv_at hl 1 rfl) ?_
  refine lv_dload hx hb dL_law_913 (lv_at hl 0 rfl) ?_
  refine xl_eq (tgt := 937) hx hb dL_law_915 dL_law_916 (by decide) (fun c_915 => ?_) (fun c_915 => ?_)
  ·
    refine lv_goto (tgt := 1022) hx hb dL_law_937 (by decide) ?_
    refine W.widen (Nat.le_succ cells) (Nat.le_add_right slots 6) ?_
    exact kk S v w (nI 0) fl fL fD _ _ _ ⟨(hv.mono hB4 (by omega)), hen, hkp, hPc, hPm, hPl, hPd⟩ hS (lv_sub hl [2, 3, 4, 5, 6, 7] rfl)
  ·
    refine lv_dload hx hb dL_law_919 (lv_at hl 1 rfl) ?_
    refine lv_dload hx hb dL_law_921 (lv_at hl 1 rfl) ?_
    refine xl_eq (tgt := 935) hx hb dL_law_923 dL_law_924 (by decide) (fun c_923 => absurd c_923 c_915) (fun c_923 => ?_)
    refine lv_dload hx hb dL_law_927 (lv_at hl 0 rfl) ?_
    refine lv_dload hx hb dL_law_929 (lv_at hl 0 rfl) ?_
    refine xl_ne (tgt := 937) hx hb dL_law_931 dL_law_932 (by decide) (fun c_931 => ?_) (fun c_931 => (c_915 c_931).elim)
    refine lv_goto (tgt := 1022) hx hb dL_law_937 (by decide) ?_
    refine W.widen (Nat.le_succ cells) (Nat.le_add_right slots 6) ?_
    exact kk S v w (nI 0) fl fL fD _ _ _ ⟨(hv.mono hB4 (by omega)), hen, hkp, hPc, hPm, hPl, hPd⟩ hS (lv_sub hl [2, 3, 4, 5, 6, 7] rfl)

set_option maxHeartbeats 4000000 in
set_option maxRecDepth 100000 in
theorem law_c13 {p : Program} {e : Env} {s : State} {m : MethodId} {below : List Frame} {meth : Method} {c : Code} (l : Launch) (htr : l.stackTraces = false) {b L : Nat} {xs : Nat → Int32} (hL : L ≤ 2560) (C0 : lw_At p s m meth c b L xs) {D : va_G} {cD cI cM cL : ClassId} {A B : Nat → Nat} {rw : Nat → Option Nat} {oL oD : Nat} (hLX : LX D cD cI cM cL A B rw oL oD s) {N E k cells slots : Nat} (hN : N + 104 ≤ 53352) (hE : E + 100 < 2 ^ 29) (hk : 5 * k + 5 ≤ L) (hc1 : cells + 1 ≤ 662564) (hs1 : slots + 6 ≤ 7108413) {S : St} {v w : Nat → Nat → UInt64} {th fl : Int32} {fL : Nat → Int64} {fD : Nat → UInt64} {H : Heap} {locs : List Loc} {ls : Array Slot} (hH : LH D cD cI cM cL A B rw oL oD N E S v w th fl fL fD H) (hS : va_S (fun q => s.heap.size ≤ q) s.heap H locs) (hl : lv_has ls 10 [(5, .int (nI (5 * k))), (0, .ref b), (1, .ref (A 0)), (2, .ref (B 0)), (3, .ref oL), (4, .ref oD)])
    (kk : ∀ (S2 : St) (v2 w2 : Nat → Nat → UInt64) (th2 fl2 : Int32) (fL2 : Nat → Int64) (fD2 : Nat → UInt64) (H2 : Heap) (locs2 : List Loc) (ls2 : Array Slot), LH D cD cI cM cL A B rw oL oD (N + 104) (E + 100) S2 v2 w2 th2 fl2 fL2 fD2 H2 → va_S (fun q => s.heap.size ≤ q) s.heap H2 locs2 → lv_has ls2 10 [(5, .int (nI (5 * k))), (0, .ref b), (1, .ref (A 0)), (2, .ref (B 0)), (3, .ref oL), (4, .ref oD)] → W p l e room_1 s m #[Value.ref b] below meth c H2 locs2 (cells + 1) (slots + 6) (lw_Z below #[Value.ref b] s) (F0 m 1022 ls2 [])) : W p l e room_1 s m #[Value.ref b] below meth c H locs cells slots (lw_Z below #[Value.ref b] s) (F0 m 940 ls []) := by
  obtain ⟨hx, hb, hr, hml, hown, hts, hX, hbl, hlocks, hgv⟩ := id C0
  have hg := lw_sub hts
  have hown : s.vm.findClass RL = some m.cls := hown
  have hbA : ¬ (fun q : Nat => s.heap.size ≤ q) b := Nat.not_le.mpr hbl
  obtain ⟨⟨hI, hT, hNc, hZ0⟩, hrw, ⟨hdC, hdCL, hdCD, hdM⟩, hAll, hMx, hCL, hCD, hLD⟩ := id hLX
  obtain ⟨hv, hen, hkp, hPc, hPm, hPl, hPd⟩ := hH
  have hB : ((N * 2 ^ 1074 : Nat) : Int) ≤ BT := Int.ofNat_le.mpr (Nat.mul_le_mul_right _ (by omega))
  have hB4 : ((N * 2 ^ 1074 : Nat) : Int) ≤ (((N + 104) * 2 ^ 1074 : Nat) : Int) := Int.ofNat_le.mpr (Nat.mul_le_mul_right _ (by omega))
  have hB0 : (0 : Int) ≤ ((N * 2 ^ 1074 : Nat) : Int) := Int.natCast_nonneg _
  have hn : sn (gσ S) ≤ 3 := hv.1.2.1
  refine lv_aload_n hx hb dL_law_940 rfl (lv_at hl 2 rfl) ?_
  refine xpc (q := 941) rfl ?_
  refine xcRd (wo := (mW B cD cI (gσ S) S th fl w) ++ ([(oL, lA cL 1 fL)] ++ [(oD, dA cD 1 fD)])) (xLV (As := []) (rest := []) (C := RX6) hx hb hml hown hg (f_nextSize l D cD cI cM cL A rw S v ) mM_L_118 ok_X6_nextSize rfl rfl ⟨Nat.le_of_ble_eq_true rfl, Nat.le_of_ble_eq_true rfl⟩ hI hPc hdC rfl rfl rfl hl.1 rfl (Nat.le_of_ble_eq_true rfl) dL_law_941 ⟨Nat.le_of_lt hc1, Nat.le_trans (Nat.le_add_right _ 6) hs1⟩) (hPm.app (hPl.app hPd)) (fun x hx9 => (List.mem_append.mp hx9).elim (fun h => (hMx x h).1) (fun h => by rcases (show x = oL ∨ x = oD by simpa using h) with rfl | rfl; exact hCL; exact hCD)) hS (fun q hq => hAll q (Or.inl hq)) (fun _ H locs hu hPc hWo hS _ => ?_)
  have hPm := hWo.l
  have hO9 := hWo.r
  have hPl := hO9.l
  have hPd := hO9.r
  refine xpc (q := 944) rfl ?_
  refine lv_dstore (lv' := [(6, .double (gh S)), (5, .int (nI (5 * k))), (0, .ref b), (1, .ref (A 0)), (2, .ref (B 0)), (3, .ref oL), (4, .ref oD)]) hx hb dL_law_944 hl (by decide) rfl (fun ls hl => ?_)
  refine lv_aload_n hx hb dL_law_946 rfl (lv_at hl 4 rfl) ?_
  refine xpc (q := 947) rfl ?_
  refine xcRd (wo := (cW A rw cD cI cM (gσ S) S v) ++ ([(oL, lA cL 1 fL)] ++ [(oD, dA cD 1 fD)])) (xLV (As := []) (rest := []) (C := RX7) hx hb hml hown hg (g_nextSize l D cD cI cM cL B S th fl w ) mM_L_121 ok_X7_nextSize rfl rfl ⟨Nat.le_of_ble_eq_true rfl, Nat.le_of_ble_eq_true rfl⟩ hI hPm hdM rfl rfl rfl hl.1 rfl (Nat.le_of_ble_eq_true rfl) dL_law_947 ⟨Nat.le_of_lt hc1, Nat.le_trans (Nat.le_add_right _ 6) hs1⟩) (hPc.app (hPl.app hPd)) (fun x hx9 q => (List.mem_append.mp hx9).elim (hMx x q).1 (fun h => by rcases (show x = oL ∨ x = oD by simpa using h) with z | z; exact (hMx x q).2.1 z; exact (hMx x q).2.2 z)) hS (fun q hq => hAll q (Or.inr (Or.inl hq))) (fun _u H locs hu hPw hWo hS _ => ?_)
  have hPm := hPw
  have hPc := hWo.l
  have hO9 := hWo.r
  have hPl := hO9.l
  have hPd := hO9.r
  have hPm : va_P D vwCl (mW B cD cI (gσ S) S (nI 0) fl w) H := hPm
  refine xpc (q := 950) rfl ?_
  refine lv_dstore (lv' := [(8, .double (gh S)), (6, .double (gh S)), (5, .int (nI (5 * k))), (0, .ref b), (1, .ref (A 0)), (2, .ref (B 0)), (3, .ref oL), (4, .ref oD)]) hx hb dL_law_950 hl (by decide) rfl (fun ls hl => ?_)
  refine lv_dload hx hb dL_law_952 (lv_at hl 1 rfl) ?_
  refine lv_dload hx hb dL_law_954 (lv_at hl 0 rfl) ?_
  refine xl_eq (tgt := 978) hx hb dL_law_956 dL_law_957 (by decide) (fun c_956 => ?_) (fun c_956 => ?_)
  ·
    refine lv_goto (tgt := 1022) hx hb dL_law_978 (by decide) ?_
    refine W.widen (Nat.le_succ cells) (Nat.le_add_right slots 6) ?_
    exact kk S v w (nI 0) fl fL fD _ _ _ ⟨(hv.mono hB4 (by omega)), hen, hkp, hPc, hPm, hPl, hPd⟩ hS (lv_sub hl [2, 3, 4, 5, 6, 7] rfl)
  ·
    refine lv_dload hx hb dL_law_960 (lv_at hl 1 rfl) ?_
    refine lv_dload hx hb dL_law_962 (lv_at hl 1 rfl) ?_
    refine xl_eq (tgt := 976) hx hb dL_law_964 dL_law_965 (by decide) (fun c_964 => absurd c_964 c_956) (fun c_964 => ?_)
    refine lv_dload hx hb dL_law_968 (lv_at hl 0 rfl) ?_
    refine lv_dload hx hb dL_law_970 (lv_at hl 0 rfl) ?_
    refine xl_ne (tgt := 978) hx hb dL_law_972 dL_law_973 (by decide) (fun c_972 => ?_) (fun c_972 => (c_956 c_972).elim)
    refine lv_goto (tgt := 1022) hx hb dL_law_978 (by decide) ?_
    refine W.widen (Nat.le_succ cells) (Nat.le_add_right slots 6) ?_
    exact kk S v w (nI 0) fl fL fD _ _ _ ⟨(hv.mono hB4 (by omega)), hen, hkp, hPc, hPm, hPl, hPd⟩ hS (lv_sub hl [2, 3, 4, 5, 6, 7] rfl)

set_option maxHeartbeats 4000000 in
set_option maxRecDepth 100000 in
theorem law_c14 {p : Program} {e : Env} {s : State} {m : MethodId} {below : List Frame} {meth : Method} {c : Code} (l : Launch) (htr : l.stackTraces = false) {b L : Nat} {xs : Nat → Int32} (hL : L ≤ 2560) (C0 : lw_At p s m meth c b L xs) {D : va_G} {cD cI cM cL : ClassId} {A B : Nat → Nat} {rw : Nat → Option Nat} {oL oD : Nat} (hLX : LX D cD cI cM cL A B rw oL oD s) {N E k cells slots : Nat} (hN : N + 104 ≤ 53352) (hE : E + 100 < 2 ^ 29) (hk : 5 * k + 5 ≤ L) (hc1 : cells + 1 ≤ 662564) (hs1 : slots + 6 ≤ 7108413) {S : St} {v w : Nat → Nat → UInt64} {th fl : Int32} {fL : Nat → Int64} {fD : Nat → UInt64} {H : Heap} {locs : List Loc} {ls : Array Slot} (hH : LH D cD cI cM cL A B rw oL oD N E S v w th fl fL fD H) (hS : va_S (fun q => s.heap.size ≤ q) s.heap H locs) (hl : lv_has ls 10 [(5, .int (nI (5 * k))), (0, .ref b), (1, .ref (A 0)), (2, .ref (B 0)), (3, .ref oL), (4, .ref oD)])
    (kk : ∀ (S2 : St) (v2 w2 : Nat → Nat → UInt64) (th2 fl2 : Int32) (fL2 : Nat → Int64) (fD2 : Nat → UInt64) (H2 : Heap) (locs2 : List Loc) (ls2 : Array Slot), LH D cD cI cM cL A B rw oL oD (N + 104) (E + 100) S2 v2 w2 th2 fl2 fL2 fD2 H2 → va_S (fun q => s.heap.size ≤ q) s.heap H2 locs2 → lv_has ls2 10 [(5, .int (nI (5 * k))), (0, .ref b), (1, .ref (A 0)), (2, .ref (B 0)), (3, .ref oL), (4, .ref oD)] → W p l e room_1 s m #[Value.ref b] below meth c H2 locs2 (cells + 1) (slots + 6) (lw_Z below #[Value.ref b] s) (F0 m 1022 ls2 [])) : W p l e room_1 s m #[Value.ref b] below meth c H locs cells slots (lw_Z below #[Value.ref b] s) (F0 m 981 ls []) := by
  obtain ⟨hx, hb, hr, hml, hown, hts, hX, hbl, hlocks, hgv⟩ := id C0
  have hg := lw_sub hts
  have hown : s.vm.findClass RL = some m.cls := hown
  have hbA : ¬ (fun q : Nat => s.heap.size ≤ q) b := Nat.not_le.mpr hbl
  obtain ⟨⟨hI, hT, hNc, hZ0⟩, hrw, ⟨hdC, hdCL, hdCD, hdM⟩, hAll, hMx, hCL, hCD, hLD⟩ := id hLX
  obtain ⟨hv, hen, hkp, hPc, hPm, hPl, hPd⟩ := hH
  have hB : ((N * 2 ^ 1074 : Nat) : Int) ≤ BT := Int.ofNat_le.mpr (Nat.mul_le_mul_right _ (by omega))
  have hB4 : ((N * 2 ^ 1074 : Nat) : Int) ≤ (((N + 104) * 2 ^ 1074 : Nat) : Int) := Int.ofNat_le.mpr (Nat.mul_le_mul_right _ (by omega))
  have hB0 : (0 : Int) ≤ ((N * 2 ^ 1074 : Nat) : Int) := Int.natCast_nonneg _
  have hn : sn (gσ S) ≤ 3 := hv.1.2.1
  refine lv_aload_n hx hb dL_law_981 rfl (lv_at hl 2 rfl) ?_
  refine lv_aload_n hx hb dL_law_982 rfl (lv_at hl 1 rfl) ?_
  refine lv_iload hx hb dL_law_983 (lv_at hl 0 rfl) ?_
  refine lv_iconst (v := nI 1) hx hb dL_law_985 (by decide) ?_
  refine lv_iadd hx hb dL_law_986 ?_
  refine xeqi (y := nI ((5 * k) + 1)) (nI_add (5 * k) 1) ?_
  refine xsld hx hb hX hbl hbA hS (j := (5 * k) + 1) (by omega) (by omega) dL_law_987 ?_
  refine lv_if_eq (tgt := 995) hx hb dL_law_988 (by decide) (fun c_988 => ?_) (fun c_988 => ?_)
  ·
    refine lv_iconst (v := nI 0) hx hb dL_law_995 (by decide) ?_
    refine xeqi (y := bI false) (show nI 0 = bI false from rfl) ?_
    refine xpc (q := 996) rfl ?_
    refine xcRi (wo := (mW B cD cI (gσ S) S th fl w) ++ ([(oL, lA cL 1 fL)] ++ [(oD, dA cD 1 fD)])) (xLV (As := [.int (bI false)]) (rest := []) (C := RX6) hx hb hml hown hg (f_steps l D cD cI cM cL A rw S v false) mM_L_122 ok_X6_steps rfl rfl ⟨Nat.le_of_ble_eq_true rfl, Nat.le_of_ble_eq_true rfl⟩ hI hPc hdC rfl rfl rfl hl.1 rfl (Nat.le_of_ble_eq_true rfl) dL_law_996 ⟨Nat.le_of_lt hc1, Nat.le_trans (Nat.le_add_right _ 6) hs1⟩) (hPm.app (hPl.app hPd)) (fun x hx9 => (List.mem_append.mp hx9).elim (fun h => (hMx x h).1) (fun h => by rcases (show x = oL ∨ x = oD by simpa using h) with rfl | rfl; exact hCL; exact hCD)) hS (fun q hq => hAll q (Or.inl hq)) (fun _ H locs hu hPc hWo hS _ => ?_)
    have hPm := hWo.l
    have hO9 := hWo.r
    have hPl := hO9.l
    have hPd := hO9.r
    refine xpc (q := 999) rfl ?_
    refine lv_aload_n hx hb dL_law_999 rfl (lv_at hl 3 rfl) ?_
    refine lv_aload_n hx hb dL_law_1000 rfl (lv_at hl 1 rfl) ?_
    refine lv_iload hx hb dL_law_1001 (lv_at hl 0 rfl) ?_
    refine lv_iconst (v := nI 1) hx hb dL_law_1003 (by decide) ?_
    refine lv_iadd hx hb dL_law_1004 ?_
    refine xeqi (y := nI ((5 * k) + 1)) (nI_add (5 * k) 1) ?_
    refine xsld hx hb hX hbl hbA hS (j := (5 * k) + 1) (by omega) (by omega) dL_law_1005 ?_
    refine lv_if_eq (tgt := 1013) hx hb dL_law_1006 (by decide) (fun c_1006 => ?_) (fun c_1006 => absurd c_988 c_1006)
    refine lv_iconst (v := nI 0) hx hb dL_law_1013 (by decide) ?_
    refine xeqi (y := bI false) (show nI 0 = bI false from rfl) ?_
    refine xpc (q := 1014) rfl ?_
    refine xcRi (wo := (cW A rw cD cI cM (gσ S) S v) ++ ([(oL, lA cL 1 fL)] ++ [(oD, dA cD 1 fD)])) (xLV (As := [.int (bI false)]) (rest := [.int (if false then grf S else gtk S)]) (C := RX7) hx hb hml hown hg (g_steps l D cD cI cM cL B S th fl w false) mM_L_126 ok_X7_steps rfl rfl ⟨Nat.le_of_ble_eq_true rfl, Nat.le_of_ble_eq_true rfl⟩ hI hPm hdM rfl rfl rfl hl.1 rfl (Nat.le_of_ble_eq_true rfl) dL_law_1014 ⟨Nat.le_of_lt hc1, Nat.le_trans (Nat.le_add_right _ 6) hs1⟩) (hPc.app (hPl.app hPd)) (fun x hx9 q => (List.mem_append.mp hx9).elim (hMx x q).1 (fun h => by rcases (show x = oL ∨ x = oD by simpa using h) with z | z; exact (hMx x q).2.1 z; exact (hMx x q).2.2 z)) hS (fun q hq => hAll q (Or.inr (Or.inl hq))) (fun _u H locs hu hPw hWo hS _ => ?_)
    have hPm := hPw
    have hPc := hWo.l
    have hO9 := hWo.r
    have hPl := hO9.l
    have hPd := hO9.r
    have hPm : va_P D vwCl (mW B cD cI (gσ S) S (nI 0) fl w) H := hPm
    refine xpc (q := 1017) rfl ?_
    refine lv_icmp_eq (tgt := 1022) hx hb dL_law_1017 (by decide) (fun c_1017 => ?_) (fun c_1017 => absurd rfl c_1017)
    refine W.widen (Nat.le_succ cells) (Nat.le_add_right slots 6) ?_
    exact kk S v w (nI 0) fl fL fD _ _ _ ⟨(hv.mono hB4 (by omega)), hen, hkp, hPc, hPm, hPl, hPd⟩ hS (lv_sub hl [0, 1, 2, 3, 4, 5] rfl)
  ·
    refine lv_iconst (v := nI 1) hx hb dL_law_991 (by decide) ?_
    refine lv_goto (tgt := 996) hx hb dL_law_992 (by decide) ?_
    refine xeqi (y := bI true) (show nI 1 = bI true from rfl) ?_
    refine xpc (q := 996) rfl ?_
    refine xcRi (wo := (mW B cD cI (gσ S) S th fl w) ++ ([(oL, lA cL 1 fL)] ++ [(oD, dA cD 1 fD)])) (xLV (As := [.int (bI true)]) (rest := []) (C := RX6) hx hb hml hown hg (f_steps l D cD cI cM cL A rw S v true) mM_L_122 ok_X6_steps rfl rfl ⟨Nat.le_of_ble_eq_true rfl, Nat.le_of_ble_eq_true rfl⟩ hI hPc hdC rfl rfl rfl hl.1 rfl (Nat.le_of_ble_eq_true rfl) dL_law_996 ⟨Nat.le_of_lt hc1, Nat.le_trans (Nat.le_add_right _ 6) hs1⟩) (hPm.app (hPl.app hPd)) (fun x hx9 => (List.mem_append.mp hx9).elim (fun h => (hMx x h).1) (fun h => by rcases (show x = oL ∨ x = oD by simpa using h) with rfl | rfl; exact hCL; exact hCD)) hS (fun q hq => hAll q (Or.inl hq)) (fun _ H locs hu hPc hWo hS _ => ?_)
    have hPm := hWo.l
    have hO9 := hWo.r
    have hPl := hO9.l
    have hPd := hO9.r
    refine xpc (q := 999) rfl ?_
    refine lv_aload_n hx hb dL_law_999 rfl (lv_at hl 3 rfl) ?_
    refine lv_aload_n hx hb dL_law_1000 rfl (lv_at hl 1 rfl) ?_
    refine lv_iload hx hb dL_law_1001 (lv_at hl 0 rfl) ?_
    refine lv_iconst (v := nI 1) hx hb dL_law_1003 (by decide) ?_
    refine lv_iadd hx hb dL_law_1004 ?_
    refine xeqi (y := nI ((5 * k) + 1)) (nI_add (5 * k) 1) ?_
    refine xsld hx hb hX hbl hbA hS (j := (5 * k) + 1) (by omega) (by omega) dL_law_1005 ?_
    refine lv_if_eq (tgt := 1013) hx hb dL_law_1006 (by decide) (fun c_1006 => absurd c_1006 c_988) (fun c_1006 => ?_)
    refine lv_iconst (v := nI 1) hx hb dL_law_1009 (by decide) ?_
    refine lv_goto (tgt := 1014) hx hb dL_law_1010 (by decide) ?_
    refine xeqi (y := bI true) (show nI 1 = bI true from rfl) ?_
    refine xpc (q := 1014) rfl ?_
    refine xcRi (wo := (cW A rw cD cI cM (gσ S) S v) ++ ([(oL, lA cL 1 fL)] ++ [(oD, dA cD 1 fD)])) (xLV (As := [.int (bI true)]) (rest := [.int (if true then grf S else gtk S)]) (C := RX7) hx hb hml hown hg (g_steps l D cD cI cM cL B S th fl w true) mM_L_126 ok_X7_steps rfl rfl ⟨Nat.le_of_ble_eq_true rfl, Nat.le_of_ble_eq_true rfl⟩ hI hPm hdM rfl rfl rfl hl.1 rfl (Nat.le_of_ble_eq_true rfl) dL_law_1014 ⟨Nat.le_of_lt hc1, Nat.le_trans (Nat.le_add_right _ 6) hs1⟩) (hPc.app (hPl.app hPd)) (fun x hx9 q => (List.mem_append.mp hx9).elim (hMx x q).1 (fun h => by rcases (show x = oL ∨ x = oD by simpa using h) with z | z; exact (hMx x q).2.1 z; exact (hMx x q).2.2 z)) hS (fun q hq => hAll q (Or.inr (Or.inl hq))) (fun _u H locs hu hPw hWo hS _ => ?_)
    have hPm := hPw
    have hPc := hWo.l
    have hO9 := hWo.r
    have hPl := hO9.l
    have hPd := hO9.r
    have hPm : va_P D vwCl (mW B cD cI (gσ S) S (nI 0) fl w) H := hPm
    refine xpc (q := 1017) rfl ?_
    refine lv_icmp_eq (tgt := 1022) hx hb dL_law_1017 (by decide) (fun c_1017 => ?_) (fun c_1017 => absurd rfl c_1017)
    refine W.widen (Nat.le_succ cells) (Nat.le_add_right slots 6) ?_
    exact kk S v w (nI 0) fl fL fD _ _ _ ⟨(hv.mono hB4 (by omega)), hen, hkp, hPc, hPm, hPl, hPd⟩ hS (lv_sub hl [0, 1, 2, 3, 4, 5] rfl)
