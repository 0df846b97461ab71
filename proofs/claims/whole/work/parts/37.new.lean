set_option maxRecDepth 100000 in
theorem mO_X0 : Cond.methodLink RX0 1 Lib.objectInit ∈ lw_good := List.mem_filter.mpr ⟨by decide +kernel, by decide +kernel⟩
set_option maxHeartbeats 1000000 in
set_option maxRecDepth 100000 in
theorem c_newX0 (l : Launch) (D : va_G) (cD cI cM cL : ClassId) (a h0 : Nat) : Met l yX0_init (Cond.code yX0_init cX0_init 1 none :: lw_good) { frames := 1, cells := 4, slots := 40, locals := 12 } (xPn D (tyL cD cI cM cL) [.ref a] [(a, .inr (0, [.null, .null, .null, .null, .int (nI 0), .int (nI 0)]))] h0) (zQ D [a] h0 4 [(a, .inr (0, [.ref (h0), .ref (h0 + 1), .ref (h0 + 2), .ref (h0 + 3), .int (nI 0), .int (nI 0)])), (h0, iA cI 10 (fun _ => 0)), (h0 + 1, dA cD 10 (fun _ => FP.dconst0)), (h0 + 2, iA cI 10 (fun _ => 0)), (h0 + 3, iA cI 10 (fun _ => 0))]) 4 40 (zA [a] h0) := by
  refine xofN [a] (by decide) rfl (Nat.le_of_ble_eq_true rfl) ?_
  intro p e s m below meth c ls hx hb hr hml hg hown hlk hin2 hI hP hd hH hS hl
  have hown : s.vm.findClass RX0 = some m.cls := hown
  have hl : lv_has ls 1 [(0, .ref a)] := hl
  have hd : dj [a] := hd
  refine lv_aload_n hx hb dX0_init_0 rfl (lv_at hl 0 rfl) ?_
  refine xobj hx hb hg hown hml hl.1 mO_X0 ⟨Nat.le_of_ble_eq_true rfl, Nat.le_of_ble_eq_true rfl⟩ dX0_init_1 ?_
  refine lv_aload_n hx hb dX0_init_4 rfl (lv_at hl 0 rfl) ?_
  refine lv_bipush (v := nI 10) hx hb dX0_init_5 (by decide) ?_
  refine xnewI hx hb hg hI hP hd rfl hS hH (by decide) (Nat.le_of_ble_eq_true rfl) (Nat.le_of_ble_eq_true rfl) dX0_init_7 (fun H hP hd hH hS => ?_)
  have hP : va_P D vwCl [(a, .inr (0, [.null, .null, .null, .null, .int (nI 0), .int (nI 0)])), (h0, iA cI 10 (fun _ => 0))] H := hP
  have hd : dj [a, h0] := hd
  refine xputF hx hb hg iX0 tyX0 tyX0_ok nmX0 hown hI hP hd rfl (fa1 (Or.inl pm0) (fa1 (Or.inr (Nat.le_add_right h0 0)) fa0)) hS 0 rfl rfl 0 (by decide) mF_X0_9 rfl hin2 rfl rfl rfl (Nat.le_of_ble_eq_true rfl) dX0_init_9 (fun H locs hP hz hS => ?_)
  have hP : va_P D vwCl [(a, .inr (0, [.ref (h0), .null, .null, .null, .int (nI 0), .int (nI 0)])), (h0, iA cI 10 (fun _ => 0))] H := hP
  have hH := hz.trans hH
  refine lv_aload_n hx hb dX0_init_12 rfl (lv_at hl 0 rfl) ?_
  refine lv_bipush (v := nI 10) hx hb dX0_init_13 (by decide) ?_
  refine xnewD hx hb hg hI hP hd rfl hS hH (by decide) (Nat.le_of_ble_eq_true rfl) (Nat.le_of_ble_eq_true rfl) dX0_init_15 (fun H hP hd hH hS => ?_)
  have hP : va_P D vwCl [(a, .inr (0, [.ref (h0), .null, .null, .null, .int (nI 0), .int (nI 0)])), (h0, iA cI 10 (fun _ => 0)), (h0 + 1, dA cD 10 (fun _ => FP.dconst0))] H := hP
  have hd : dj [a, h0, h0 + 1] := hd
  refine xputF hx hb hg iX0 tyX0 tyX0_ok nmX0 hown hI hP hd rfl (fa1 (Or.inl pm0) (fa1 (Or.inr (Nat.le_add_right h0 0)) (fa1 (Or.inr (Nat.le_add_right h0 1)) fa0))) hS 0 rfl rfl 1 (by decide) mF_X0_13 rfl hin2 rfl rfl rfl (Nat.le_of_ble_eq_true rfl) dX0_init_17 (fun H locs hP hz hS => ?_)
  have hP : va_P D vwCl [(a, .inr (0, [.ref (h0), .ref (h0 + 1), .null, .null, .int (nI 0), .int (nI 0)])), (h0, iA cI 10 (fun _ => 0)), (h0 + 1, dA cD 10 (fun _ => FP.dconst0))] H := hP
  have hH := hz.trans hH
  refine lv_aload_n hx hb dX0_init_20 rfl (lv_at hl 0 rfl) ?_
  refine lv_bipush (v := nI 10) hx hb dX0_init_21 (by decide) ?_
  refine xnewI hx hb hg hI hP hd rfl hS hH (by decide) (Nat.le_of_ble_eq_true rfl) (Nat.le_of_ble_eq_true rfl) dX0_init_23 (fun H hP hd hH hS => ?_)
  have hP : va_P D vwCl [(a, .inr (0, [.ref (h0), .ref (h0 + 1), .null, .null, .int (nI 0), .int (nI 0)])), (h0, iA cI 10 (fun _ => 0)), (h0 + 1, dA cD 10 (fun _ => FP.dconst0)), (h0 + 2, iA cI 10 (fun _ => 0))] H := hP
  have hd : dj [a, h0, h0 + 1, h0 + 2] := hd
  refine xputF hx hb hg iX0 tyX0 tyX0_ok nmX0 hown hI hP hd rfl (fa1 (Or.inl pm0) (fa1 (Or.inr (Nat.le_add_right h0 0)) (fa1 (Or.inr (Nat.le_add_right h0 1)) (fa1 (Or.inr (Nat.le_add_right h0 2)) fa0)))) hS 0 rfl rfl 2 (by decide) mF_X0_17 rfl hin2 rfl rfl rfl (Nat.le_of_ble_eq_true rfl) dX0_init_25 (fun H locs hP hz hS => ?_)
  have hP : va_P D vwCl [(a, .inr (0, [.ref (h0), .ref (h0 + 1), .ref (h0 + 2), .null, .int (nI 0), .int (nI 0)])), (h0, iA cI 10 (fun _ => 0)), (h0 + 1, dA cD 10 (fun _ => FP.dconst0)), (h0 + 2, iA cI 10 (fun _ => 0))] H := hP
  have hH := hz.trans hH
  refine lv_aload_n hx hb dX0_init_28 rfl (lv_at hl 0 rfl) ?_
  refine lv_bipush (v := nI 10) hx hb dX0_init_29 (by decide) ?_
  refine xnewI hx hb hg hI hP hd rfl hS hH (by decide) (Nat.le_of_ble_eq_true rfl) (Nat.le_of_ble_eq_true rfl) dX0_init_31 (fun H hP hd hH hS => ?_)
  have hP : va_P D vwCl [(a, .inr (0, [.ref (h0), .ref (h0 + 1), .ref (h0 + 2), .null, .int (nI 0), .int (nI 0)])), (h0, iA cI 10 (fun _ => 0)), (h0 + 1, dA cD 10 (fun _ => FP.dconst0)), (h0 + 2, iA cI 10 (fun _ => 0)), (h0 + 3, iA cI 10 (fun _ => 0))] H := hP
  have hd : dj [a, h0, h0 + 1, h0 + 2, h0 + 3] := hd
  refine xputF hx hb hg iX0 tyX0 tyX0_ok nmX0 hown hI hP hd rfl (fa1 (Or.inl pm0) (fa1 (Or.inr (Nat.le_add_right h0 0)) (fa1 (Or.inr (Nat.le_add_right h0 1)) (fa1 (Or.inr (Nat.le_add_right h0 2)) (fa1 (Or.inr (Nat.le_add_right h0 3)) fa0))))) hS 0 rfl rfl 3 (by decide) mF_X0_20 rfl hin2 rfl rfl rfl (Nat.le_of_ble_eq_true rfl) dX0_init_33 (fun H locs hP hz hS => ?_)
  have hP : va_P D vwCl [(a, .inr (0, [.ref (h0), .ref (h0 + 1), .ref (h0 + 2), .ref (h0 + 3), .int (nI 0), .int (nI 0)])), (h0, iA cI 10 (fun _ => 0)), (h0 + 1, dA cD 10 (fun _ => FP.dconst0)), (h0 + 2, iA cI 10 (fun _ => 0)), (h0 + 3, iA cI 10 (fun _ => 0))] H := hP
  have hH := hz.trans hH
  exact W.vret hx hb hr (fun tS hTS hWS => ⟨rfl, by rw [hTS]; exact hH, by rw [hTS]; exact hP, hS.F hTS⟩) hS.2.2 dX0_init_36
set_option maxRecDepth 100000 in
theorem mO_X2 : Cond.methodLink RX2 3 Lib.objectInit ∈ lw_good := List.mem_filter.mpr ⟨by decide +kernel, by decide +kernel⟩
set_option maxHeartbeats 1000000 in
set_option maxRecDepth 100000 in
theorem c_newX2 (l : Launch) (D : va_G) (cD cI cM cL : ClassId) (a h0 r1 : Nat) : Met l yX2_init (Cond.code yX2_init cX2_init 2 none :: lw_good) { frames := 1, cells := 4, slots := 12, locals := 12 } (xPn D (tyL cD cI cM cL) [.ref a, .ref r1] [(a, .inr (2, [.null, .null, .null, .null, .null, .int (nI 0), .double FP.dconst0, .double FP.dconst0]))] h0) (zQ D [a] h0 4 [(a, .inr (2, [.ref r1, .ref (h0), .ref (h0 + 1), .ref (h0 + 2), .ref (h0 + 3), .int (nI 0), .double FP.dconst0, .double FP.dconst0])), (h0, dA cD 3 (fun _ => FP.dconst0)), (h0 + 1, dA cD 3 (fun _ => FP.dconst0)), (h0 + 2, dA cD 3 (fun _ => FP.dconst0)), (h0 + 3, dA cD 3 (fun _ => FP.dconst0))]) 4 12 (zA [a] h0) := by
  refine xofN [a] (by decide) rfl (Nat.le_of_ble_eq_true rfl) ?_
  intro p e s m below meth c ls hx hb hr hml hg hown hlk hin2 hI hP hd hH hS hl
  have hown : s.vm.findClass RX2 = some m.cls := hown
  have hl : lv_has ls 2 [(0, .ref a), (1, .ref r1)] := hl
  have hd : dj [a] := hd
  refine lv_aload_n hx hb dX2_init_0 rfl (lv_at hl 0 rfl) ?_
  refine xobj hx hb hg hown hml hl.1 mO_X2 ⟨Nat.le_of_ble_eq_true rfl, Nat.le_of_ble_eq_true rfl⟩ dX2_init_1 ?_
  refine lv_aload_n hx hb dX2_init_4 rfl (lv_at hl 0 rfl) ?_
  refine lv_iconst (v := nI 3) hx hb dX2_init_5 (by decide) ?_
  refine xnewD hx hb hg hI hP hd rfl hS hH (by decide) (Nat.le_of_ble_eq_true rfl) (Nat.le_of_ble_eq_true rfl) dX2_init_6 (fun H hP hd hH hS => ?_)
  have hP : va_P D vwCl [(a, .inr (2, [.null, .null, .null, .null, .null, .int (nI 0), .double FP.dconst0, .double FP.dconst0])), (h0, dA cD 3 (fun _ => FP.dconst0))] H := hP
  have hd : dj [a, h0] := hd
  refine xputF hx hb hg iX2 tyX2 tyX2_ok nmX2 hown hI hP hd rfl (fa1 (Or.inl pm0) (fa1 (Or.inr (Nat.le_add_right h0 0)) fa0)) hS 0 rfl rfl 1 (by decide) mF_X2_9 rfl hin2 rfl rfl rfl (Nat.le_of_ble_eq_true rfl) dX2_init_8 (fun H locs hP hz hS => ?_)
  have hP : va_P D vwCl [(a, .inr (2, [.null, .ref (h0), .null, .null, .null, .int (nI 0), .double FP.dconst0, .double FP.dconst0])), (h0, dA cD 3 (fun _ => FP.dconst0))] H := hP
  have hH := hz.trans hH
  refine lv_aload_n hx hb dX2_init_11 rfl (lv_at hl 0 rfl) ?_
  refine lv_iconst (v := nI 3) hx hb dX2_init_12 (by decide) ?_
  refine xnewD hx hb hg hI hP hd rfl hS hH (by decide) (Nat.le_of_ble_eq_true rfl) (Nat.le_of_ble_eq_true rfl) dX2_init_13 (fun H hP hd hH hS => ?_)
  have hP : va_P D vwCl [(a, .inr (2, [.null, .ref (h0), .null, .null, .null, .int (nI 0), .double FP.dconst0, .double FP.dconst0])), (h0, dA cD 3 (fun _ => FP.dconst0)), (h0 + 1, dA cD 3 (fun _ => FP.dconst0))] H := hP
  have hd : dj [a, h0, h0 + 1] := hd
  refine xputF hx hb hg iX2 tyX2 tyX2_ok nmX2 hown hI hP hd rfl (fa1 (Or.inl pm0) (fa1 (Or.inr (Nat.le_add_right h0 0)) (fa1 (Or.inr (Nat.le_add_right h0 1)) fa0))) hS 0 rfl rfl 2 (by decide) mF_X2_15 rfl hin2 rfl rfl rfl (Nat.le_of_ble_eq_true rfl) dX2_init_15 (fun H locs hP hz hS => ?_)
  have hP : va_P D vwCl [(a, .inr (2, [.null, .ref (h0), .ref (h0 + 1), .null, .null, .int (nI 0), .double FP.dconst0, .double FP.dconst0])), (h0, dA cD 3 (fun _ => FP.dconst0)), (h0 + 1, dA cD 3 (fun _ => FP.dconst0))] H := hP
  have hH := hz.trans hH
  refine lv_aload_n hx hb dX2_init_18 rfl (lv_at hl 0 rfl) ?_
  refine lv_iconst (v := nI 3) hx hb dX2_init_19 (by decide) ?_
  refine xnewD hx hb hg hI hP hd rfl hS hH (by decide) (Nat.le_of_ble_eq_true rfl) (Nat.le_of_ble_eq_true rfl) dX2_init_20 (fun H hP hd hH hS => ?_)
  have hP : va_P D vwCl [(a, .inr (2, [.null, .ref (h0), .ref (h0 + 1), .null, .null, .int (nI 0), .double FP.dconst0, .double FP.dconst0])), (h0, dA cD 3 (fun _ => FP.dconst0)), (h0 + 1, dA cD 3 (fun _ => FP.dconst0)), (h0 + 2, dA cD 3 (fun _ => FP.dconst0))] H := hP
  have hd : dj [a, h0, h0 + 1, h0 + 2] := hd
  refine xputF hx hb hg iX2 tyX2 tyX2_ok nmX2 hown hI hP hd rfl (fa1 (Or.inl pm0) (fa1 (Or.inr (Nat.le_add_right h0 0)) (fa1 (Or.inr (Nat.le_add_right h0 1)) (fa1 (Or.inr (Nat.le_add_right h0 2)) fa0)))) hS 0 rfl rfl 3 (by decide) mF_X2_18 rfl hin2 rfl rfl rfl (Nat.le_of_ble_eq_true rfl) dX2_init_22 (fun H locs hP hz hS => ?_)
  have hP : va_P D vwCl [(a, .inr (2, [.null, .ref (h0), .ref (h0 + 1), .ref (h0 + 2), .null, .int (nI 0), .double FP.dconst0, .double FP.dconst0])), (h0, dA cD 3 (fun _ => FP.dconst0)), (h0 + 1, dA cD 3 (fun _ => FP.dconst0)), (h0 + 2, dA cD 3 (fun _ => FP.dconst0))] H := hP
  have hH := hz.trans hH
  refine lv_aload_n hx hb dX2_init_25 rfl (lv_at hl 0 rfl) ?_
  refine lv_iconst (v := nI 3) hx hb dX2_init_26 (by decide) ?_
  refine xnewD hx hb hg hI hP hd rfl hS hH (by decide) (Nat.le_of_ble_eq_true rfl) (Nat.le_of_ble_eq_true rfl) dX2_init_27 (fun H hP hd hH hS => ?_)
  have hP : va_P D vwCl [(a, .inr (2, [.null, .ref (h0), .ref (h0 + 1), .ref (h0 + 2), .null, .int (nI 0), .double FP.dconst0, .double FP.dconst0])), (h0, dA cD 3 (fun _ => FP.dconst0)), (h0 + 1, dA cD 3 (fun _ => FP.dconst0)), (h0 + 2, dA cD 3 (fun _ => FP.dconst0)), (h0 + 3, dA cD 3 (fun _ => FP.dconst0))] H := hP
  have hd : dj [a, h0, h0 + 1, h0 + 2, h0 + 3] := hd
  refine xputF hx hb hg iX2 tyX2 tyX2_ok nmX2 hown hI hP hd rfl (fa1 (Or.inl pm0) (fa1 (Or.inr (Nat.le_add_right h0 0)) (fa1 (Or.inr (Nat.le_add_right h0 1)) (fa1 (Or.inr (Nat.le_add_right h0 2)) (fa1 (Or.inr (Nat.le_add_right h0 3)) fa0))))) hS 0 rfl rfl 4 (by decide) mF_X2_21 rfl hin2 rfl rfl rfl (Nat.le_of_ble_eq_true rfl) dX2_init_29 (fun H locs hP hz hS => ?_)
  have hP : va_P D vwCl [(a, .inr (2, [.null, .ref (h0), .ref (h0 + 1), .ref (h0 + 2), .ref (h0 + 3), .int (nI 0), .double FP.dconst0, .double FP.dconst0])), (h0, dA cD 3 (fun _ => FP.dconst0)), (h0 + 1, dA cD 3 (fun _ => FP.dconst0)), (h0 + 2, dA cD 3 (fun _ => FP.dconst0)), (h0 + 3, dA cD 3 (fun _ => FP.dconst0))] H := hP
  have hH := hz.trans hH
  refine lv_aload_n hx hb dX2_init_32 rfl (lv_at hl 0 rfl) ?_
  refine lv_aload_n hx hb dX2_init_33 rfl (lv_at hl 1 rfl) ?_
  refine xputF hx hb hg iX2 tyX2 tyX2_ok nmX2 hown hI hP hd rfl (fa1 (Or.inl pm0) (fa1 (Or.inr (Nat.le_add_right h0 0)) (fa1 (Or.inr (Nat.le_add_right h0 1)) (fa1 (Or.inr (Nat.le_add_right h0 2)) (fa1 (Or.inr (Nat.le_add_right h0 3)) fa0))))) hS 0 rfl rfl 0 (by decide) mF_X2_24 rfl hin2 rfl rfl rfl (Nat.le_of_ble_eq_true rfl) dX2_init_34 (fun H locs hP hz hS => ?_)
  have hP : va_P D vwCl [(a, .inr (2, [.ref r1, .ref (h0), .ref (h0 + 1), .ref (h0 + 2), .ref (h0 + 3), .int (nI 0), .double FP.dconst0, .double FP.dconst0])), (h0, dA cD 3 (fun _ => FP.dconst0)), (h0 + 1, dA cD 3 (fun _ => FP.dconst0)), (h0 + 2, dA cD 3 (fun _ => FP.dconst0)), (h0 + 3, dA cD 3 (fun _ => FP.dconst0))] H := hP
  have hH := hz.trans hH
  exact W.vret hx hb hr (fun tS hTS hWS => ⟨rfl, by rw [hTS]; exact hH, by rw [hTS]; exact hP, hS.F hTS⟩) hS.2.2 dX2_init_37
set_option maxRecDepth 100000 in
theorem mO_X3 : Cond.methodLink RX3 3 Lib.objectInit ∈ lw_good := List.mem_filter.mpr ⟨by decide +kernel, by decide +kernel⟩
set_option maxHeartbeats 1000000 in
set_option maxRecDepth 100000 in
theorem c_newX3 (l : Launch) (D : va_G) (cD cI cM cL : ClassId) (a h0 r1 : Nat) : Met l yX3_init (Cond.code yX3_init cX3_init 2 none :: lw_good) { frames := 1, cells := 5, slots := 15, locals := 12 } (xPn D (tyL cD cI cM cL) [.ref a, .ref r1] [(a, .inr (3, [.null, .null, .null, .null, .null, .null]))] h0) (zQ D [a] h0 5 [(a, .inr (3, [.ref r1, .ref (h0), .ref (h0 + 1), .ref (h0 + 2), .ref (h0 + 3), .ref (h0 + 4)])), (h0, dA cD 3 (fun _ => FP.dconst0)), (h0 + 1, dA cD 3 (fun _ => FP.dconst0)), (h0 + 2, dA cD 3 (fun _ => FP.dconst0)), (h0 + 3, dA cD 3 (fun _ => FP.dconst0)), (h0 + 4, dA cD 3 (fun _ => FP.dconst0))]) 5 15 (zA [a] h0) := by
  refine xofN [a] (by decide) rfl (Nat.le_of_ble_eq_true rfl) ?_
  intro p e s m below meth c ls hx hb hr hml hg hown hlk hin2 hI hP hd hH hS hl
  have hown : s.vm.findClass RX3 = some m.cls := hown
  have hl : lv_has ls 2 [(0, .ref a), (1, .ref r1)] := hl
  have hd : dj [a] := hd
  refine lv_aload_n hx hb dX3_init_0 rfl (lv_at hl 0 rfl) ?_
  refine xobj hx hb hg hown hml hl.1 mO_X3 ⟨Nat.le_of_ble_eq_true rfl, Nat.le_of_ble_eq_true rfl⟩ dX3_init_1 ?_
  refine lv_aload_n hx hb dX3_init_4 rfl (lv_at hl 0 rfl) ?_
  refine lv_iconst (v := nI 3) hx hb dX3_init_5 (by decide) ?_
  refine xnewD hx hb hg hI hP hd rfl hS hH (by decide) (Nat.le_of_ble_eq_true rfl) (Nat.le_of_ble_eq_true rfl) dX3_init_6 (fun H hP hd hH hS => ?_)
  have hP : va_P D vwCl [(a, .inr (3, [.null, .null, .null, .null, .null, .null])), (h0, dA cD 3 (fun _ => FP.dconst0))] H := hP
  have hd : dj [a, h0] := hd
  refine xputF hx hb hg iX3 tyX3 tyX3_ok nmX3 hown hI hP hd rfl (fa1 (Or.inl pm0) (fa1 (Or.inr (Nat.le_add_right h0 0)) fa0)) hS 0 rfl rfl 1 (by decide) mF_X3_9 rfl hin2 rfl rfl rfl (Nat.le_of_ble_eq_true rfl) dX3_init_8 (fun H locs hP hz hS => ?_)
  have hP : va_P D vwCl [(a, .inr (3, [.null, .ref (h0), .null, .null, .null, .null])), (h0, dA cD 3 (fun _ => FP.dconst0))] H := hP
  have hH := hz.trans hH
  refine lv_aload_n hx hb dX3_init_11 rfl (lv_at hl 0 rfl) ?_
  refine lv_iconst (v := nI 3) hx hb dX3_init_12 (by decide) ?_
  refine xnewD hx hb hg hI hP hd rfl hS hH (by decide) (Nat.le_of_ble_eq_true rfl) (Nat.le_of_ble_eq_true rfl) dX3_init_13 (fun H hP hd hH hS => ?_)
  have hP : va_P D vwCl [(a, .inr (3, [.null, .ref (h0), .null, .null, .null, .null])), (h0, dA cD 3 (fun _ => FP.dconst0)), (h0 + 1, dA cD 3 (fun _ => FP.dconst0))] H := hP
  have hd : dj [a, h0, h0 + 1] := hd
  refine xputF hx hb hg iX3 tyX3 tyX3_ok nmX3 hown hI hP hd rfl (fa1 (Or.inl pm0) (fa1 (Or.inr (Nat.le_add_right h0 0)) (fa1 (Or.inr (Nat.le_add_right h0 1)) fa0))) hS 0 rfl rfl 2 (by decide) mF_X3_15 rfl hin2 rfl rfl rfl (Nat.le_of_ble_eq_true rfl) dX3_init_15 (fun H locs hP hz hS => ?_)
  have hP : va_P D vwCl [(a, .inr (3, [.null, .ref (h0), .ref (h0 + 1), .null, .null, .null])), (h0, dA cD 3 (fun _ => FP.dconst0)), (h0 + 1, dA cD 3 (fun _ => FP.dconst0))] H := hP
  have hH := hz.trans hH
  refine lv_aload_n hx hb dX3_init_18 rfl (lv_at hl 0 rfl) ?_
  refine lv_iconst (v := nI 3) hx hb dX3_init_19 (by decide) ?_
  refine xnewD hx hb hg hI hP hd rfl hS hH (by decide) (Nat.le_of_ble_eq_true rfl) (Nat.le_of_ble_eq_true rfl) dX3_init_20 (fun H hP hd hH hS => ?_)
  have hP : va_P D vwCl [(a, .inr (3, [.null, .ref (h0), .ref (h0 + 1), .null, .null, .null])), (h0, dA cD 3 (fun _ => FP.dconst0)), (h0 + 1, dA cD 3 (fun _ => FP.dconst0)), (h0 + 2, dA cD 3 (fun _ => FP.dconst0))] H := hP
  have hd : dj [a, h0, h0 + 1, h0 + 2] := hd
  refine xputF hx hb hg iX3 tyX3 tyX3_ok nmX3 hown hI hP hd rfl (fa1 (Or.inl pm0) (fa1 (Or.inr (Nat.le_add_right h0 0)) (fa1 (Or.inr (Nat.le_add_right h0 1)) (fa1 (Or.inr (Nat.le_add_right h0 2)) fa0)))) hS 0 rfl rfl 3 (by decide) mF_X3_18 rfl hin2 rfl rfl rfl (Nat.le_of_ble_eq_true rfl) dX3_init_22 (fun H locs hP hz hS => ?_)
  have hP : va_P D vwCl [(a, .inr (3, [.null, .ref (h0), .ref (h0 + 1), .ref (h0 + 2), .null, .null])), (h0, dA cD 3 (fun _ => FP.dconst0)), (h0 + 1, dA cD 3 (fun _ => FP.dconst0)), (h0 + 2, dA cD 3 (fun _ => FP.dconst0))] H := hP
  have hH := hz.trans hH
  refine lv_aload_n hx hb dX3_init_25 rfl (lv_at hl 0 rfl) ?_
  refine lv_iconst (v := nI 3) hx hb dX3_init_26 (by decide) ?_
  refine xnewD hx hb hg hI hP hd rfl hS hH (by decide) (Nat.le_of_ble_eq_true rfl) (Nat.le_of_ble_eq_true rfl) dX3_init_27 (fun H hP hd hH hS => ?_)
  have hP : va_P D vwCl [(a, .inr (3, [.null, .ref (h0), .ref (h0 + 1), .ref (h0 + 2), .null, .null])), (h0, dA cD 3 (fun _ => FP.dconst0)), (h0 + 1, dA cD 3 (fun _ => FP.dconst0)), (h0 + 2, dA cD 3 (fun _ => FP.dconst0)), (h0 + 3, dA cD 3 (fun _ => FP.dconst0))] H := hP
  have hd : dj [a, h0, h0 + 1, h0 + 2, h0 + 3] := hd
  refine xputF hx hb hg iX3 tyX3 tyX3_ok nmX3 hown hI hP hd rfl (fa1 (Or.inl pm0) (fa1 (Or.inr (Nat.le_add_right h0 0)) (fa1 (Or.inr (Nat.le_add_right h0 1)) (fa1 (Or.inr (Nat.le_add_right h0 2)) (fa1 (Or.inr (Nat.le_add_right h0 3)) fa0))))) hS 0 rfl rfl 4 (by decide) mF_X3_21 rfl hin2 rfl rfl rfl (Nat.le_of_ble_eq_true rfl) dX3_init_29 (fun H locs hP hz hS => ?_)
  have hP : va_P D vwCl [(a, .inr (3, [.null, .ref (h0), .ref (h0 + 1), .ref (h0 + 2), .ref (h0 + 3), .null])), (h0, dA cD 3 (fun _ => FP.dconst0)), (h0 + 1, dA cD 3 (fun _ => FP.dconst0)), (h0 + 2, dA cD 3 (fun _ => FP.dconst0)), (h0 + 3, dA cD 3 (fun _ => FP.dconst0))] H := hP
  have hH := hz.trans hH
  refine lv_aload_n hx hb dX3_init_32 rfl (lv_at hl 0 rfl) ?_
  refine lv_iconst (v := nI 3) hx hb dX3_init_33 (by decide) ?_
  refine xnewD hx hb hg hI hP hd rfl hS hH (by decide) (Nat.le_of_ble_eq_true rfl) (Nat.le_of_ble_eq_true rfl) dX3_init_34 (fun H hP hd hH hS => ?_)
  have hP : va_P D vwCl [(a, .inr (3, [.null, .ref (h0), .ref (h0 + 1), .ref (h0 + 2), .ref (h0 + 3), .null])), (h0, dA cD 3 (fun _ => FP.dconst0)), (h0 + 1, dA cD 3 (fun _ => FP.dconst0)), (h0 + 2, dA cD 3 (fun _ => FP.dconst0)), (h0 + 3, dA cD 3 (fun _ => FP.dconst0)), (h0 + 4, dA cD 3 (fun _ => FP.dconst0))] H := hP
  have hd : dj [a, h0, h0 + 1, h0 + 2, h0 + 3, h0 + 4] := hd
  refine xputF hx hb hg iX3 tyX3 tyX3_ok nmX3 hown hI hP hd rfl (fa1 (Or.inl pm0) (fa1 (Or.inr (Nat.le_add_right h0 0)) (fa1 (Or.inr (Nat.le_add_right h0 1)) (fa1 (Or.inr (Nat.le_add_right h0 2)) (fa1 (Or.inr (Nat.le_add_right h0 3)) (fa1 (Or.inr (Nat.le_add_right h0 4)) fa0)))))) hS 0 rfl rfl 5 (by decide) mF_X3_24 rfl hin2 rfl rfl rfl (Nat.le_of_ble_eq_true rfl) dX3_init_36 (fun H locs hP hz hS => ?_)
  have hP : va_P D vwCl [(a, .inr (3, [.null, .ref (h0), .ref (h0 + 1), .ref (h0 + 2), .ref (h0 + 3), .ref (h0 + 4)])), (h0, dA cD 3 (fun _ => FP.dconst0)), (h0 + 1, dA cD 3 (fun _ => FP.dconst0)), (h0 + 2, dA cD 3 (fun _ => FP.dconst0)), (h0 + 3, dA cD 3 (fun _ => FP.dconst0)), (h0 + 4, dA cD 3 (fun _ => FP.dconst0))] H := hP
  have hH := hz.trans hH
  refine lv_aload_n hx hb dX3_init_39 rfl (lv_at hl 0 rfl) ?_
  refine lv_aload_n hx hb dX3_init_40 rfl (lv_at hl 1 rfl) ?_
  refine xputF hx hb hg iX3 tyX3 tyX3_ok nmX3 hown hI hP hd rfl (fa1 (Or.inl pm0) (fa1 (Or.inr (Nat.le_add_right h0 0)) (fa1 (Or.inr (Nat.le_add_right h0 1)) (fa1 (Or.inr (Nat.le_add_right h0 2)) (fa1 (Or.inr (Nat.le_add_right h0 3)) (fa1 (Or.inr (Nat.le_add_right h0 4)) fa0)))))) hS 0 rfl rfl 0 (by decide) mF_X3_27 rfl hin2 rfl rfl rfl (Nat.le_of_ble_eq_true rfl) dX3_init_41 (fun H locs hP hz hS => ?_)
  have hP : va_P D vwCl [(a, .inr (3, [.ref r1, .ref (h0), .ref (h0 + 1), .ref (h0 + 2), .ref (h0 + 3), .ref (h0 + 4)])), (h0, dA cD 3 (fun _ => FP.dconst0)), (h0 + 1, dA cD 3 (fun _ => FP.dconst0)), (h0 + 2, dA cD 3 (fun _ => FP.dconst0)), (h0 + 3, dA cD 3 (fun _ => FP.dconst0)), (h0 + 4, dA cD 3 (fun _ => FP.dconst0))] H := hP
  have hH := hz.trans hH
  exact W.vret hx hb hr (fun tS hTS hWS => ⟨rfl, by rw [hTS]; exact hH, by rw [hTS]; exact hP, hS.F hTS⟩) hS.2.2 dX3_init_44
