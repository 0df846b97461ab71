set_option maxRecDepth 100000 in
theorem mO_X5 : Cond.methodLink RX5 1 Lib.objectInit ∈ lw_good := List.mem_filter.mpr ⟨by decide +kernel, by decide +kernel⟩
set_option maxRecDepth 100000 in
theorem c_newX5 (l : Launch) (D : va_G) (cD cI cM cL : ClassId) (a h0 : Nat) : Met l yX5_init (Cond.code yX5_init cX5_init 1 none :: lw_good) { frames := 1, cells := 1, slots := 8, locals := 12 } (xPn D (tyL cD cI cM cL) [.ref a] [(a, .inr (5, [.null, .int (nI 0), .int (nI 0), .double FP.dconst0, .int (nI 0)]))] h0) (zQ D [a] h0 1 [(a, .inr (5, [.ref h0, .int (nI 0), .int (nI 0), .double FP.dconst0, .int (nI 0)])), (h0, dA cD 8 (fun _ => FP.dconst0))]) 1 8 (zA [a] h0) := by
  refine xofN [a] (by decide) rfl (Nat.le_of_ble_eq_true rfl) ?_
  intro p e s m below meth c ls hx hb hr hml hg hown hlk hin2 hI hP hd hH hS hl
  have hown : s.vm.findClass RX5 = some m.cls := hown
  have hl : lv_has ls 1 [(0, .ref a)] := hl
  have hd : dj [a] := hd
  refine lv_aload_n hx hb dX5_init_0 rfl (lv_at hl 0 rfl) ?_
  refine xobj hx hb hg hown hml hl.1 mO_X5 ⟨Nat.le_of_ble_eq_true rfl, Nat.le_of_ble_eq_true rfl⟩ dX5_init_1 ?_
  refine lv_aload_n hx hb dX5_init_4 rfl (lv_at hl 0 rfl) ?_
  refine lv_bipush (v := nI 8) hx hb dX5_init_5 (by decide) ?_
  refine xnewD hx hb hg hI hP hd rfl hS hH (by decide) (Nat.le_of_ble_eq_true rfl) (Nat.le_of_ble_eq_true rfl) dX5_init_7 (fun H hP hd hH hS => ?_)
  have hP : va_P D vwCl [(a, .inr (5, [.null, .int (nI 0), .int (nI 0), .double FP.dconst0, .int (nI 0)])), (h0, dA cD 8 (fun _ => FP.dconst0))] H := hP
  have hd : dj [a, h0] := hd
  refine xputF hx hb hg iX5 tyX5 tyX5_ok nmX5 hown hI hP hd rfl (fa1 (Or.inl pm0) (fa1 (Or.inr (Nat.le_refl _)) fa0)) hS 0 rfl rfl 0 (by decide) mF_X5_9 rfl hin2 rfl rfl rfl (Nat.le_of_ble_eq_true rfl) dX5_init_9 (fun H locs hP hz hS => ?_)
  exact W.vret hx hb hr (fun tS hTS hWS => ⟨rfl, by rw [hTS, hz, hH], by rw [hTS]; exact hP, hS.F hTS⟩) hS.2.2 dX5_init_12
