def rmb (S : St) (k : Int32) : Bool := decide ((nI 0 ≤ k ∧ k < nI 8) ∧ k < nI (gev S))
theorem rmb_nat {S : St} {k : Int32} (hev : gev S < 2 ^ 30) (h : rmb S k = true) : ∃ j : Nat, j < gev S ∧ k = nI j ∧ k.toNatClampNeg = j := by
  have h := of_decide_eq_true h
  obtain ⟨j, h1, h2⟩ := nI_in2 (n := 8) (by decide) h.1
  subst h2
  exact ⟨j, (nI_ltI (by omega) (by omega)).mp h.2, rfl, nI_clamp (by omega)⟩
def b01 (x : UInt64) : Bool := decide ((dgt x FP.dconst0 ∨ deq x FP.dconst0) ∧ (dlt x FP.dconst1 ∨ deq x FP.dconst1))
/-- between's answer: 0, 1 (no such value or place) or 2 (no last step) -/
def btK (S : St) (i : Int32) (x : UInt64) : Nat := if inV S i && b01 x then (if gkn S then 0 else 2) else 1
theorem b01_bd {x : UInt64} (hx : fin x) (h : b01 x = true) : bd 1 0 x := by
  have h := of_decide_eq_true h
  have h0 : 0 ≤ zv x := by
    have := h.1
    rw [dgt_iff hx b_0.1, deq_iff hx b_0.1, z0] at this
    omega
  refine bd_of_zv hx h0 ?_
  have h1 := h.2
  rw [dlt_iff hx b_1.1, deq_iff hx b_1.1] at h1
  have := (zv_le_bd b_1).1
  omega
set_option maxHeartbeats 4000000 in
set_option maxRecDepth 100000 in
theorem c_event (l : Launch) (htr : l.stackTraces = false) (D : va_G) (cD cI cM cL : ClassId) (A : Nat → Nat) (S : St) (v : Nat → Nat → UInt64) (i : Int32) (hev : gev S < 2 ^ 30) : vx_Met l yX6_event (Cond.code yX6_event cX6_event 2 (some .double) :: lw_good) { frames := 6, cells := 1, slots := 6, locals := 82 } (xPt D (tyL cD cI cM cL) [.ref (A 0), .int i] [(A 0, .inr (6, [.ref (A 1), .ref (A 2), .ref (A 3), .ref (A 8), .ref (A 28), .ref (A 33), .double (gt S), .double (gh S), .double (gtol S), .int (gtk S), .int (grf S), .int (bI (ggo S))])), (A 33, .inr (5, [.ref (A 34), .int (bI (gon S)), .int (nI (gwh S)), .double (glv S), .int (nI (gev S))])), (A 34, dA cD 8 (gtm S))] []) (xQ D [] (fun (_ : Unit) => some (.double (gtm S ((gev S - 1 - i.toNatClampNeg) % 8)))) (fun (_ : Unit) => rmb S i = true) (fun (_ : Unit) => [])) (yX D [] (fun (E_ : String) (_ : Unit) => rmb S i = false ∧ E_ = eNS) (fun (_ : Unit) => [])) 1 6 (fun q => q ∈ ([] : List Nat)) := by
  refine xofT (by decide) (Nat.le_of_ble_eq_true rfl) ?_
  intro p e s m below meth c ls hx hb hr hml hg hown hlk hex hI hP hd hT hZ hS hl
  have hown : s.vm.findClass RX6 = some m.cls := hown
  have hd : dj [A 0, A 33, A 34] := hd
  have hl : lv_has ls 2 [(0, .ref (A 0)), (1, .int i)] := hl
  refine lv_aload_n hx hb dX6_event_0 rfl (lv_at hl 0 rfl) ?_
  refine gX6 hx hb hg hown hI hP 0 rfl 5 rfl mF_X6_44 rfl dX6_event_1 ?_
  refine lv_iload_n hx hb dX6_event_4 rfl (lv_at hl 1 rfl) ?_
  refine xci (xV (As := [.int i]) (rest := []) hx hb hml hown hg (c_remembers l D cD cI cM cL A (gon S) (gwh S) (glv S) (gev S) i) mM_X6_157 ok_X5_remembers rfl rfl ⟨Nat.le_of_ble_eq_true rfl, Nat.le_of_ble_eq_true rfl⟩ hI hP hd rfl [1] rfl rfl rfl rfl rfl hl.1 rfl (Nat.le_of_ble_eq_true rfl) dX6_event_5 ⟨Nat.zero_le _, Nat.zero_le _⟩) hP hd hS fa0 [] rfl rfl (fun _ => rfl) (fun _u H locs hu hP hS => ?_)
  have hP : va_P D vwCl [(A 0, .inr (6, [.ref (A 1), .ref (A 2), .ref (A 3), .ref (A 8), .ref (A 28), .ref (A 33), .double (gt S), .double (gh S), .double (gtol S), .int (gtk S), .int (grf S), .int (bI (ggo S))])), (A 33, .inr (5, [.ref (A 34), .int (bI (gon S)), .int (nI (gwh S)), .double (glv S), .int (nI (gev S))])), (A 34, dA cD 8 (gtm S))] H := hP
  refine lv_if_ne (tgt := 21) hx hb dX6_event_8 (by decide) (fun c_8 => ?_) (fun c_8 => ?_)
  ·
    have hv0 : rmb S i = true := bI_ne0.mp c_8
    obtain ⟨j, hj, hji, hj3⟩ := rmb_nat hev hv0
    subst hji
    have hl : lv_has ls 2 [(0, .ref (A 0)), (1, .int (nI j))] := hl
    rw [hj3]
    refine lv_aload_n hx hb dX6_event_21 rfl (lv_at hl 0 rfl) ?_
    refine gX6 hx hb hg hown hI hP 0 rfl 5 rfl mF_X6_44 rfl dX6_event_22 ?_
    refine lv_iload_n hx hb dX6_event_25 rfl (lv_at hl 1 rfl) ?_
    refine xcd (xV (As := [.int (nI j)]) (rest := []) hx hb hml hown hg (c_latest l D cD cI cM cL A (gon S) (gwh S) (glv S) (gev S) j (gtm S) hj hev) mM_X6_165 ok_X5_latest rfl rfl ⟨Nat.le_of_ble_eq_true rfl, Nat.le_of_ble_eq_true rfl⟩ hI hP hd rfl [1, 2] rfl rfl rfl rfl rfl hl.1 rfl (Nat.le_of_ble_eq_true rfl) dX6_event_26 ⟨Nat.zero_le _, Nat.zero_le _⟩) hP hd hS fa0 [] rfl rfl (fun _ => rfl) (fun _u H locs hu hP hS => ?_)
    have hP : va_P D vwCl [(A 0, .inr (6, [.ref (A 1), .ref (A 2), .ref (A 3), .ref (A 8), .ref (A 28), .ref (A 33), .double (gt S), .double (gh S), .double (gtol S), .int (gtk S), .int (grf S), .int (bI (ggo S))])), (A 33, .inr (5, [.ref (A 34), .int (bI (gon S)), .int (nI (gwh S)), .double (glv S), .int (nI (gev S))])), (A 34, dA cD 8 (gtm S))] H := hP
    exact W.widen (Nat.zero_le 1) (Nat.zero_le 6) (vx_ret (W.dret hx hb hr (fun tS hTS hWS => ⟨(), rfl, hv0, by rw [hTS]; exact hP.sub [] rfl, hS.F hTS⟩) hS.2.2 dX6_event_29))
  ·
    have hv0 : rmb S i = false := bI_eq0.mp c_8
    refine xpc (q := 11) rfl ?_
    exact xthrowN hx hb htr hown hg hT hZ hT.2.1.2.2.2 f_NS mK_X6_160 in_NS at_NS bt_NS ot_NS st_162 hP hS (hl.1.trans hml.symm) hex hlk ⟨Nat.le_of_ble_eq_true rfl, Nat.le_of_ble_eq_true rfl, Nat.le_of_ble_eq_true rfl, Nat.le_of_ble_eq_true rfl⟩ (fun tS hPt hFt => ⟨(), ⟨hv0, rfl⟩, hPt.sub [] rfl, hFt⟩) dX6_event_11 dX6_event_14 dX6_event_15 dX6_event_17 dX6_event_20

set_option maxHeartbeats 4000000 in
set_option maxRecDepth 100000 in
theorem c_between (l : Launch) (htr : l.stackTraces = false) (D : va_G) (cD cI cM cL : ClassId) (A : Nat → Nat) (S : St) (v : Nat → Nat → UInt64) (i : Int32) (x : UInt64) (B : Int) (E : Nat) (hv : Inv B E S) (hB : B ≤ BT) (hxf : fin x) (hen : enK S (v 17)) : vx_Met l yX6_between (Cond.code yX6_between cX6_between 4 (some .double) :: lw_good) { frames := 6, cells := 1, slots := 6, locals := 82 } (xPt D (tyL cD cI cM cL) [.ref (A 0), .int i, .double x] [(A 0, .inr (6, [.ref (A 1), .ref (A 2), .ref (A 3), .ref (A 8), .ref (A 28), .ref (A 33), .double (gt S), .double (gh S), .double (gtol S), .int (gtk S), .int (grf S), .int (bI (ggo S))])), (A 3, .inr (0, [.ref (A 4), .ref (A 5), .ref (A 6), .ref (A 7), .int (nI (sn (gσ S))), .int (nI (sc (gσ S)))])), (A 28, .inr (2, [.ref (A 3), .ref (A 29), .ref (A 30), .ref (A 31), .ref (A 32), .int (bI (gkn S)), .double (gt0 S), .double (gsp S)])), (A 29, dA cD 3 (gq S)), (A 30, dA cD 3 (gy0 S)), (A 31, dA cD 3 (gg S)), (A 32, dA cD 3 (v 17))] []) (xQ D [] (fun (_ : Unit) => some (.double (crv (gy0 S i.toNatClampNeg) (gg S i.toNatClampNeg) (gy S i.toNatClampNeg) (gq S i.toNatClampNeg) (gsp S) x))) (fun (_ : Unit) => btK S i x = 0) (fun (_ : Unit) => [])) (yX D [] (fun (E_ : String) (_ : Unit) => (btK S i x = 1 ∧ E_ = eIA) ∨ (btK S i x = 2 ∧ E_ = eNS)) (fun (_ : Unit) => [])) 1 6 (fun q => q ∈ ([] : List Nat)) := by
  refine xofT (by decide) (Nat.le_of_ble_eq_true rfl) ?_
  intro p e s m below meth c ls hx hb hr hml hg hown hlk hex hI hP hd hT hZ hS hl
  have hown : s.vm.findClass RX6 = some m.cls := hown
  have hd : dj [A 0, A 3, A 28, A 29, A 30, A 31, A 32] := hd
  have hl : lv_has ls 4 [(0, .ref (A 0)), (1, .int i), (2, .double x)] := hl
  have hn : sn (gσ S) ≤ 3 := hv.1.2.1
  refine lv_aload_n hx hb dX6_between_0 rfl (lv_at hl 0 rfl) ?_
  refine gX6 hx hb hg hown hI hP 0 rfl 2 rfl mF_X6_19 rfl dX6_between_1 ?_
  refine lv_iload_n hx hb dX6_between_4 rfl (lv_at hl 1 rfl) ?_
  refine xci (xV (As := [.int i]) (rest := []) hx hb hml hown hg (c_hasValue l D cD cI cM cL (A 3) (A 4) (A 5) (A 6) (A 7) (gσ S) i) mM_X6_59 ok_X0_hasValue rfl rfl ⟨Nat.le_of_ble_eq_true rfl, Nat.le_of_ble_eq_true rfl⟩ hI hP hd rfl [1] rfl rfl rfl rfl rfl hl.1 rfl (Nat.le_of_ble_eq_true rfl) dX6_between_5 ⟨Nat.zero_le _, Nat.zero_le _⟩) hP hd hS fa0 [] rfl rfl (fun _ => rfl) (fun _u H locs hu hP hS => ?_)
  have hP : va_P D vwCl [(A 0, .inr (6, [.ref (A 1), .ref (A 2), .ref (A 3), .ref (A 8), .ref (A 28), .ref (A 33), .double (gt S), .double (gh S), .double (gtol S), .int (gtk S), .int (grf S), .int (bI (ggo S))])), (A 3, .inr (0, [.ref (A 4), .ref (A 5), .ref (A 6), .ref (A 7), .int (nI (sn (gσ S))), .int (nI (sc (gσ S)))])), (A 28, .inr (2, [.ref (A 3), .ref (A 29), .ref (A 30), .ref (A 31), .ref (A 32), .int (bI (gkn S)), .double (gt0 S), .double (gsp S)])), (A 29, dA cD 3 (gq S)), (A 30, dA cD 3 (gy0 S)), (A 31, dA cD 3 (gg S)), (A 32, dA cD 3 (v 17))] H := hP
  refine lv_if_eq (tgt := 23) hx hb dX6_between_8 (by decide) (fun c_8 => ?_) (fun c_8 => ?_)
  ·
    have hv0 : inV S i = false := bI_eq0.mp c_8
    have ho : btK S i x = 1 := by unfold btK; rw [hv0]; rfl
    refine xpc (q := 23) rfl ?_
    exact xthrow hx hb htr hown hg hT hZ hT.2.1.1 f_IA mK_X6_52 in_IA at_IA bt_IA ot_IA st_175 hP hS (hl.1.trans hml.symm) hex hlk ⟨Nat.le_of_ble_eq_true rfl, Nat.le_of_ble_eq_true rfl, Nat.le_of_ble_eq_true rfl, Nat.le_of_ble_eq_true rfl⟩ (fun tS hPt hFt => ⟨(), Or.inl ⟨ho, rfl⟩, hPt.sub [] rfl, hFt⟩) dX6_between_23 dX6_between_26 dX6_between_27 dX6_between_29 dX6_between_32
  ·
    have hv0 : inV S i = true := bI_ne0.mp c_8
    refine lv_dload_n hx hb dX6_between_11 rfl (lv_at hl 2 rfl) ?_
    refine lv_dconst0 hx hb dX6_between_12 ?_
    refine xl_lt (tgt := 23) hx hb dX6_between_13 dX6_between_14 (by decide) (fun c_13 => ?_) (fun c_13 => ?_)
    ·
      have ho : btK S i x = 1 := by unfold btK; rw [show b01 x = false from df (fun q => c_13 q.1), Bool.and_false]; rfl
      refine xpc (q := 23) rfl ?_
      exact xthrow hx hb htr hown hg hT hZ hT.2.1.1 f_IA mK_X6_52 in_IA at_IA bt_IA ot_IA st_175 hP hS (hl.1.trans hml.symm) hex hlk ⟨Nat.le_of_ble_eq_true rfl, Nat.le_of_ble_eq_true rfl, Nat.le_of_ble_eq_true rfl, Nat.le_of_ble_eq_true rfl⟩ (fun tS hPt hFt => ⟨(), Or.inl ⟨ho, rfl⟩, hPt.sub [] rfl, hFt⟩) dX6_between_23 dX6_between_26 dX6_between_27 dX6_between_29 dX6_between_32
    ·
      refine lv_dload_n hx hb dX6_between_17 rfl (lv_at hl 2 rfl) ?_
      refine lv_dconst1 hx hb dX6_between_18 ?_
      refine xg_le (tgt := 33) hx hb dX6_between_19 dX6_between_20 (by decide) (fun c_19 => ?_) (fun c_19 => ?_)
      ·
        have hb0 : b01 x = true := dt ⟨c_13, c_19⟩
        refine lv_aload_n hx hb dX6_between_33 rfl (lv_at hl 0 rfl) ?_
        refine gX6 hx hb hg hown hI hP 0 rfl 4 rfl mF_X6_37 rfl dX6_between_34 ?_
        refine gX2 hx hb hg hown hI hP 2 rfl 5 rfl mF_X6_177 rfl dX6_between_37 ?_
        refine lv_if_ne (tgt := 53) hx hb dX6_between_40 (by decide) (fun c_40 => ?_) (fun c_40 => ?_)
        ·
          have hk0 : gkn S = true := bI_ne0.mp c_40
          have ho : btK S i x = 0 := by unfold btK; rw [hv0, hb0, hk0]; rfl
          obtain ⟨j, hj, hji, hj3⟩ := inV_nat hn hv0
          subst hji
          have hl : lv_has ls 4 [(0, .ref (A 0)), (1, .int (nI j)), (2, .double x)] := hl
          rw [hj3]
          have hkn := hv.2.2.2.2.2.1 hk0
          have hee := hen hk0 j hj
          refine lv_aload_n hx hb dX6_between_53 rfl (lv_at hl 0 rfl) ?_
          refine gX6 hx hb hg hown hI hP 0 rfl 4 rfl mF_X6_37 rfl dX6_between_54 ?_
          refine lv_iload_n hx hb dX6_between_57 rfl (lv_at hl 1 rfl) ?_
          refine lv_dload_n hx hb dX6_between_58 rfl (lv_at hl 2 rfl) ?_
          refine xcd (xV (As := [.int (nI j), .double x]) (rest := []) hx hb hml hown hg (c_inside l D cD cI cM cL A (gt0 S) (gsp S) (gq S) (gy0 S) (gg S) (v 17) (gkn S) j x (Nat.lt_of_lt_of_le hj hn) (hkn.1 j hj).1 (hkn.1 j hj).2.1 (by rw [hee]; exact hv.2.2.2.2.1 j hj) (hkn.1 j hj).2.2 hkn.2.1 (b01_bd hxf hb0)) mM_X6_183 ok_X2_inside rfl rfl ⟨Nat.le_of_ble_eq_true rfl, Nat.le_of_ble_eq_true rfl⟩ hI hP hd rfl [2, 3, 4, 5, 6] rfl rfl rfl rfl rfl hl.1 rfl (Nat.le_of_ble_eq_true rfl) dX6_between_59 ⟨Nat.zero_le _, Nat.zero_le _⟩) hP hd hS fa0 [] rfl rfl (fun _ => rfl) (fun _u H locs hu hP hS => ?_)
          have hP : va_P D vwCl [(A 0, .inr (6, [.ref (A 1), .ref (A 2), .ref (A 3), .ref (A 8), .ref (A 28), .ref (A 33), .double (gt S), .double (gh S), .double (gtol S), .int (gtk S), .int (grf S), .int (bI (ggo S))])), (A 3, .inr (0, [.ref (A 4), .ref (A 5), .ref (A 6), .ref (A 7), .int (nI (sn (gσ S))), .int (nI (sc (gσ S)))])), (A 28, .inr (2, [.ref (A 3), .ref (A 29), .ref (A 30), .ref (A 31), .ref (A 32), .int (bI (gkn S)), .double (gt0 S), .double (gsp S)])), (A 29, dA cD 3 (gq S)), (A 30, dA cD 3 (gy0 S)), (A 31, dA cD 3 (gg S)), (A 32, dA cD 3 (v 17))] H := hP
          refine xeqd (y := crv (gy0 S j) (gg S j) (gy S j) (gq S j) (gsp S) x) (by rw [hee]) ?_
          exact W.widen (Nat.zero_le 1) (Nat.zero_le 6) (vx_ret (W.dret hx hb hr (fun tS hTS hWS => ⟨(), rfl, ho, by rw [hTS]; exact hP.sub [] rfl, hS.F hTS⟩) hS.2.2 dX6_between_62))
        ·
          have ho : btK S i x = 2 := by unfold btK; rw [hv0, hb0, bI_eq0.mp c_40]; rfl
          refine xpc (q := 43) rfl ?_
          exact xthrowN hx hb htr hown hg hT hZ hT.2.1.2.2.2 f_NS mK_X6_160 in_NS at_NS bt_NS ot_NS st_181 hP hS (hl.1.trans hml.symm) hex hlk ⟨Nat.le_of_ble_eq_true rfl, Nat.le_of_ble_eq_true rfl, Nat.le_of_ble_eq_true rfl, Nat.le_of_ble_eq_true rfl⟩ (fun tS hPt hFt => ⟨(), Or.inr ⟨ho, rfl⟩, hPt.sub [] rfl, hFt⟩) dX6_between_43 dX6_between_46 dX6_between_47 dX6_between_49 dX6_between_52
      ·
        have ho : btK S i x = 1 := by unfold btK; rw [show b01 x = false from df (fun q => c_19 q.2), Bool.and_false]; rfl
        refine xpc (q := 23) rfl ?_
        exact xthrow hx hb htr hown hg hT hZ hT.2.1.1 f_IA mK_X6_52 in_IA at_IA bt_IA ot_IA st_175 hP hS (hl.1.trans hml.symm) hex hlk ⟨Nat.le_of_ble_eq_true rfl, Nat.le_of_ble_eq_true rfl, Nat.le_of_ble_eq_true rfl, Nat.le_of_ble_eq_true rfl⟩ (fun tS hPt hFt => ⟨(), Or.inl ⟨ho, rfl⟩, hPt.sub [] rfl, hFt⟩) dX6_between_23 dX6_between_26 dX6_between_27 dX6_between_29 dX6_between_32
