theorem abv_lt {lv v : UInt64} (h : dlt (FP.dsub v lv) FP.dconst0) : (!abv lv v) = true := by unfold abv; rw [dt h]; rfl
theorem abv_ge {lv v : UInt64} (h : ¬ dlt (FP.dsub v lv) FP.dconst0) : (!abv lv v) = false := by unfold abv; rw [df h]; rfl
theorem not_inj {a b : Bool} : (!a) = (!b) ↔ a = b := by cases a <;> cases b <;> decide
theorem fire_f {lv a c : UInt64} (h : abv lv a = abv lv c) : fire true lv a c = false := by unfold fire; rw [h]; simp
theorem fire_t {lv a c : UInt64} (h : ¬ abv lv a = abv lv c) : fire true lv a c = true := by unfold fire; simp; exact fun q => h q.symm
theorem look_off {lv a b c d sp t0 : UInt64} {ev : Nat} {tm : Nat → UInt64} : lookT false lv a b c d sp t0 ev tm = tm ∧ lookN false lv a c ev = ev := ⟨rfl, rfl⟩
/-- the reference's watched value: -1 where there is no watch -/
def wdI (S : St) : Int32 := if gon S then nI (gwh S) else -1
theorem wd_on {S : St} (h : gon S = true) : wdI S = nI (gwh S) := by unfold wdI; rw [h]; rfl
theorem wd_lt {S : St} (hw : gon S = true → gwh S < 3) : wdI S < 0 ↔ gon S = false := by
  unfold wdI
  cases h : gon S with
  | false => exact ⟨fun _ => rfl, fun _ => by rw [if_neg (by decide)]; decide⟩
  | true =>
    rw [if_pos rfl]
    refine ⟨fun q => absurd q (nI_pos (by have := hw h; omega)), fun q => by cases q⟩
set_option maxHeartbeats 4000000 in
set_option maxRecDepth 100000 in
theorem r_curve (l : Launch) (D : va_G) (cD cI cM cL : ClassId) (A : Nat → Nat) (σ : Sys) (th : Int32) (t sh tl er : UInt64) (fl kp : Int32) (ks : UInt64) (tk : Int32) (tz sp : UInt64) (wd : Int32) (lv : UInt64) (dn rf ev : Int32) (y y0 g0 q0 : Nat → UInt64) (i : Nat) (x : UInt64) (hi : i < 3) (hy : bd 1 20 (y0 i)) (hgg : bd 1 50 (g0 i)) (hen : bd 1 20 (y i)) (hq : bd 1 50 (q0 i)) (hsp : bd 1 2 sp) (hm : bd 1 0 x) : Met l yX7_curve (Cond.code yX7_curve cX7_curve 4 (some .double) :: lw_good) { frames := 0, cells := 0, slots := 0, locals := 0 } (xPc D (tyL cD cI cM cL) [.ref (A 0), .int (nI i), .double x] [(A 0, mO A th (nI (sn σ)) (nI (sc σ)) t sh tl er fl kp ks tk tz sp wd lv dn rf ev), (A 5, dA cD 3 y), (A 16, dA cD 3 y0), (A 17, dA cD 3 g0), (A 18, dA cD 3 q0)]) (xQ D [] (fun (_ : Unit) => some (.double (crv (y0 i) (g0 i) (y i) (q0 i) sp x))) (fun (_ : Unit) => True) (fun (_ : Unit) => [])) 0 0 (fun q => q ∈ ([] : List Nat)) := by
  refine xofW (adr := []) (by decide) (Nat.le_of_ble_eq_true rfl) ?_
  intro p e s m below meth c ls hx hb hr hml hg hown hlk hI hP hd hS hl
  have hown : s.vm.findClass RX7 = some m.cls := hown
  have hd : dj [A 0, A 5, A 16, A 17, A 18] := hd
  have hl : lv_has ls 4 [(0, .ref (A 0)), (1, .int (nI i)), (2, .double x)] := hl
  refine lv_dconst1 hx hb dX7_curve_0 ?_
  refine lv_ldc2d (v := k2) hx hb hown (hg _ mD_X7_113) dX7_curve_1 ?_
  refine lv_dload_n hx hb dX7_curve_4 rfl (lv_at hl 2 rfl) ?_
  have b1 : bd 1 1 (FP.dmul k2 x) := bd_mul b_k2 hm (by decide) (by decide)
  refine lv_dmul hx hb dX7_curve_5 b1.nn ?_
  have b2 : bd 1 2 (FP.dadd FP.dconst1 (FP.dmul k2 x)) := bd_add b_1 b1 (by decide) (by decide) (by decide)
  refine lv_dadd hx hb dX7_curve_6 b2.nn ?_
  refine lv_dconst1 hx hb dX7_curve_7 ?_
  refine lv_dload_n hx hb dX7_curve_8 rfl (lv_at hl 2 rfl) ?_
  have b3 : bd 1 1 (FP.dsub FP.dconst1 x) := bd_sub b_1 hm (by decide) (by decide) (by decide)
  refine lv_dsub hx hb dX7_curve_9 b3.nn ?_
  have b4 : bd 1 3 (FP.dmul (FP.dadd FP.dconst1 (FP.dmul k2 x)) (FP.dsub FP.dconst1 x)) := bd_mul b2 b3 (by decide) (by decide)
  refine lv_dmul hx hb dX7_curve_10 b4.nn ?_
  refine lv_dconst1 hx hb dX7_curve_11 ?_
  refine lv_dload_n hx hb dX7_curve_12 rfl (lv_at hl 2 rfl) ?_
  have b5 : bd 1 1 (FP.dsub FP.dconst1 x) := bd_sub b_1 hm (by decide) (by decide) (by decide)
  refine lv_dsub hx hb dX7_curve_13 b5.nn ?_
  have b6 : bd 1 4 (FP.dmul (FP.dmul (FP.dadd FP.dconst1 (FP.dmul k2 x)) (FP.dsub FP.dconst1 x)) (FP.dsub FP.dconst1 x)) := bd_mul b4 b5 (by decide) (by decide)
  refine lv_dmul hx hb dX7_curve_14 b6.nn ?_
  refine xpc (q := 15) rfl ?_
  refine lv_aload_n hx hb dX7_curve_15 rfl (lv_at hl 0 rfl) ?_
  refine gX7 hx hb hg hown hI hP 0 rfl 28 rfl mF_X7_69 rfl dX7_curve_16 ?_
  refine lv_iload_n hx hb dX7_curve_19 rfl (lv_at hl 1 rfl) ?_
  refine xdald hx hb hI hP 2 0 rfl rfl hi (by decide) dX7_curve_20 ?_
  have b7 : bd 1 24 (FP.dmul (FP.dmul (FP.dmul (FP.dadd FP.dconst1 (FP.dmul k2 x)) (FP.dsub FP.dconst1 x)) (FP.dsub FP.dconst1 x)) (y0 i)) := bd_mul b6 hy (by decide) (by decide)
  refine lv_dmul hx hb dX7_curve_21 b7.nn ?_
  refine lv_dload_n hx hb dX7_curve_22 rfl (lv_at hl 2 rfl) ?_
  refine lv_dconst1 hx hb dX7_curve_23 ?_
  refine lv_dload_n hx hb dX7_curve_24 rfl (lv_at hl 2 rfl) ?_
  have b8 : bd 1 1 (FP.dsub FP.dconst1 x) := bd_sub b_1 hm (by decide) (by decide) (by decide)
  refine lv_dsub hx hb dX7_curve_25 b8.nn ?_
  have b9 : bd 1 1 (FP.dmul x (FP.dsub FP.dconst1 x)) := bd_mul hm b8 (by decide) (by decide)
  refine lv_dmul hx hb dX7_curve_26 b9.nn ?_
  refine lv_dconst1 hx hb dX7_curve_27 ?_
  refine lv_dload_n hx hb dX7_curve_28 rfl (lv_at hl 2 rfl) ?_
  have b10 : bd 1 1 (FP.dsub FP.dconst1 x) := bd_sub b_1 hm (by decide) (by decide) (by decide)
  refine lv_dsub hx hb dX7_curve_29 b10.nn ?_
  have b11 : bd 1 2 (FP.dmul (FP.dmul x (FP.dsub FP.dconst1 x)) (FP.dsub FP.dconst1 x)) := bd_mul b9 b10 (by decide) (by decide)
  refine lv_dmul hx hb dX7_curve_30 b11.nn ?_
  refine xpc (q := 31) rfl ?_
  refine lv_aload_n hx hb dX7_curve_31 rfl (lv_at hl 0 rfl) ?_
  refine gX7 hx hb hg hown hI hP 0 rfl 27 rfl mF_X7_184 rfl dX7_curve_32 ?_
  have b12 : bd 1 4 (FP.dmul (FP.dmul (FP.dmul x (FP.dsub FP.dconst1 x)) (FP.dsub FP.dconst1 x)) sp) := bd_mul b11 hsp (by decide) (by decide)
  refine lv_dmul hx hb dX7_curve_35 b12.nn ?_
  refine lv_aload_n hx hb dX7_curve_36 rfl (lv_at hl 0 rfl) ?_
  refine gX7 hx hb hg hown hI hP 0 rfl 29 rfl mF_X7_72 rfl dX7_curve_37 ?_
  refine lv_iload_n hx hb dX7_curve_40 rfl (lv_at hl 1 rfl) ?_
  refine xdald hx hb hI hP 3 0 rfl rfl hi (by decide) dX7_curve_41 ?_
  have b13 : bd 1 54 (FP.dmul (FP.dmul (FP.dmul (FP.dmul x (FP.dsub FP.dconst1 x)) (FP.dsub FP.dconst1 x)) sp) (g0 i)) := bd_mul b12 hgg (by decide) (by decide)
  refine lv_dmul hx hb dX7_curve_42 b13.nn ?_
  have b14 : bd 1 55 (FP.dadd (FP.dmul (FP.dmul (FP.dmul (FP.dadd FP.dconst1 (FP.dmul k2 x)) (FP.dsub FP.dconst1 x)) (FP.dsub FP.dconst1 x)) (y0 i)) (FP.dmul (FP.dmul (FP.dmul (FP.dmul x (FP.dsub FP.dconst1 x)) (FP.dsub FP.dconst1 x)) sp) (g0 i))) := bd_add b7 b13 (by decide) (by decide) (by decide)
  refine lv_dadd hx hb dX7_curve_43 b14.nn ?_
  refine lv_dload_n hx hb dX7_curve_44 rfl (lv_at hl 2 rfl) ?_
  refine lv_dload_n hx hb dX7_curve_45 rfl (lv_at hl 2 rfl) ?_
  have b15 : bd 1 0 (FP.dmul x x) := bd_mul hm hm (by decide) (by decide)
  refine lv_dmul hx hb dX7_curve_46 b15.nn ?_
  refine lv_ldc2d (v := k3) hx hb hown (hg _ mD_X7_119) dX7_curve_47 ?_
  refine lv_ldc2d (v := k2) hx hb hown (hg _ mD_X7_113) dX7_curve_50 ?_
  refine xpc (q := 53) rfl ?_
  refine lv_dload_n hx hb dX7_curve_53 rfl (lv_at hl 2 rfl) ?_
  have b16 : bd 1 1 (FP.dmul k2 x) := bd_mul b_k2 hm (by decide) (by decide)
  refine lv_dmul hx hb dX7_curve_54 b16.nn ?_
  have b17 : bd 1 3 (FP.dsub k3 (FP.dmul k2 x)) := bd_sub b_k3 b16 (by decide) (by decide) (by decide)
  refine lv_dsub hx hb dX7_curve_55 b17.nn ?_
  have b18 : bd 1 3 (FP.dmul (FP.dmul x x) (FP.dsub k3 (FP.dmul k2 x))) := bd_mul b15 b17 (by decide) (by decide)
  refine lv_dmul hx hb dX7_curve_56 b18.nn ?_
  refine lv_aload_n hx hb dX7_curve_57 rfl (lv_at hl 0 rfl) ?_
  refine gX7 hx hb hg hown hI hP 0 rfl 10 rfl mF_X7_36 rfl dX7_curve_58 ?_
  refine lv_iload_n hx hb dX7_curve_61 rfl (lv_at hl 1 rfl) ?_
  refine xdald hx hb hI hP 1 0 rfl rfl hi (by decide) dX7_curve_62 ?_
  have b19 : bd 1 23 (FP.dmul (FP.dmul (FP.dmul x x) (FP.dsub k3 (FP.dmul k2 x))) (y i)) := bd_mul b18 hen (by decide) (by decide)
  refine lv_dmul hx hb dX7_curve_63 b19.nn ?_
  have b20 : bd 1 56 (FP.dadd (FP.dadd (FP.dmul (FP.dmul (FP.dmul (FP.dadd FP.dconst1 (FP.dmul k2 x)) (FP.dsub FP.dconst1 x)) (FP.dsub FP.dconst1 x)) (y0 i)) (FP.dmul (FP.dmul (FP.dmul (FP.dmul x (FP.dsub FP.dconst1 x)) (FP.dsub FP.dconst1 x)) sp) (g0 i))) (FP.dmul (FP.dmul (FP.dmul x x) (FP.dsub k3 (FP.dmul k2 x))) (y i))) := bd_add b14 b19 (by decide) (by decide) (by decide)
  refine lv_dadd hx hb dX7_curve_64 b20.nn ?_
  refine lv_dload_n hx hb dX7_curve_65 rfl (lv_at hl 2 rfl) ?_
  refine lv_dload_n hx hb dX7_curve_66 rfl (lv_at hl 2 rfl) ?_
  have b21 : bd 1 0 (FP.dmul x x) := bd_mul hm hm (by decide) (by decide)
  refine lv_dmul hx hb dX7_curve_67 b21.nn ?_
  refine lv_dload_n hx hb dX7_curve_68 rfl (lv_at hl 2 rfl) ?_
  refine xpc (q := 69) rfl ?_
  refine lv_dconst1 hx hb dX7_curve_69 ?_
  have b22 : bd 1 1 (FP.dsub x FP.dconst1) := bd_sub hm b_1 (by decide) (by decide) (by decide)
  refine lv_dsub hx hb dX7_curve_70 b22.nn ?_
  have b23 : bd 1 1 (FP.dmul (FP.dmul x x) (FP.dsub x FP.dconst1)) := bd_mul b21 b22 (by decide) (by decide)
  refine lv_dmul hx hb dX7_curve_71 b23.nn ?_
  refine lv_aload_n hx hb dX7_curve_72 rfl (lv_at hl 0 rfl) ?_
  refine gX7 hx hb hg hown hI hP 0 rfl 27 rfl mF_X7_184 rfl dX7_curve_73 ?_
  have b24 : bd 1 3 (FP.dmul (FP.dmul (FP.dmul x x) (FP.dsub x FP.dconst1)) sp) := bd_mul b23 hsp (by decide) (by decide)
  refine lv_dmul hx hb dX7_curve_76 b24.nn ?_
  refine lv_aload_n hx hb dX7_curve_77 rfl (lv_at hl 0 rfl) ?_
  refine gX7 hx hb hg hown hI hP 0 rfl 30 rfl mF_X7_75 rfl dX7_curve_78 ?_
  refine lv_iload_n hx hb dX7_curve_81 rfl (lv_at hl 1 rfl) ?_
  refine xdald hx hb hI hP 4 0 rfl rfl hi (by decide) dX7_curve_82 ?_
  have b25 : bd 1 53 (FP.dmul (FP.dmul (FP.dmul (FP.dmul x x) (FP.dsub x FP.dconst1)) sp) (q0 i)) := bd_mul b24 hq (by decide) (by decide)
  refine lv_dmul hx hb dX7_curve_83 b25.nn ?_
  have b26 : bd 1 57 (FP.dadd (FP.dadd (FP.dadd (FP.dmul (FP.dmul (FP.dmul (FP.dadd FP.dconst1 (FP.dmul k2 x)) (FP.dsub FP.dconst1 x)) (FP.dsub FP.dconst1 x)) (y0 i)) (FP.dmul (FP.dmul (FP.dmul (FP.dmul x (FP.dsub FP.dconst1 x)) (FP.dsub FP.dconst1 x)) sp) (g0 i))) (FP.dmul (FP.dmul (FP.dmul x x) (FP.dsub k3 (FP.dmul k2 x))) (y i))) (FP.dmul (FP.dmul (FP.dmul (FP.dmul x x) (FP.dsub x FP.dconst1)) sp) (q0 i))) := bd_add b20 b25 (by decide) (by decide) (by decide)
  refine lv_dadd hx hb dX7_curve_84 b26.nn ?_
  exact W.dret hx hb hr (fun tS hTS hWS => ⟨(), rfl, trivial, by rw [hTS]; exact hP.sub [] rfl, hS.F hTS⟩) hS.2.2 dX7_curve_85

set_option maxHeartbeats 4000000 in
set_option maxRecDepth 100000 in
theorem r_watchStep (l : Launch) (D : va_G) (cD cI cM cL : ClassId) (A : Nat → Nat) (σ : Sys) (th : Int32) (t sh tl er : UInt64) (fl kp : Int32) (ks : UInt64) (tk : Int32) (tz sp : UInt64) (wh : Nat) (lv : UInt64) (dn rf : Int32) (en : Nat) (y y0 g0 q0 tm : Nat → UInt64) (hwh : wh < 3) (hc : okc (y0 wh) (g0 wh) (y wh) (q0 wh) sp tz lv) (hev : en < 2 ^ 30) : Met l yX7_watchStep (Cond.code yX7_watchStep cX7_watchStep 10 none :: lw_good) { frames := 1, cells := 0, slots := 0, locals := 23 } (xPc D (tyL cD cI cM cL) [.ref (A 0)] [(A 0, mO A th (nI (sn σ)) (nI (sc σ)) t sh tl er fl kp ks tk tz sp (nI wh) lv dn rf (nI en)), (A 5, dA cD 3 y), (A 16, dA cD 3 y0), (A 17, dA cD 3 g0), (A 18, dA cD 3 q0), (A 19, dA cD 8 tm)]) (xQ D [A 0, A 19] (fun (_ : Unit) => none) (fun (_ : Unit) => True) (fun (_ : Unit) => [(A 0, mO A th (nI (sn σ)) (nI (sc σ)) t sh tl er fl kp ks tk tz sp (nI wh) lv dn rf (nI (lookN true lv (y0 wh) (y wh) en))), (A 19, dA cD 8 (lookT true lv (y0 wh) (g0 wh) (y wh) (q0 wh) sp tz en tm))])) 0 0 (fun q => q ∈ ([A 0, A 19] : List Nat)) := by
  refine xofW (adr := [A 0, A 19]) (by decide) (Nat.le_of_ble_eq_true rfl) ?_
  intro p e s m below meth c ls hx hb hr hml hg hown hlk hI hP hd hS hl
  have hown : s.vm.findClass RX7 = some m.cls := hown
  have hd : dj [A 0, A 5, A 16, A 17, A 18, A 19] := hd
  have hl : lv_has ls 10 [(0, .ref (A 0))] := hl
  obtain ⟨ha1, hb1, hc1, hd1, hsp, ht0, hlv⟩ := id hc
  have hf1 : fin (FP.dsub (y0 wh) lv) := (bd_sub (k := 21) ha1 hlv (by decide) (by decide) (by decide)).1
  have hf2 : fin (FP.dsub (y wh) lv) := (bd_sub (k := 21) hc1 hlv (by decide) (by decide) (by decide)).1
  refine xcut (I := fun H locs ls => (True) ∧ va_P D vwCl [(A 0, mO A th (nI (sn σ)) (nI (sc σ)) t sh tl er fl kp ks tk tz sp (nI wh) lv dn rf (nI en)), (A 5, dA cD 3 y), (A 16, dA cD 3 y0), (A 17, dA cD 3 g0), (A 18, dA cD 3 q0), (A 19, dA cD 8 tm)] H ∧ va_S (fun q => q ∈ ([A 0, A 19] : List Nat)) s.heap H locs ∧ lv_has ls 10 [(0, .ref (A 0))]) (pc2 := 24) (rest2 := [.int (bI (!abv lv (y0 wh)))]) (fun H locs ls hh => ?_) (fun K0 => ?_)
  ·
    obtain ⟨_h0, hP, hS, hl⟩ := hh
    refine lv_istore_n (lv' := [(1, .int (bI (!abv lv (y0 wh)))), (0, .ref (A 0))]) hx hb dX7_watchStep_24 rfl hl (by decide) rfl (fun ls hl => ?_)
    refine lv_iload_n hx hb dX7_watchStep_25 rfl (lv_at hl 0 rfl) ?_
    refine xcut (I := fun H locs ls => (True) ∧ va_P D vwCl [(A 0, mO A th (nI (sn σ)) (nI (sc σ)) t sh tl er fl kp ks tk tz sp (nI wh) lv dn rf (nI en)), (A 5, dA cD 3 y), (A 16, dA cD 3 y0), (A 17, dA cD 3 g0), (A 18, dA cD 3 q0), (A 19, dA cD 8 tm)] H ∧ va_S (fun q => q ∈ ([A 0, A 19] : List Nat)) s.heap H locs ∧ lv_has ls 10 [(1, .int (bI (!abv lv (y0 wh)))), (0, .ref (A 0))]) (pc2 := 50) (rest2 := [.int (bI (!abv lv (y wh))), .int (bI (!abv lv (y0 wh)))]) (fun H locs ls hh => ?_) (fun K1 => ?_)
    ·
      obtain ⟨_h1, hP, hS, hl⟩ := hh
      refine lv_icmp_ne (tgt := 54) hx hb dX7_watchStep_50 (by decide) (fun c_50 => ?_) (fun c_50 => ?_)
      ·
        have hfi : fire true lv (y0 wh) (y wh) = true := fire_t (fun q => c_50 (by rw [q]))
        have e1 : lookT true lv (y0 wh) (g0 wh) (y wh) (q0 wh) sp tz en tm = vf_upd tm (en % 8) (evt tz sp (crv (y0 wh) (g0 wh) (y wh) (q0 wh) sp) lv (abv lv (y0 wh))) := by unfold lookT; rw [hfi]; rfl
        have e2 : lookN true lv (y0 wh) (y wh) en = en + 1 := by unfold lookN; rw [hfi]; rfl
        rw [e1, e2]
        refine lv_dconst0 hx hb dX7_watchStep_54 ?_
        refine lv_dstore_n (lv' := [(2, .double FP.dconst0), (1, .int (bI (!abv lv (y0 wh)))), (0, .ref (A 0))]) hx hb dX7_watchStep_55 rfl hl (by decide) rfl (fun ls hl => ?_)
        refine lv_dconst1 hx hb dX7_watchStep_56 ?_
        refine lv_dstore (lv' := [(4, .double FP.dconst1), (2, .double FP.dconst0), (1, .int (bI (!abv lv (y0 wh)))), (0, .ref (A 0))]) hx hb dX7_watchStep_57 hl (by decide) rfl (fun ls hl => ?_)
        refine lv_dconst0 hx hb dX7_watchStep_59 ?_
        refine lv_dstore (lv' := [(6, .double FP.dconst0), (4, .double FP.dconst1), (2, .double FP.dconst0), (1, .int (bI (!abv lv (y0 wh)))), (0, .ref (A 0))]) hx hb dX7_watchStep_60 hl (by decide) rfl (fun ls hl => ?_)
        refine lv_iconst (v := nI 0) hx hb dX7_watchStep_62 (by decide) ?_
        refine lv_istore (lv' := [(8, .int (nI 0)), (6, .double FP.dconst0), (4, .double FP.dconst1), (2, .double FP.dconst0), (1, .int (bI (!abv lv (y0 wh)))), (0, .ref (A 0))]) hx hb dX7_watchStep_63 hl (by decide) rfl (fun ls hl => ?_)
        refine xfor (I := fun k H locs ls => ∃ (x : UInt64), (0 < k → x = (bis (crv (y0 wh) (g0 wh) (y wh) (q0 wh) sp) lv (abv lv (y0 wh)) k).2.2) ∧ va_P D vwCl [(A 0, mO A th (nI (sn σ)) (nI (sc σ)) t sh tl er fl kp ks tk tz sp (nI wh) lv dn rf (nI en)), (A 5, dA cD 3 y), (A 16, dA cD 3 y0), (A 17, dA cD 3 g0), (A 18, dA cD 3 q0), (A 19, dA cD 8 tm)] H ∧ va_S (fun q => q ∈ ([A 0, A 19] : List Nat)) s.heap H locs ∧ lv_has ls 10 [(8, .int (nI k)), (6, .double x), (4, .double ((bis (crv (y0 wh) (g0 wh) (y wh) (q0 wh) sp) lv (abv lv (y0 wh)) k).2.1)), (2, .double ((bis (crv (y0 wh) (g0 wh) (y wh) (q0 wh) sp) lv (abv lv (y0 wh)) k).1)), (1, .int (bI (!abv lv (y0 wh)))), (0, .ref (A 0))]) 20 0 ⟨_, (fun q => absurd q (by decide)), hP, hS, lv_sub hl [0, 1, 2, 3, 4, 5] rfl⟩ (Nat.zero_le _) ?_ ?_
        ·
          intro k h_k ih H locs ls ⟨x, hx0, hP, hS, hl⟩
          refine lv_iload hx hb dX7_watchStep_65 (lv_at hl 0 rfl) ?_
          refine lv_bipush (v := nI 20) hx hb dX7_watchStep_67 (by decide) ?_
          refine lv_icmp_ge (tgt := 150) hx hb dX7_watchStep_69 (by decide) (fun c_69 => absurd c_69 (nI_ge h_k (by decide))) (fun c_69 => ?_)
          refine lv_ldc2d (v := k0_5) hx hb hown (hg _ mD_X7_105) dX7_watchStep_72 ?_
          refine lv_dload_n hx hb dX7_watchStep_75 rfl (lv_at hl 3 rfl) ?_
          refine lv_dload hx hb dX7_watchStep_76 (lv_at hl 2 rfl) ?_
          refine xpc (q := 78) rfl ?_
          have b1 : bd 1 1 (FP.dadd ((bis (crv (y0 wh) (g0 wh) (y wh) (q0 wh) sp) lv (abv lv (y0 wh)) k).1) ((bis (crv (y0 wh) (g0 wh) (y wh) (q0 wh) sp) lv (abv lv (y0 wh)) k).2.1)) := bd_add (bis_bd (f := (crv (y0 wh) (g0 wh) (y wh) (q0 wh) sp)) (lv := lv) (bg := abv lv (y0 wh)) k).1 (bis_bd (f := (crv (y0 wh) (g0 wh) (y wh) (q0 wh) sp)) (lv := lv) (bg := abv lv (y0 wh)) k).2.1 (by decide) (by decide) (by decide)
          refine lv_dadd hx hb dX7_watchStep_78 b1.nn ?_
          have hmm : bd 1 0 (FP.dmul k0_5 (FP.dadd ((bis (crv (y0 wh) (g0 wh) (y wh) (q0 wh) sp) lv (abv lv (y0 wh)) k).1) ((bis (crv (y0 wh) (g0 wh) (y wh) (q0 wh) sp) lv (abv lv (y0 wh)) k).2.1))) := bd_half b1
          refine lv_dmul hx hb dX7_watchStep_79 hmm.nn ?_
          refine lv_dstore (lv' := [(6, .double (FP.dmul k0_5 (FP.dadd ((bis (crv (y0 wh) (g0 wh) (y wh) (q0 wh) sp) lv (abv lv (y0 wh)) k).1) ((bis (crv (y0 wh) (g0 wh) (y wh) (q0 wh) sp) lv (abv lv (y0 wh)) k).2.1)))), (8, .int (nI k)), (4, .double ((bis (crv (y0 wh) (g0 wh) (y wh) (q0 wh) sp) lv (abv lv (y0 wh)) k).2.1)), (2, .double ((bis (crv (y0 wh) (g0 wh) (y wh) (q0 wh) sp) lv (abv lv (y0 wh)) k).1)), (1, .int (bI (!abv lv (y0 wh)))), (0, .ref (A 0))]) hx hb dX7_watchStep_80 hl (by decide) rfl (fun ls hl => ?_)
          refine lv_aload_n hx hb dX7_watchStep_82 rfl (lv_at hl 5 rfl) ?_
          refine lv_aload_n hx hb dX7_watchStep_83 rfl (lv_at hl 5 rfl) ?_
          refine gX7 hx hb hg hown hI hP 0 rfl 31 rfl mF_X7_78 rfl dX7_watchStep_84 ?_
          refine lv_dload hx hb dX7_watchStep_87 (lv_at hl 0 rfl) ?_
          refine xcd (xV (As := [.int (nI wh), .double (FP.dmul k0_5 (FP.dadd ((bis (crv (y0 wh) (g0 wh) (y wh) (q0 wh) sp) lv (abv lv (y0 wh)) k).1) ((bis (crv (y0 wh) (g0 wh) (y wh) (q0 wh) sp) lv (abv lv (y0 wh)) k).2.1)))]) (rest := []) hx hb hml hown hg (r_curve l D cD cI cM cL A σ th t sh tl er fl kp ks tk tz sp (nI wh) lv dn rf (nI en) y y0 g0 q0 wh (FP.dmul k0_5 (FP.dadd ((bis (crv (y0 wh) (g0 wh) (y wh) (q0 wh) sp) lv (abv lv (y0 wh)) k).1) ((bis (crv (y0 wh) (g0 wh) (y wh) (q0 wh) sp) lv (abv lv (y0 wh)) k).2.1))) hwh ha1 hb1 hc1 hd1 hsp hmm) mM_X7_199 ok_X7_curve rfl rfl ⟨Nat.le_of_ble_eq_true rfl, Nat.le_of_ble_eq_true rfl⟩ hI hP hd rfl [0, 1, 2, 3, 4] rfl rfl rfl rfl rfl hl.1 rfl (Nat.le_of_ble_eq_true rfl) dX7_watchStep_89 ⟨Nat.zero_le _, Nat.zero_le _⟩) hP hd hS fa0 [] rfl rfl (fun _ => rfl) (fun _u H locs hu hP hS => ?_)
          have hP : va_P D vwCl [(A 0, mO A th (nI (sn σ)) (nI (sc σ)) t sh tl er fl kp ks tk tz sp (nI wh) lv dn rf (nI en)), (A 5, dA cD 3 y), (A 16, dA cD 3 y0), (A 17, dA cD 3 g0), (A 18, dA cD 3 q0), (A 19, dA cD 8 tm)] H := hP
          have hfl : fin (FP.dsub ((crv (y0 wh) (g0 wh) (y wh) (q0 wh) sp) (FP.dmul k0_5 (FP.dadd ((bis (crv (y0 wh) (g0 wh) (y wh) (q0 wh) sp) lv (abv lv (y0 wh)) k).1) ((bis (crv (y0 wh) (g0 wh) (y wh) (q0 wh) sp) lv (abv lv (y0 wh)) k).2.1)))) lv) := (bd_sub (k := 61) (crv_bd ha1 hb1 hc1 hd1 hsp hmm) hlv (by decide) (by decide) (by decide)).1
          refine lv_aload_n hx hb dX7_watchStep_92 rfl (lv_at hl 5 rfl) ?_
          refine gX7 hx hb hg hown hI hP 0 rfl 32 rfl mF_X7_196 rfl dX7_watchStep_93 ?_
          refine lv_dsub hx hb dX7_watchStep_96 (fin.nn hfl) ?_
          refine xcut (I := fun H locs ls => (True) ∧ va_P D vwCl [(A 0, mO A th (nI (sn σ)) (nI (sc σ)) t sh tl er fl kp ks tk tz sp (nI wh) lv dn rf (nI en)), (A 5, dA cD 3 y), (A 16, dA cD 3 y0), (A 17, dA cD 3 g0), (A 18, dA cD 3 q0), (A 19, dA cD 8 tm)] H ∧ va_S (fun q => q ∈ ([A 0, A 19] : List Nat)) s.heap H locs ∧ lv_has ls 10 [(6, .double (FP.dmul k0_5 (FP.dadd ((bis (crv (y0 wh) (g0 wh) (y wh) (q0 wh) sp) lv (abv lv (y0 wh)) k).1) ((bis (crv (y0 wh) (g0 wh) (y wh) (q0 wh) sp) lv (abv lv (y0 wh)) k).2.1)))), (8, .int (nI k)), (4, .double ((bis (crv (y0 wh) (g0 wh) (y wh) (q0 wh) sp) lv (abv lv (y0 wh)) k).2.1)), (2, .double ((bis (crv (y0 wh) (g0 wh) (y wh) (q0 wh) sp) lv (abv lv (y0 wh)) k).1)), (1, .int (bI (!abv lv (y0 wh)))), (0, .ref (A 0))]) (pc2 := 116) (rest2 := [.int (bI (decide (abv lv ((crv (y0 wh) (g0 wh) (y wh) (q0 wh) sp) (FP.dmul k0_5 (FP.dadd ((bis (crv (y0 wh) (g0 wh) (y wh) (q0 wh) sp) lv (abv lv (y0 wh)) k).1) ((bis (crv (y0 wh) (g0 wh) (y wh) (q0 wh) sp) lv (abv lv (y0 wh)) k).2.1)))) = abv lv (y0 wh))))]) (fun H locs ls hh => ?_) (fun K2 => ?_)
          ·
            obtain ⟨_h2, hP, hS, hl⟩ := hh
            refine lv_istore (lv' := [(9, .int (bI (decide (abv lv ((crv (y0 wh) (g0 wh) (y wh) (q0 wh) sp) (FP.dmul k0_5 (FP.dadd ((bis (crv (y0 wh) (g0 wh) (y wh) (q0 wh) sp) lv (abv lv (y0 wh)) k).1) ((bis (crv (y0 wh) (g0 wh) (y wh) (q0 wh) sp) lv (abv lv (y0 wh)) k).2.1)))) = abv lv (y0 wh))))), (6, .double (FP.dmul k0_5 (FP.dadd ((bis (crv (y0 wh) (g0 wh) (y wh) (q0 wh) sp) lv (abv lv (y0 wh)) k).1) ((bis (crv (y0 wh) (g0 wh) (y wh) (q0 wh) sp) lv (abv lv (y0 wh)) k).2.1)))), (8, .int (nI k)), (4, .double ((bis (crv (y0 wh) (g0 wh) (y wh) (q0 wh) sp) lv (abv lv (y0 wh)) k).2.1)), (2, .double ((bis (crv (y0 wh) (g0 wh) (y wh) (q0 wh) sp) lv (abv lv (y0 wh)) k).1)), (1, .int (bI (!abv lv (y0 wh)))), (0, .ref (A 0))]) hx hb dX7_watchStep_116 hl (by decide) rfl (fun ls hl => ?_)
            refine lv_iload hx hb dX7_watchStep_118 (lv_at hl 0 rfl) ?_
            refine lv_if_eq (tgt := 128) hx hb dX7_watchStep_120 (by decide) (fun c_120 => ?_) (fun c_120 => ?_)
            ·
              refine lv_dload_n hx hb dX7_watchStep_128 rfl (lv_at hl 4 rfl) ?_
              refine lv_dstore_n (lv' := [(2, .double ((bis (crv (y0 wh) (g0 wh) (y wh) (q0 wh) sp) lv (abv lv (y0 wh)) k).1)), (9, .int (bI (decide (abv lv ((crv (y0 wh) (g0 wh) (y wh) (q0 wh) sp) (FP.dmul k0_5 (FP.dadd ((bis (crv (y0 wh) (g0 wh) (y wh) (q0 wh) sp) lv (abv lv (y0 wh)) k).1) ((bis (crv (y0 wh) (g0 wh) (y wh) (q0 wh) sp) lv (abv lv (y0 wh)) k).2.1)))) = abv lv (y0 wh))))), (6, .double (FP.dmul k0_5 (FP.dadd ((bis (crv (y0 wh) (g0 wh) (y wh) (q0 wh) sp) lv (abv lv (y0 wh)) k).1) ((bis (crv (y0 wh) (g0 wh) (y wh) (q0 wh) sp) lv (abv lv (y0 wh)) k).2.1)))), (8, .int (nI k)), (4, .double ((bis (crv (y0 wh) (g0 wh) (y wh) (q0 wh) sp) lv (abv lv (y0 wh)) k).2.1)), (1, .int (bI (!abv lv (y0 wh)))), (0, .ref (A 0))]) hx hb dX7_watchStep_129 rfl hl (by decide) rfl (fun ls hl => ?_)
              refine lv_iload hx hb dX7_watchStep_130 (lv_at hl 1 rfl) ?_
              refine lv_if_eq (tgt := 140) hx hb dX7_watchStep_132 (by decide) (fun c_132 => ?_) (fun c_132 => absurd c_120 c_132)
              refine lv_dload hx hb dX7_watchStep_140 (lv_at hl 2 rfl) ?_
              refine lv_dstore (lv' := [(4, .double (FP.dmul k0_5 (FP.dadd ((bis (crv (y0 wh) (g0 wh) (y wh) (q0 wh) sp) lv (abv lv (y0 wh)) k).1) ((bis (crv (y0 wh) (g0 wh) (y wh) (q0 wh) sp) lv (abv lv (y0 wh)) k).2.1)))), (2, .double ((bis (crv (y0 wh) (g0 wh) (y wh) (q0 wh) sp) lv (abv lv (y0 wh)) k).1)), (9, .int (bI (decide (abv lv ((crv (y0 wh) (g0 wh) (y wh) (q0 wh) sp) (FP.dmul k0_5 (FP.dadd ((bis (crv (y0 wh) (g0 wh) (y wh) (q0 wh) sp) lv (abv lv (y0 wh)) k).1) ((bis (crv (y0 wh) (g0 wh) (y wh) (q0 wh) sp) lv (abv lv (y0 wh)) k).2.1)))) = abv lv (y0 wh))))), (6, .double (FP.dmul k0_5 (FP.dadd ((bis (crv (y0 wh) (g0 wh) (y wh) (q0 wh) sp) lv (abv lv (y0 wh)) k).1) ((bis (crv (y0 wh) (g0 wh) (y wh) (q0 wh) sp) lv (abv lv (y0 wh)) k).2.1)))), (8, .int (nI k)), (1, .int (bI (!abv lv (y0 wh)))), (0, .ref (A 0))]) hx hb dX7_watchStep_142 hl (by decide) rfl (fun ls hl => ?_)
              refine lv_iinc (v := nI (k + 1)) (lv' := [(8, .int (nI (k + 1))), (4, .double (FP.dmul k0_5 (FP.dadd ((bis (crv (y0 wh) (g0 wh) (y wh) (q0 wh) sp) lv (abv lv (y0 wh)) k).1) ((bis (crv (y0 wh) (g0 wh) (y wh) (q0 wh) sp) lv (abv lv (y0 wh)) k).2.1)))), (2, .double ((bis (crv (y0 wh) (g0 wh) (y wh) (q0 wh) sp) lv (abv lv (y0 wh)) k).1)), (9, .int (bI (decide (abv lv ((crv (y0 wh) (g0 wh) (y wh) (q0 wh) sp) (FP.dmul k0_5 (FP.dadd ((bis (crv (y0 wh) (g0 wh) (y wh) (q0 wh) sp) lv (abv lv (y0 wh)) k).1) ((bis (crv (y0 wh) (g0 wh) (y wh) (q0 wh) sp) lv (abv lv (y0 wh)) k).2.1)))) = abv lv (y0 wh))))), (6, .double (FP.dmul k0_5 (FP.dadd ((bis (crv (y0 wh) (g0 wh) (y wh) (q0 wh) sp) lv (abv lv (y0 wh)) k).1) ((bis (crv (y0 wh) (g0 wh) (y wh) (q0 wh) sp) lv (abv lv (y0 wh)) k).2.1)))), (1, .int (bI (!abv lv (y0 wh)))), (0, .ref (A 0))]) hx hb dX7_watchStep_144 hl (k := 4) rfl (nI_1 k) (by decide) rfl (fun ls hl => ?_)
              refine lv_goto (tgt := 65) hx hb dX7_watchStep_147 (by decide) ?_
              have hb2 : bis (crv (y0 wh) (g0 wh) (y wh) (q0 wh) sp) lv (abv lv (y0 wh)) (k + 1) = _ := if_neg (fd (bI_eq0.mp c_120))
              have hl : lv_has ls 10 [(8, .int (nI (k + 1))), (4, .double (FP.dmul k0_5 (FP.dadd ((bis (crv (y0 wh) (g0 wh) (y wh) (q0 wh) sp) lv (abv lv (y0 wh)) k).1) ((bis (crv (y0 wh) (g0 wh) (y wh) (q0 wh) sp) lv (abv lv (y0 wh)) k).2.1)))), (2, .double ((bis (crv (y0 wh) (g0 wh) (y wh) (q0 wh) sp) lv (abv lv (y0 wh)) k).1)), (9, .int (bI (decide (abv lv ((crv (y0 wh) (g0 wh) (y wh) (q0 wh) sp) (FP.dmul k0_5 (FP.dadd ((bis (crv (y0 wh) (g0 wh) (y wh) (q0 wh) sp) lv (abv lv (y0 wh)) k).1) ((bis (crv (y0 wh) (g0 wh) (y wh) (q0 wh) sp) lv (abv lv (y0 wh)) k).2.1)))) = abv lv (y0 wh))))), (6, .double (FP.dmul k0_5 (FP.dadd ((bis (crv (y0 wh) (g0 wh) (y wh) (q0 wh) sp) lv (abv lv (y0 wh)) k).1) ((bis (crv (y0 wh) (g0 wh) (y wh) (q0 wh) sp) lv (abv lv (y0 wh)) k).2.1)))), (1, .int (bI (!abv lv (y0 wh)))), (0, .ref (A 0))] := hl
              have hl : lv_has ls 10 [(8, .int (nI (k + 1))), (6, .double (FP.dmul k0_5 (FP.dadd ((bis (crv (y0 wh) (g0 wh) (y wh) (q0 wh) sp) lv (abv lv (y0 wh)) k).1) ((bis (crv (y0 wh) (g0 wh) (y wh) (q0 wh) sp) lv (abv lv (y0 wh)) k).2.1)))), (4, .double ((bis (crv (y0 wh) (g0 wh) (y wh) (q0 wh) sp) lv (abv lv (y0 wh)) (k + 1)).2.1)), (2, .double ((bis (crv (y0 wh) (g0 wh) (y wh) (q0 wh) sp) lv (abv lv (y0 wh)) (k + 1)).1)), (1, .int (bI (!abv lv (y0 wh)))), (0, .ref (A 0))] := by rw [hb2]; exact lv_sub hl [0, 4, 1, 2, 5, 6] rfl
              exact ih _ _ _ ⟨_, (fun _ => by rw [hb2]), hP, hS, lv_sub hl [0, 1, 2, 3, 4, 5] rfl⟩
            ·
              refine lv_dload hx hb dX7_watchStep_123 (lv_at hl 1 rfl) ?_
              refine lv_goto (tgt := 129) hx hb dX7_watchStep_125 (by decide) ?_
              refine lv_dstore_n (lv' := [(2, .double (FP.dmul k0_5 (FP.dadd ((bis (crv (y0 wh) (g0 wh) (y wh) (q0 wh) sp) lv (abv lv (y0 wh)) k).1) ((bis (crv (y0 wh) (g0 wh) (y wh) (q0 wh) sp) lv (abv lv (y0 wh)) k).2.1)))), (9, .int (bI (decide (abv lv ((crv (y0 wh) (g0 wh) (y wh) (q0 wh) sp) (FP.dmul k0_5 (FP.dadd ((bis (crv (y0 wh) (g0 wh) (y wh) (q0 wh) sp) lv (abv lv (y0 wh)) k).1) ((bis (crv (y0 wh) (g0 wh) (y wh) (q0 wh) sp) lv (abv lv (y0 wh)) k).2.1)))) = abv lv (y0 wh))))), (6, .double (FP.dmul k0_5 (FP.dadd ((bis (crv (y0 wh) (g0 wh) (y wh) (q0 wh) sp) lv (abv lv (y0 wh)) k).1) ((bis (crv (y0 wh) (g0 wh) (y wh) (q0 wh) sp) lv (abv lv (y0 wh)) k).2.1)))), (8, .int (nI k)), (4, .double ((bis (crv (y0 wh) (g0 wh) (y wh) (q0 wh) sp) lv (abv lv (y0 wh)) k).2.1)), (1, .int (bI (!abv lv (y0 wh)))), (0, .ref (A 0))]) hx hb dX7_watchStep_129 rfl hl (by decide) rfl (fun ls hl => ?_)
              refine lv_iload hx hb dX7_watchStep_130 (lv_at hl 1 rfl) ?_
              refine lv_if_eq (tgt := 140) hx hb dX7_watchStep_132 (by decide) (fun c_132 => absurd c_132 c_120) (fun c_132 => ?_)
              refine xpc (q := 135) rfl ?_
              refine lv_dload hx hb dX7_watchStep_135 (lv_at hl 4 rfl) ?_
              refine lv_goto (tgt := 142) hx hb dX7_watchStep_137 (by decide) ?_
              refine lv_dstore (lv' := [(4, .double ((bis (crv (y0 wh) (g0 wh) (y wh) (q0 wh) sp) lv (abv lv (y0 wh)) k).2.1)), (2, .double (FP.dmul k0_5 (FP.dadd ((bis (crv (y0 wh) (g0 wh) (y wh) (q0 wh) sp) lv (abv lv (y0 wh)) k).1) ((bis (crv (y0 wh) (g0 wh) (y wh) (q0 wh) sp) lv (abv lv (y0 wh)) k).2.1)))), (9, .int (bI (decide (abv lv ((crv (y0 wh) (g0 wh) (y wh) (q0 wh) sp) (FP.dmul k0_5 (FP.dadd ((bis (crv (y0 wh) (g0 wh) (y wh) (q0 wh) sp) lv (abv lv (y0 wh)) k).1) ((bis (crv (y0 wh) (g0 wh) (y wh) (q0 wh) sp) lv (abv lv (y0 wh)) k).2.1)))) = abv lv (y0 wh))))), (6, .double (FP.dmul k0_5 (FP.dadd ((bis (crv (y0 wh) (g0 wh) (y wh) (q0 wh) sp) lv (abv lv (y0 wh)) k).1) ((bis (crv (y0 wh) (g0 wh) (y wh) (q0 wh) sp) lv (abv lv (y0 wh)) k).2.1)))), (8, .int (nI k)), (1, .int (bI (!abv lv (y0 wh)))), (0, .ref (A 0))]) hx hb dX7_watchStep_142 hl (by decide) rfl (fun ls hl => ?_)
              refine lv_iinc (v := nI (k + 1)) (lv' := [(8, .int (nI (k + 1))), (4, .double ((bis (crv (y0 wh) (g0 wh) (y wh) (q0 wh) sp) lv (abv lv (y0 wh)) k).2.1)), (2, .double (FP.dmul k0_5 (FP.dadd ((bis (crv (y0 wh) (g0 wh) (y wh) (q0 wh) sp) lv (abv lv (y0 wh)) k).1) ((bis (crv (y0 wh) (g0 wh) (y wh) (q0 wh) sp) lv (abv lv (y0 wh)) k).2.1)))), (9, .int (bI (decide (abv lv ((crv (y0 wh) (g0 wh) (y wh) (q0 wh) sp) (FP.dmul k0_5 (FP.dadd ((bis (crv (y0 wh) (g0 wh) (y wh) (q0 wh) sp) lv (abv lv (y0 wh)) k).1) ((bis (crv (y0 wh) (g0 wh) (y wh) (q0 wh) sp) lv (abv lv (y0 wh)) k).2.1)))) = abv lv (y0 wh))))), (6, .double (FP.dmul k0_5 (FP.dadd ((bis (crv (y0 wh) (g0 wh) (y wh) (q0 wh) sp) lv (abv lv (y0 wh)) k).1) ((bis (crv (y0 wh) (g0 wh) (y wh) (q0 wh) sp) lv (abv lv (y0 wh)) k).2.1)))), (1, .int (bI (!abv lv (y0 wh)))), (0, .ref (A 0))]) hx hb dX7_watchStep_144 hl (k := 4) rfl (nI_1 k) (by decide) rfl (fun ls hl => ?_)
              refine lv_goto (tgt := 65) hx hb dX7_watchStep_147 (by decide) ?_
              have hb2 : bis (crv (y0 wh) (g0 wh) (y wh) (q0 wh) sp) lv (abv lv (y0 wh)) (k + 1) = _ := if_pos (td (bI_ne0.mp c_120))
              have hl : lv_has ls 10 [(8, .int (nI (k + 1))), (4, .double ((bis (crv (y0 wh) (g0 wh) (y wh) (q0 wh) sp) lv (abv lv (y0 wh)) k).2.1)), (2, .double (FP.dmul k0_5 (FP.dadd ((bis (crv (y0 wh) (g0 wh) (y wh) (q0 wh) sp) lv (abv lv (y0 wh)) k).1) ((bis (crv (y0 wh) (g0 wh) (y wh) (q0 wh) sp) lv (abv lv (y0 wh)) k).2.1)))), (9, .int (bI (decide (abv lv ((crv (y0 wh) (g0 wh) (y wh) (q0 wh) sp) (FP.dmul k0_5 (FP.dadd ((bis (crv (y0 wh) (g0 wh) (y wh) (q0 wh) sp) lv (abv lv (y0 wh)) k).1) ((bis (crv (y0 wh) (g0 wh) (y wh) (q0 wh) sp) lv (abv lv (y0 wh)) k).2.1)))) = abv lv (y0 wh))))), (6, .double (FP.dmul k0_5 (FP.dadd ((bis (crv (y0 wh) (g0 wh) (y wh) (q0 wh) sp) lv (abv lv (y0 wh)) k).1) ((bis (crv (y0 wh) (g0 wh) (y wh) (q0 wh) sp) lv (abv lv (y0 wh)) k).2.1)))), (1, .int (bI (!abv lv (y0 wh)))), (0, .ref (A 0))] := hl
              have hl : lv_has ls 10 [(8, .int (nI (k + 1))), (6, .double (FP.dmul k0_5 (FP.dadd ((bis (crv (y0 wh) (g0 wh) (y wh) (q0 wh) sp) lv (abv lv (y0 wh)) k).1) ((bis (crv (y0 wh) (g0 wh) (y wh) (q0 wh) sp) lv (abv lv (y0 wh)) k).2.1)))), (4, .double ((bis (crv (y0 wh) (g0 wh) (y wh) (q0 wh) sp) lv (abv lv (y0 wh)) (k + 1)).2.1)), (2, .double ((bis (crv (y0 wh) (g0 wh) (y wh) (q0 wh) sp) lv (abv lv (y0 wh)) (k + 1)).1)), (1, .int (bI (!abv lv (y0 wh)))), (0, .ref (A 0))] := by rw [hb2]; exact lv_sub hl [0, 4, 1, 2, 5, 6] rfl
              exact ih _ _ _ ⟨_, (fun _ => by rw [hb2]), hP, hS, lv_sub hl [0, 1, 2, 3, 4, 5] rfl⟩
          ·
            refine lv_dconst0 hx hb dX7_watchStep_97 ?_
            refine xg_ge (tgt := 106) hx hb dX7_watchStep_98 dX7_watchStep_99 (by decide) (fun c_98 => ?_) (fun c_98 => ?_)
            ·
              refine lv_iconst (v := nI 0) hx hb dX7_watchStep_106 (by decide) ?_
              refine xeqi (y := bI (!abv lv ((crv (y0 wh) (g0 wh) (y wh) (q0 wh) sp) (FP.dmul k0_5 (FP.dadd ((bis (crv (y0 wh) (g0 wh) (y wh) (q0 wh) sp) lv (abv lv (y0 wh)) k).1) ((bis (crv (y0 wh) (g0 wh) (y wh) (q0 wh) sp) lv (abv lv (y0 wh)) k).2.1)))))) (bI0 (abv_ge c_98)) ?_
              refine lv_iload_n hx hb dX7_watchStep_107 rfl (lv_at hl 4 rfl) ?_
              refine lv_icmp_ne (tgt := 115) hx hb dX7_watchStep_108 (by decide) (fun c_108 => ?_) (fun c_108 => ?_)
              ·
                refine lv_iconst (v := nI 0) hx hb dX7_watchStep_115 (by decide) ?_
                refine xeqi (y := bI (decide (abv lv ((crv (y0 wh) (g0 wh) (y wh) (q0 wh) sp) (FP.dmul k0_5 (FP.dadd ((bis (crv (y0 wh) (g0 wh) (y wh) (q0 wh) sp) lv (abv lv (y0 wh)) k).1) ((bis (crv (y0 wh) (g0 wh) (y wh) (q0 wh) sp) lv (abv lv (y0 wh)) k).2.1)))) = abv lv (y0 wh)))) (bI0 (df (fun q => c_108 (by rw [q])))) ?_
                exact K2 _ _ _ ⟨trivial, hP, hS, lv_sub hl [0, 1, 2, 3, 4, 5] rfl⟩
              ·
                refine lv_iconst (v := nI 1) hx hb dX7_watchStep_111 (by decide) ?_
                refine lv_goto (tgt := 116) hx hb dX7_watchStep_112 (by decide) ?_
                refine xeqi (y := bI (decide (abv lv ((crv (y0 wh) (g0 wh) (y wh) (q0 wh) sp) (FP.dmul k0_5 (FP.dadd ((bis (crv (y0 wh) (g0 wh) (y wh) (q0 wh) sp) lv (abv lv (y0 wh)) k).1) ((bis (crv (y0 wh) (g0 wh) (y wh) (q0 wh) sp) lv (abv lv (y0 wh)) k).2.1)))) = abv lv (y0 wh)))) (bI1 (dt (not_inj.mp (bI_inj.mp c_108)))) ?_
                exact K2 _ _ _ ⟨trivial, hP, hS, lv_sub hl [0, 1, 2, 3, 4, 5] rfl⟩
            ·
              refine lv_iconst (v := nI 1) hx hb dX7_watchStep_102 (by decide) ?_
              refine lv_goto (tgt := 107) hx hb dX7_watchStep_103 (by decide) ?_
              refine xeqi (y := bI (!abv lv ((crv (y0 wh) (g0 wh) (y wh) (q0 wh) sp) (FP.dmul k0_5 (FP.dadd ((bis (crv (y0 wh) (g0 wh) (y wh) (q0 wh) sp) lv (abv lv (y0 wh)) k).1) ((bis (crv (y0 wh) (g0 wh) (y wh) (q0 wh) sp) lv (abv lv (y0 wh)) k).2.1)))))) (bI1 (abv_lt c_98)) ?_
              refine lv_iload_n hx hb dX7_watchStep_107 rfl (lv_at hl 4 rfl) ?_
              refine lv_icmp_ne (tgt := 115) hx hb dX7_watchStep_108 (by decide) (fun c_108 => ?_) (fun c_108 => ?_)
              ·
                refine lv_iconst (v := nI 0) hx hb dX7_watchStep_115 (by decide) ?_
                refine xeqi (y := bI (decide (abv lv ((crv (y0 wh) (g0 wh) (y wh) (q0 wh) sp) (FP.dmul k0_5 (FP.dadd ((bis (crv (y0 wh) (g0 wh) (y wh) (q0 wh) sp) lv (abv lv (y0 wh)) k).1) ((bis (crv (y0 wh) (g0 wh) (y wh) (q0 wh) sp) lv (abv lv (y0 wh)) k).2.1)))) = abv lv (y0 wh)))) (bI0 (df (fun q => c_108 (by rw [q])))) ?_
                exact K2 _ _ _ ⟨trivial, hP, hS, lv_sub hl [0, 1, 2, 3, 4, 5] rfl⟩
              ·
                refine lv_iconst (v := nI 1) hx hb dX7_watchStep_111 (by decide) ?_
                refine lv_goto (tgt := 116) hx hb dX7_watchStep_112 (by decide) ?_
                refine xeqi (y := bI (decide (abv lv ((crv (y0 wh) (g0 wh) (y wh) (q0 wh) sp) (FP.dmul k0_5 (FP.dadd ((bis (crv (y0 wh) (g0 wh) (y wh) (q0 wh) sp) lv (abv lv (y0 wh)) k).1) ((bis (crv (y0 wh) (g0 wh) (y wh) (q0 wh) sp) lv (abv lv (y0 wh)) k).2.1)))) = abv lv (y0 wh)))) (bI1 (dt (not_inj.mp (bI_inj.mp c_108)))) ?_
                exact K2 _ _ _ ⟨trivial, hP, hS, lv_sub hl [0, 1, 2, 3, 4, 5] rfl⟩
        ·
          intro H locs ls ⟨x, hx0, hP, hS, hl⟩
          refine lv_iload hx hb dX7_watchStep_65 (lv_at hl 0 rfl) ?_
          refine lv_bipush (v := nI 20) hx hb dX7_watchStep_67 (by decide) ?_
          refine lv_icmp_ge (tgt := 150) hx hb dX7_watchStep_69 (by decide) (fun c_69 => ?_) (fun c_69 => absurd (nI_le (Nat.le_refl _) (by decide)) c_69)
          have hx20 := hx0 (by decide)
          subst hx20
          refine lv_aload_n hx hb dX7_watchStep_150 rfl (lv_at hl 5 rfl) ?_
          refine gX7 hx hb hg hown hI hP 0 rfl 36 rfl mF_X7_81 rfl dX7_watchStep_151 ?_
          refine lv_aload_n hx hb dX7_watchStep_154 rfl (lv_at hl 5 rfl) ?_
          refine xpc (q := 155) rfl ?_
          refine gX7 hx hb hg hown hI hP 0 rfl 35 rfl mF_X7_203 rfl dX7_watchStep_155 ?_
          refine lv_bipush (v := nI 8) hx hb dX7_watchStep_158 (by decide) ?_
          refine lv_irem hx hb dX7_watchStep_160 (by decide) ?_
          refine xeqi (y := nI (en % 8)) (pk_rem (by omega) (by decide) (by decide)) ?_
          refine lv_aload_n hx hb dX7_watchStep_161 rfl (lv_at hl 5 rfl) ?_
          refine gX7 hx hb hg hown hI hP 0 rfl 26 rfl mF_X7_181 rfl dX7_watchStep_162 ?_
          refine lv_dload hx hb dX7_watchStep_165 (lv_at hl 1 rfl) ?_
          refine lv_aload_n hx hb dX7_watchStep_167 rfl (lv_at hl 5 rfl) ?_
          refine gX7 hx hb hg hown hI hP 0 rfl 27 rfl mF_X7_184 rfl dX7_watchStep_168 ?_
          have b1 : bd 1 2 (FP.dmul ((bis (crv (y0 wh) (g0 wh) (y wh) (q0 wh) sp) lv (abv lv (y0 wh)) 20).2.2) sp) := bd_mul (bis_bd (f := (crv (y0 wh) (g0 wh) (y wh) (q0 wh) sp)) (lv := lv) (bg := abv lv (y0 wh)) 20).2.2 hsp (by decide) (by decide)
          refine lv_dmul hx hb dX7_watchStep_171 b1.nn ?_
          have b2 : bd 1 17 (FP.dadd tz (FP.dmul ((bis (crv (y0 wh) (g0 wh) (y wh) (q0 wh) sp) lv (abv lv (y0 wh)) 20).2.2) sp)) := bd_add ht0 b1 (by decide) (by decide) (by decide)
          refine lv_dadd hx hb dX7_watchStep_172 b2.nn ?_
          refine xdast hx hb hI hP hd rfl hS 5 0 rfl rfl (Nat.mod_lt _ (by decide)) (by decide) (pmS pm0) dX7_watchStep_173 (fun H locs hP hS => ?_)
          have hP : va_P D vwCl [(A 0, mO A th (nI (sn σ)) (nI (sc σ)) t sh tl er fl kp ks tk tz sp (nI wh) lv dn rf (nI en)), (A 5, dA cD 3 y), (A 16, dA cD 3 y0), (A 17, dA cD 3 g0), (A 18, dA cD 3 q0), (A 19, dA cD 8 (vf_upd tm (en % 8) (FP.dadd tz (FP.dmul ((bis (crv (y0 wh) (g0 wh) (y wh) (q0 wh) sp) lv (abv lv (y0 wh)) 20).2.2) sp))))] H := hP
          refine lv_aload_n hx hb dX7_watchStep_174 rfl (lv_at hl 5 rfl) ?_
          refine lv_dup hx hb dX7_watchStep_175 rfl ?_
          refine gX7 hx hb hg hown hI hP 0 rfl 35 rfl mF_X7_203 rfl dX7_watchStep_176 ?_
          refine lv_iconst (v := nI 1) hx hb dX7_watchStep_179 (by decide) ?_
          refine xpc (q := 180) rfl ?_
          refine lv_iadd hx hb dX7_watchStep_180 ?_
          refine xeqi (y := nI (en + 1)) (nI_add en 1) ?_
          refine pX7 hx hb hg hown hI hP hd rfl hS 0 rfl 35 rfl mF_X7_203 rfl rfl rfl (Nat.le_of_ble_eq_true rfl) pm0 dX7_watchStep_181 (fun H locs hP hS => ?_)
          have hP : va_P D vwCl [(A 0, mO A th (nI (sn σ)) (nI (sc σ)) t sh tl er fl kp ks tk tz sp (nI wh) lv dn rf (nI (en + 1))), (A 5, dA cD 3 y), (A 16, dA cD 3 y0), (A 17, dA cD 3 g0), (A 18, dA cD 3 q0), (A 19, dA cD 8 (vf_upd tm (en % 8) (FP.dadd tz (FP.dmul ((bis (crv (y0 wh) (g0 wh) (y wh) (q0 wh) sp) lv (abv lv (y0 wh)) 20).2.2) sp))))] H := hP
          exact W.vret hx hb hr (fun tS hTS hWS => ⟨(), rfl, trivial, by rw [hTS]; exact hP.sub [0, 5] rfl, hS.F hTS⟩) hS.2.2 dX7_watchStep_184
      ·
        have hfi : fire true lv (y0 wh) (y wh) = false := fire_f (not_inj.mp (bI_inj.mp c_50))
        have e1 : lookT true lv (y0 wh) (g0 wh) (y wh) (q0 wh) sp tz en tm = tm := by unfold lookT; rw [hfi]; rfl
        have e2 : lookN true lv (y0 wh) (y wh) en = en := by unfold lookN; rw [hfi]; rfl
        rw [e1, e2]
        exact W.vret hx hb hr (fun tS hTS hWS => ⟨(), rfl, trivial, by rw [hTS]; exact hP.sub [0, 5] rfl, hS.F hTS⟩) hS.2.2 dX7_watchStep_53
    ·
      refine lv_aload_n hx hb dX7_watchStep_26 rfl (lv_at hl 1 rfl) ?_
      refine gX7 hx hb hg hown hI hP 0 rfl 10 rfl mF_X7_36 rfl dX7_watchStep_27 ?_
      refine lv_aload_n hx hb dX7_watchStep_30 rfl (lv_at hl 1 rfl) ?_
      refine gX7 hx hb hg hown hI hP 0 rfl 31 rfl mF_X7_78 rfl dX7_watchStep_31 ?_
      refine xdald hx hb hI hP 1 0 rfl rfl hwh (by decide) dX7_watchStep_34 ?_
      refine lv_aload_n hx hb dX7_watchStep_35 rfl (lv_at hl 1 rfl) ?_
      refine gX7 hx hb hg hown hI hP 0 rfl 32 rfl mF_X7_196 rfl dX7_watchStep_36 ?_
      refine lv_dsub hx hb dX7_watchStep_39 (fin.nn hf2) ?_
      refine lv_dconst0 hx hb dX7_watchStep_40 ?_
      refine xg_ge (tgt := 49) hx hb dX7_watchStep_41 dX7_watchStep_42 (by decide) (fun c_41 => ?_) (fun c_41 => ?_)
      ·
        refine lv_iconst (v := nI 0) hx hb dX7_watchStep_49 (by decide) ?_
        refine xeqi (y := bI (!abv lv (y wh))) (bI0 (abv_ge c_41)) ?_
        exact K1 _ _ _ ⟨trivial, hP, hS, lv_sub hl [0, 1] rfl⟩
      ·
        refine lv_iconst (v := nI 1) hx hb dX7_watchStep_45 (by decide) ?_
        refine lv_goto (tgt := 50) hx hb dX7_watchStep_46 (by decide) ?_
        refine xeqi (y := bI (!abv lv (y wh))) (bI1 (abv_lt c_41)) ?_
        exact K1 _ _ _ ⟨trivial, hP, hS, lv_sub hl [0, 1] rfl⟩
  ·
    refine lv_aload_n hx hb dX7_watchStep_0 rfl (lv_at hl 0 rfl) ?_
    refine gX7 hx hb hg hown hI hP 0 rfl 28 rfl mF_X7_69 rfl dX7_watchStep_1 ?_
    refine lv_aload_n hx hb dX7_watchStep_4 rfl (lv_at hl 0 rfl) ?_
    refine gX7 hx hb hg hown hI hP 0 rfl 31 rfl mF_X7_78 rfl dX7_watchStep_5 ?_
    refine xdald hx hb hI hP 2 0 rfl rfl hwh (by decide) dX7_watchStep_8 ?_
    refine lv_aload_n hx hb dX7_watchStep_9 rfl (lv_at hl 0 rfl) ?_
    refine gX7 hx hb hg hown hI hP 0 rfl 32 rfl mF_X7_196 rfl dX7_watchStep_10 ?_
    refine lv_dsub hx hb dX7_watchStep_13 (fin.nn hf1) ?_
    refine lv_dconst0 hx hb dX7_watchStep_14 ?_
    refine xg_ge (tgt := 23) hx hb dX7_watchStep_15 dX7_watchStep_16 (by decide) (fun c_15 => ?_) (fun c_15 => ?_)
    ·
      refine lv_iconst (v := nI 0) hx hb dX7_watchStep_23 (by decide) ?_
      refine xeqi (y := bI (!abv lv (y0 wh))) (bI0 (abv_ge c_15)) ?_
      exact K0 _ _ _ ⟨trivial, hP, hS, lv_sub hl [0] rfl⟩
    ·
      refine lv_iconst (v := nI 1) hx hb dX7_watchStep_19 (by decide) ?_
      refine lv_goto (tgt := 24) hx hb dX7_watchStep_20 (by decide) ?_
      refine xeqi (y := bI (!abv lv (y0 wh))) (bI1 (abv_lt c_15)) ?_
      exact K0 _ _ _ ⟨trivial, hP, hS, lv_sub hl [0] rfl⟩
