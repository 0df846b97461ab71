set_option maxHeartbeats 4000000 in
set_option maxRecDepth 100000 in
theorem r_tried (l : Launch) (D : va_G) (cD cI cM cL : ClassId) (A : Nat → Nat) (σ : Sys) (th : Int32) (t sh tl er : UInt64) (fl : Int32) (go : Bool) (ks : UInt64) (tk : Int32) (tz sp : UInt64) (wd : Int32) (lv : UInt64) (dn rf ev : Int32) (y g : Nat → UInt64) (v : Nat → Nat → UInt64) (r : UInt64) (mm : Nat) (o : Option (Nat → UInt64)) (hk : okst σ t y r) (hgb : (go && decide (deq ks r)) = true → ∀ i, i < sn σ → bd 1 50 (g i)) (hmm : mm ≤ 5) (ho : stepR σ t y r g (go && decide (deq ks r)) mm = o) : Met l yX7_tried (Cond.code yX7_tried cX7_tried 5 (some .boolean) :: lw_good) { frames := 4, cells := 0, slots := 0, locals := 97 } (xPc D (tyL cD cI cM cL) [.ref (A 0), .int (nI mm), .double r] [(A 0, mO A th (nI (sn σ)) (nI (sc σ)) t sh tl er fl (bI go) ks tk tz sp wd lv dn rf ev), (A 1, iA cI 10 (so σ)), (A 2, iA cI 10 (sl σ)), (A 3, iA cI 10 (sr σ)), (A 4, dA cD 10 (sk σ)), (A 5, dA cD 3 y), (A 6, dA cD 3 (v 0)), (A 7, dA cD 3 (v 1)), (A 8, dA cD 3 (v 2)), (A 9, dA cD 3 (v 3)), (A 10, dA cD 3 (v 4)), (A 11, dA cD 3 (v 5)), (A 12, dA cD 3 (v 6)), (A 13, dA cD 9 (v 7)), (A 14, dA cD 3 g), (A 15, dA cD 3 (v 9))]) (xQ D [A 0, A 6, A 7, A 8, A 9, A 10, A 11, A 12, A 13, A 14, A 15] (fun (u : Nat → Nat → UInt64) => some (.int (bI o.isSome))) (fun (u : Nat → Nat → UInt64) => ∀ z, o = some z → agV (sn σ) (u 0) z) (fun (u : Nat → Nat → UInt64) => [(A 0, mO A th (nI (sn σ)) (nI (sc σ)) t sh tl (if mm = 2 then mxv (pae σ t y r) (sn σ) else FP.dconst0) (bI (o).isNone) (bI ((o).isSome && decide (mm = 3))) (if mm = 3 then r else ks) tk tz sp wd lv dn (if (o).isSome then rf else rf + nI 1) ev), (A 6, dA cD 3 (u 0)), (A 7, dA cD 3 (u 1)), (A 8, dA cD 3 (u 2)), (A 9, dA cD 3 (u 3)), (A 10, dA cD 3 (u 4)), (A 11, dA cD 3 (u 5)), (A 12, dA cD 3 (u 6)), (A 13, dA cD 9 (u 7)), (A 14, dA cD 3 (if mm = 3 then mix (sn σ) (fs σ t y) g else g)), (A 15, dA cD 3 (u 9))])) 0 0 (fun q => q ∈ ([A 0, A 6, A 7, A 8, A 9, A 10, A 11, A 12, A 13, A 14, A 15] : List Nat)) := by
  refine xofW (adr := [A 0, A 6, A 7, A 8, A 9, A 10, A 11, A 12, A 13, A 14, A 15]) (by decide) (Nat.le_of_ble_eq_true rfl) ?_
  intro p e s m below meth c ls hx hb hr hml hg hown hlk hI hP hd hS hl
  have hown : s.vm.findClass RX7 = some m.cls := hown
  have hd : dj [A 0, A 1, A 2, A 3, A 4, A 5, A 6, A 7, A 8, A 9, A 10, A 11, A 12, A 13, A 14, A 15] := hd
  have hl : lv_has ls 5 [(0, .ref (A 0)), (1, .int (nI mm)), (2, .double r)] := hl
  subst ho
  have hn : sn σ ≤ 3 := hk.1.2.1
  refine lv_aload_n hx hb dX7_tried_0 rfl (lv_at hl 0 rfl) ?_
  refine lv_iconst (v := nI 0) hx hb dX7_tried_1 (by decide) ?_
  refine pX7 hx hb hg hown hI hP hd rfl hS 0 rfl 13 rfl mF_X7_149 rfl (by decide) (by decide) (Nat.le_of_ble_eq_true rfl) pm0 dX7_tried_2 (fun H locs hP hS => ?_)
  have hP : va_P D vwCl [(A 0, mO A th (nI (sn σ)) (nI (sc σ)) t sh tl er (nI 0) (bI go) ks tk tz sp wd lv dn rf ev), (A 1, iA cI 10 (so σ)), (A 2, iA cI 10 (sl σ)), (A 3, iA cI 10 (sr σ)), (A 4, dA cD 10 (sk σ)), (A 5, dA cD 3 y), (A 6, dA cD 3 (v 0)), (A 7, dA cD 3 (v 1)), (A 8, dA cD 3 (v 2)), (A 9, dA cD 3 (v 3)), (A 10, dA cD 3 (v 4)), (A 11, dA cD 3 (v 5)), (A 12, dA cD 3 (v 6)), (A 13, dA cD 9 (v 7)), (A 14, dA cD 3 g), (A 15, dA cD 3 (v 9))] H := hP
  refine lv_aload_n hx hb dX7_tried_5 rfl (lv_at hl 0 rfl) ?_
  refine lv_dconst0 hx hb dX7_tried_6 ?_
  refine pX7 hx hb hg hown hI hP hd rfl hS 0 rfl 12 rfl mF_X7_133 rfl rfl rfl (Nat.le_of_ble_eq_true rfl) pm0 dX7_tried_7 (fun H locs hP hS => ?_)
  have hP : va_P D vwCl [(A 0, mO A th (nI (sn σ)) (nI (sc σ)) t sh tl FP.dconst0 (nI 0) (bI go) ks tk tz sp wd lv dn rf ev), (A 1, iA cI 10 (so σ)), (A 2, iA cI 10 (sl σ)), (A 3, iA cI 10 (sr σ)), (A 4, dA cD 10 (sk σ)), (A 5, dA cD 3 y), (A 6, dA cD 3 (v 0)), (A 7, dA cD 3 (v 1)), (A 8, dA cD 3 (v 2)), (A 9, dA cD 3 (v 3)), (A 10, dA cD 3 (v 4)), (A 11, dA cD 3 (v 5)), (A 12, dA cD 3 (v 6)), (A 13, dA cD 9 (v 7)), (A 14, dA cD 3 g), (A 15, dA cD 3 (v 9))] H := hP
  refine xcut (I := fun H locs ls => (True) ∧ va_P D vwCl [(A 0, mO A th (nI (sn σ)) (nI (sc σ)) t sh tl FP.dconst0 (nI 0) (bI go) ks tk tz sp wd lv dn rf ev), (A 1, iA cI 10 (so σ)), (A 2, iA cI 10 (sl σ)), (A 3, iA cI 10 (sr σ)), (A 4, dA cD 10 (sk σ)), (A 5, dA cD 3 y), (A 6, dA cD 3 (v 0)), (A 7, dA cD 3 (v 1)), (A 8, dA cD 3 (v 2)), (A 9, dA cD 3 (v 3)), (A 10, dA cD 3 (v 4)), (A 11, dA cD 3 (v 5)), (A 12, dA cD 3 (v 6)), (A 13, dA cD 9 (v 7)), (A 14, dA cD 3 g), (A 15, dA cD 3 (v 9))] H ∧ va_S (fun q => q ∈ ([A 0, A 6, A 7, A 8, A 9, A 10, A 11, A 12, A 13, A 14, A 15] : List Nat)) s.heap H locs ∧ lv_has ls 5 [(0, .ref (A 0)), (1, .int (nI mm)), (2, .double r)]) (pc2 := 28) (rest2 := [.int (bI (go && decide (mm = 3))), .ref (A 0)]) (fun H locs ls hh => ?_) (fun K0 => ?_)
  ·
    obtain ⟨_h0, hP, hS, hl⟩ := hh
    refine pX7 hx hb hg hown hI hP hd rfl hS 0 rfl 21 rfl mF_X7_136 rfl (bI_n _) (bI_f _) (Nat.le_of_ble_eq_true rfl) pm0 dX7_tried_28 (fun H locs hP hS => ?_)
    have hP : va_P D vwCl [(A 0, mO A th (nI (sn σ)) (nI (sc σ)) t sh tl FP.dconst0 (nI 0) (bI (go && decide (mm = 3))) ks tk tz sp wd lv dn rf ev), (A 1, iA cI 10 (so σ)), (A 2, iA cI 10 (sl σ)), (A 3, iA cI 10 (sr σ)), (A 4, dA cD 10 (sk σ)), (A 5, dA cD 3 y), (A 6, dA cD 3 (v 0)), (A 7, dA cD 3 (v 1)), (A 8, dA cD 3 (v 2)), (A 9, dA cD 3 (v 3)), (A 10, dA cD 3 (v 4)), (A 11, dA cD 3 (v 5)), (A 12, dA cD 3 (v 6)), (A 13, dA cD 9 (v 7)), (A 14, dA cD 3 g), (A 15, dA cD 3 (v 9))] H := hP
    refine xcut (I := fun H locs ls => ∃ (u : Nat → Nat → UInt64) (fb : Bool) (kb : Bool), (fb = (stepZ σ t y r g (go && decide (deq ks r)) mm).isNone) ∧ (∀ z, stepZ σ t y r g (go && decide (deq ks r)) mm = some z → agV (sn σ) (u 0) z) ∧ (True) ∧ va_P D vwCl [(A 0, mO A th (nI (sn σ)) (nI (sc σ)) t sh tl (if mm = 2 then mxv (pae σ t y r) (sn σ) else FP.dconst0) (bI fb) (bI kb) (if mm = 3 then r else ks) tk tz sp wd lv dn rf ev), (A 1, iA cI 10 (so σ)), (A 2, iA cI 10 (sl σ)), (A 3, iA cI 10 (sr σ)), (A 4, dA cD 10 (sk σ)), (A 5, dA cD 3 y), (A 6, dA cD 3 (u 0)), (A 7, dA cD 3 (u 1)), (A 8, dA cD 3 (u 2)), (A 9, dA cD 3 (u 3)), (A 10, dA cD 3 (u 4)), (A 11, dA cD 3 (u 5)), (A 12, dA cD 3 (u 6)), (A 13, dA cD 9 (u 7)), (A 14, dA cD 3 (if mm = 3 then mix (sn σ) (fs σ t y) g else g)), (A 15, dA cD 3 (u 9))] H ∧ va_S (fun q => q ∈ ([A 0, A 6, A 7, A 8, A 9, A 10, A 11, A 12, A 13, A 14, A 15] : List Nat)) s.heap H locs ∧ lv_has ls 5 [(0, .ref (A 0)), (1, .int (nI mm)), (2, .double r)]) (pc2 := 195) (rest2 := []) (fun H locs ls hh => ?_) (fun K1 => ?_)
    ·
      obtain ⟨u, fb, kb, hfb, hag, _hkb, hP, hS, hl⟩ := hh
      refine lv_aload_n hx hb dX7_tried_195 rfl (lv_at hl 0 rfl) ?_
      refine lv_aload_n hx hb dX7_tried_196 rfl (lv_at hl 0 rfl) ?_
      refine gX7 hx hb hg hown hI hP 0 rfl 13 rfl mF_X7_149 rfl dX7_tried_197 ?_
      refine lv_if_ne (tgt := 218) hx hb dX7_tried_200 (by decide) (fun c_200 => ?_) (fun c_200 => ?_)
      ·
        have hno : stepZ σ t y r g (go && decide (deq ks r)) mm = none := Option.isNone_iff_eq_none.mp (hfb ▸ bI_ne0.mp c_200)
        have hi0 : stepR σ t y r g (go && decide (deq ks r)) mm = none := by unfold stepR; rw [hno]
        refine lv_iconst (v := nI 1) hx hb dX7_tried_218 (by decide) ?_
        refine lv_goto (tgt := 223) hx hb dX7_tried_219 (by decide) ?_
        refine pX7 hx hb hg hown hI hP hd rfl hS 0 rfl 13 rfl mF_X7_149 rfl (by decide) (by decide) (Nat.le_of_ble_eq_true rfl) pm0 dX7_tried_223 (fun H locs hP hS => ?_)
        have hP : va_P D vwCl [(A 0, mO A th (nI (sn σ)) (nI (sc σ)) t sh tl (if mm = 2 then mxv (pae σ t y r) (sn σ) else FP.dconst0) (nI 1) (bI kb) (if mm = 3 then r else ks) tk tz sp wd lv dn rf ev), (A 1, iA cI 10 (so σ)), (A 2, iA cI 10 (sl σ)), (A 3, iA cI 10 (sr σ)), (A 4, dA cD 10 (sk σ)), (A 5, dA cD 3 y), (A 6, dA cD 3 (u 0)), (A 7, dA cD 3 (u 1)), (A 8, dA cD 3 (u 2)), (A 9, dA cD 3 (u 3)), (A 10, dA cD 3 (u 4)), (A 11, dA cD 3 (u 5)), (A 12, dA cD 3 (u 6)), (A 13, dA cD 9 (u 7)), (A 14, dA cD 3 (if mm = 3 then mix (sn σ) (fs σ t y) g else g)), (A 15, dA cD 3 (u 9))] H := hP
        refine lv_aload_n hx hb dX7_tried_226 rfl (lv_at hl 0 rfl) ?_
        refine lv_iload_n hx hb dX7_tried_227 rfl (lv_at hl 1 rfl) ?_
        refine lv_iconst (v := nI 3) hx hb dX7_tried_228 (by decide) ?_
        refine lv_icmp_ne (tgt := 243) hx hb dX7_tried_229 (by decide) (fun c_229 => ?_) (fun c_229 => ?_)
        ·
          refine lv_iconst (v := nI 0) hx hb dX7_tried_243 (by decide) ?_
          refine pX7 hx hb hg hown hI hP hd rfl hS 0 rfl 21 rfl mF_X7_136 rfl (by decide) (by decide) (Nat.le_of_ble_eq_true rfl) pm0 dX7_tried_244 (fun H locs hP hS => ?_)
          have hP : va_P D vwCl [(A 0, mO A th (nI (sn σ)) (nI (sc σ)) t sh tl (if mm = 2 then mxv (pae σ t y r) (sn σ) else FP.dconst0) (nI 1) (nI 0) (if mm = 3 then r else ks) tk tz sp wd lv dn rf ev), (A 1, iA cI 10 (so σ)), (A 2, iA cI 10 (sl σ)), (A 3, iA cI 10 (sr σ)), (A 4, dA cD 10 (sk σ)), (A 5, dA cD 3 y), (A 6, dA cD 3 (u 0)), (A 7, dA cD 3 (u 1)), (A 8, dA cD 3 (u 2)), (A 9, dA cD 3 (u 3)), (A 10, dA cD 3 (u 4)), (A 11, dA cD 3 (u 5)), (A 12, dA cD 3 (u 6)), (A 13, dA cD 9 (u 7)), (A 14, dA cD 3 (if mm = 3 then mix (sn σ) (fs σ t y) g else g)), (A 15, dA cD 3 (u 9))] H := hP
          refine lv_aload_n hx hb dX7_tried_247 rfl (lv_at hl 0 rfl) ?_
          refine gX7 hx hb hg hown hI hP 0 rfl 13 rfl mF_X7_149 rfl dX7_tried_248 ?_
          refine lv_if_eq (tgt := 264) hx hb dX7_tried_251 (by decide) (fun c_251 => absurd c_251 (by decide)) (fun c_251 => ?_)
          refine lv_aload_n hx hb dX7_tried_254 rfl (lv_at hl 0 rfl) ?_
          refine lv_dup hx hb dX7_tried_255 rfl ?_
          refine gX7 hx hb hg hown hI hP 0 rfl 34 rfl mF_X7_178 rfl dX7_tried_256 ?_
          refine lv_iconst (v := nI 1) hx hb dX7_tried_259 (by decide) ?_
          refine lv_iadd hx hb dX7_tried_260 ?_
          refine pX7 hx hb hg hown hI hP hd rfl hS 0 rfl 34 rfl mF_X7_178 rfl rfl rfl (Nat.le_of_ble_eq_true rfl) pm0 dX7_tried_261 (fun H locs hP hS => ?_)
          have hP : va_P D vwCl [(A 0, mO A th (nI (sn σ)) (nI (sc σ)) t sh tl (if mm = 2 then mxv (pae σ t y r) (sn σ) else FP.dconst0) (nI 1) (nI 0) (if mm = 3 then r else ks) tk tz sp wd lv dn (rf + (nI 1)) ev), (A 1, iA cI 10 (so σ)), (A 2, iA cI 10 (sl σ)), (A 3, iA cI 10 (sr σ)), (A 4, dA cD 10 (sk σ)), (A 5, dA cD 3 y), (A 6, dA cD 3 (u 0)), (A 7, dA cD 3 (u 1)), (A 8, dA cD 3 (u 2)), (A 9, dA cD 3 (u 3)), (A 10, dA cD 3 (u 4)), (A 11, dA cD 3 (u 5)), (A 12, dA cD 3 (u 6)), (A 13, dA cD 9 (u 7)), (A 14, dA cD 3 (if mm = 3 then mix (sn σ) (fs σ t y) g else g)), (A 15, dA cD 3 (u 9))] H := hP
          refine lv_aload_n hx hb dX7_tried_264 rfl (lv_at hl 0 rfl) ?_
          refine gX7 hx hb hg hown hI hP 0 rfl 13 rfl mF_X7_149 rfl dX7_tried_265 ?_
          refine lv_if_ne (tgt := 275) hx hb dX7_tried_268 (by decide) (fun c_268 => ?_) (fun c_268 => absurd c_268 (by decide))
          refine lv_iconst (v := nI 0) hx hb dX7_tried_275 (by decide) ?_
          have hP : va_P D vwCl [(A 0, mO A th (nI (sn σ)) (nI (sc σ)) t sh tl (if mm = 2 then mxv (pae σ t y r) (sn σ) else FP.dconst0) (bI (stepR σ t y r g (go && decide (deq ks r)) mm).isNone) (bI ((stepR σ t y r g (go && decide (deq ks r)) mm).isSome && decide (mm = 3))) (if mm = 3 then r else ks) tk tz sp wd lv dn (if (stepR σ t y r g (go && decide (deq ks r)) mm).isSome then rf else rf + nI 1) ev), (A 1, iA cI 10 (so σ)), (A 2, iA cI 10 (sl σ)), (A 3, iA cI 10 (sr σ)), (A 4, dA cD 10 (sk σ)), (A 5, dA cD 3 y), (A 6, dA cD 3 (u 0)), (A 7, dA cD 3 (u 1)), (A 8, dA cD 3 (u 2)), (A 9, dA cD 3 (u 3)), (A 10, dA cD 3 (u 4)), (A 11, dA cD 3 (u 5)), (A 12, dA cD 3 (u 6)), (A 13, dA cD 9 (u 7)), (A 14, dA cD 3 (if mm = 3 then mix (sn σ) (fs σ t y) g else g)), (A 15, dA cD 3 (u 9))] H := by rw [hi0]; exact hP
          refine xeqi (y := bI (stepR σ t y r g (go && decide (deq ks r)) mm).isSome) (bI0 (by rw [hi0]; rfl)) ?_
          exact W.zret hx hb hr (bI_n _) (fun tS hTS hWS => ⟨u, rfl, (fun z' hz' => by rw [hi0] at hz'; cases hz'), by rw [hTS]; exact hP.sub [0, 6, 7, 8, 9, 10, 11, 12, 13, 14, 15] rfl, hS.F hTS⟩) hS.2.2 dX7_tried_276
        ·
          refine lv_aload_n hx hb dX7_tried_232 rfl (lv_at hl 0 rfl) ?_
          refine gX7 hx hb hg hown hI hP 0 rfl 13 rfl mF_X7_149 rfl dX7_tried_233 ?_
          refine lv_if_ne (tgt := 243) hx hb dX7_tried_236 (by decide) (fun c_236 => ?_) (fun c_236 => absurd c_236 (by decide))
          refine lv_iconst (v := nI 0) hx hb dX7_tried_243 (by decide) ?_
          refine pX7 hx hb hg hown hI hP hd rfl hS 0 rfl 21 rfl mF_X7_136 rfl (by decide) (by decide) (Nat.le_of_ble_eq_true rfl) pm0 dX7_tried_244 (fun H locs hP hS => ?_)
          have hP : va_P D vwCl [(A 0, mO A th (nI (sn σ)) (nI (sc σ)) t sh tl (if mm = 2 then mxv (pae σ t y r) (sn σ) else FP.dconst0) (nI 1) (nI 0) (if mm = 3 then r else ks) tk tz sp wd lv dn rf ev), (A 1, iA cI 10 (so σ)), (A 2, iA cI 10 (sl σ)), (A 3, iA cI 10 (sr σ)), (A 4, dA cD 10 (sk σ)), (A 5, dA cD 3 y), (A 6, dA cD 3 (u 0)), (A 7, dA cD 3 (u 1)), (A 8, dA cD 3 (u 2)), (A 9, dA cD 3 (u 3)), (A 10, dA cD 3 (u 4)), (A 11, dA cD 3 (u 5)), (A 12, dA cD 3 (u 6)), (A 13, dA cD 9 (u 7)), (A 14, dA cD 3 (if mm = 3 then mix (sn σ) (fs σ t y) g else g)), (A 15, dA cD 3 (u 9))] H := hP
          refine lv_aload_n hx hb dX7_tried_247 rfl (lv_at hl 0 rfl) ?_
          refine gX7 hx hb hg hown hI hP 0 rfl 13 rfl mF_X7_149 rfl dX7_tried_248 ?_
          refine lv_if_eq (tgt := 264) hx hb dX7_tried_251 (by decide) (fun c_251 => absurd c_251 (by decide)) (fun c_251 => ?_)
          refine lv_aload_n hx hb dX7_tried_254 rfl (lv_at hl 0 rfl) ?_
          refine xpc (q := 255) rfl ?_
          refine lv_dup hx hb dX7_tried_255 rfl ?_
          refine gX7 hx hb hg hown hI hP 0 rfl 34 rfl mF_X7_178 rfl dX7_tried_256 ?_
          refine lv_iconst (v := nI 1) hx hb dX7_tried_259 (by decide) ?_
          refine lv_iadd hx hb dX7_tried_260 ?_
          refine pX7 hx hb hg hown hI hP hd rfl hS 0 rfl 34 rfl mF_X7_178 rfl rfl rfl (Nat.le_of_ble_eq_true rfl) pm0 dX7_tried_261 (fun H locs hP hS => ?_)
          have hP : va_P D vwCl [(A 0, mO A th (nI (sn σ)) (nI (sc σ)) t sh tl (if mm = 2 then mxv (pae σ t y r) (sn σ) else FP.dconst0) (nI 1) (nI 0) (if mm = 3 then r else ks) tk tz sp wd lv dn (rf + (nI 1)) ev), (A 1, iA cI 10 (so σ)), (A 2, iA cI 10 (sl σ)), (A 3, iA cI 10 (sr σ)), (A 4, dA cD 10 (sk σ)), (A 5, dA cD 3 y), (A 6, dA cD 3 (u 0)), (A 7, dA cD 3 (u 1)), (A 8, dA cD 3 (u 2)), (A 9, dA cD 3 (u 3)), (A 10, dA cD 3 (u 4)), (A 11, dA cD 3 (u 5)), (A 12, dA cD 3 (u 6)), (A 13, dA cD 9 (u 7)), (A 14, dA cD 3 (if mm = 3 then mix (sn σ) (fs σ t y) g else g)), (A 15, dA cD 3 (u 9))] H := hP
          refine lv_aload_n hx hb dX7_tried_264 rfl (lv_at hl 0 rfl) ?_
          refine gX7 hx hb hg hown hI hP 0 rfl 13 rfl mF_X7_149 rfl dX7_tried_265 ?_
          refine lv_if_ne (tgt := 275) hx hb dX7_tried_268 (by decide) (fun c_268 => ?_) (fun c_268 => absurd c_268 (by decide))
          refine lv_iconst (v := nI 0) hx hb dX7_tried_275 (by decide) ?_
          have hP : va_P D vwCl [(A 0, mO A th (nI (sn σ)) (nI (sc σ)) t sh tl (if mm = 2 then mxv (pae σ t y r) (sn σ) else FP.dconst0) (bI (stepR σ t y r g (go && decide (deq ks r)) mm).isNone) (bI ((stepR σ t y r g (go && decide (deq ks r)) mm).isSome && decide (mm = 3))) (if mm = 3 then r else ks) tk tz sp wd lv dn (if (stepR σ t y r g (go && decide (deq ks r)) mm).isSome then rf else rf + nI 1) ev), (A 1, iA cI 10 (so σ)), (A 2, iA cI 10 (sl σ)), (A 3, iA cI 10 (sr σ)), (A 4, dA cD 10 (sk σ)), (A 5, dA cD 3 y), (A 6, dA cD 3 (u 0)), (A 7, dA cD 3 (u 1)), (A 8, dA cD 3 (u 2)), (A 9, dA cD 3 (u 3)), (A 10, dA cD 3 (u 4)), (A 11, dA cD 3 (u 5)), (A 12, dA cD 3 (u 6)), (A 13, dA cD 9 (u 7)), (A 14, dA cD 3 (if mm = 3 then mix (sn σ) (fs σ t y) g else g)), (A 15, dA cD 3 (u 9))] H := by rw [hi0]; exact hP
          refine xeqi (y := bI (stepR σ t y r g (go && decide (deq ks r)) mm).isSome) (bI0 (by rw [hi0]; rfl)) ?_
          exact W.zret hx hb hr (bI_n _) (fun tS hTS hWS => ⟨u, rfl, (fun z' hz' => by rw [hi0] at hz'; cases hz'), by rw [hTS]; exact hP.sub [0, 6, 7, 8, 9, 10, 11, 12, 13, 14, 15] rfl, hS.F hTS⟩) hS.2.2 dX7_tried_276
      ·
        obtain ⟨z, hz⟩ : ∃ z, stepZ σ t y r g (go && decide (deq ks r)) mm = some z := by have h0 : (stepZ σ t y r g (go && decide (deq ks r)) mm).isNone = false := hfb ▸ bI_eq0.mp c_200; cases h : stepZ σ t y r g (go && decide (deq ks r)) mm with | some z => exact ⟨z, rfl⟩ | none => rw [h] at h0; cases h0
        have hza := hag z hz
        refine lv_aload_n hx hb dX7_tried_203 rfl (lv_at hl 0 rfl) ?_
        refine lv_aload_n hx hb dX7_tried_204 rfl (lv_at hl 0 rfl) ?_
        refine gX7 hx hb hg hown hI hP 0 rfl 11 rfl mF_X7_39 rfl dX7_tried_205 ?_
        refine xcd (xV (As := [.ref (A 6)]) (rest := [.ref (A 0)]) hx hb hml hown hg (r_max l D cD cI cM cL A σ th t sh tl (if mm = 2 then mxv (pae σ t y r) (sn σ) else FP.dconst0) (bI fb) (bI kb) (if mm = 3 then r else ks) tk tz sp wd lv dn rf ev (A 6) (u 0) hn) mM_X7_129 ok_X7_max rfl rfl ⟨Nat.le_of_ble_eq_true rfl, Nat.le_of_ble_eq_true rfl⟩ hI hP hd rfl [0, 6] rfl rfl rfl rfl rfl hl.1 rfl (Nat.le_of_ble_eq_true rfl) dX7_tried_208 ⟨Nat.zero_le _, Nat.zero_le _⟩) hP hd hS fa0 [] rfl rfl (fun _ => rfl) (fun _u H locs hu hP hS => ?_)
        have hP : va_P D vwCl [(A 0, mO A th (nI (sn σ)) (nI (sc σ)) t sh tl (if mm = 2 then mxv (pae σ t y r) (sn σ) else FP.dconst0) (bI fb) (bI kb) (if mm = 3 then r else ks) tk tz sp wd lv dn rf ev), (A 1, iA cI 10 (so σ)), (A 2, iA cI 10 (sl σ)), (A 3, iA cI 10 (sr σ)), (A 4, dA cD 10 (sk σ)), (A 5, dA cD 3 y), (A 6, dA cD 3 (u 0)), (A 7, dA cD 3 (u 1)), (A 8, dA cD 3 (u 2)), (A 9, dA cD 3 (u 3)), (A 10, dA cD 3 (u 4)), (A 11, dA cD 3 (u 5)), (A 12, dA cD 3 (u 6)), (A 13, dA cD 9 (u 7)), (A 14, dA cD 3 (if mm = 3 then mix (sn σ) (fs σ t y) g else g)), (A 15, dA cD 3 (u 9))] H := hP
        refine xeqd (y := mxv z (sn σ)) (mxv_ag hza _ (Nat.le_refl _)) ?_
        refine xpc (q := 211) rfl ?_
        refine lv_ldc2d (v := k1000000) hx hb hown (hg _ mD_X7_176) dX7_tried_211 ?_
        refine xl_le (tgt := 222) hx hb dX7_tried_214 dX7_tried_215 (by decide) (fun c_214 => ?_) (fun c_214 => ?_)
        ·
          have hi0 : stepR σ t y r g (go && decide (deq ks r)) mm = some z := by unfold stepR; rw [hz]; exact if_neg c_214
          refine lv_iconst (v := nI 0) hx hb dX7_tried_222 (by decide) ?_
          refine pX7 hx hb hg hown hI hP hd rfl hS 0 rfl 13 rfl mF_X7_149 rfl (by decide) (by decide) (Nat.le_of_ble_eq_true rfl) pm0 dX7_tried_223 (fun H locs hP hS => ?_)
          have hP : va_P D vwCl [(A 0, mO A th (nI (sn σ)) (nI (sc σ)) t sh tl (if mm = 2 then mxv (pae σ t y r) (sn σ) else FP.dconst0) (nI 0) (bI kb) (if mm = 3 then r else ks) tk tz sp wd lv dn rf ev), (A 1, iA cI 10 (so σ)), (A 2, iA cI 10 (sl σ)), (A 3, iA cI 10 (sr σ)), (A 4, dA cD 10 (sk σ)), (A 5, dA cD 3 y), (A 6, dA cD 3 (u 0)), (A 7, dA cD 3 (u 1)), (A 8, dA cD 3 (u 2)), (A 9, dA cD 3 (u 3)), (A 10, dA cD 3 (u 4)), (A 11, dA cD 3 (u 5)), (A 12, dA cD 3 (u 6)), (A 13, dA cD 9 (u 7)), (A 14, dA cD 3 (if mm = 3 then mix (sn σ) (fs σ t y) g else g)), (A 15, dA cD 3 (u 9))] H := hP
          refine lv_aload_n hx hb dX7_tried_226 rfl (lv_at hl 0 rfl) ?_
          refine lv_iload_n hx hb dX7_tried_227 rfl (lv_at hl 1 rfl) ?_
          refine lv_iconst (v := nI 3) hx hb dX7_tried_228 (by decide) ?_
          refine lv_icmp_ne (tgt := 243) hx hb dX7_tried_229 (by decide) (fun c_229 => ?_) (fun c_229 => ?_)
          ·
            refine lv_iconst (v := nI 0) hx hb dX7_tried_243 (by decide) ?_
            refine pX7 hx hb hg hown hI hP hd rfl hS 0 rfl 21 rfl mF_X7_136 rfl (by decide) (by decide) (Nat.le_of_ble_eq_true rfl) pm0 dX7_tried_244 (fun H locs hP hS => ?_)
            have hP : va_P D vwCl [(A 0, mO A th (nI (sn σ)) (nI (sc σ)) t sh tl (if mm = 2 then mxv (pae σ t y r) (sn σ) else FP.dconst0) (nI 0) (nI 0) (if mm = 3 then r else ks) tk tz sp wd lv dn rf ev), (A 1, iA cI 10 (so σ)), (A 2, iA cI 10 (sl σ)), (A 3, iA cI 10 (sr σ)), (A 4, dA cD 10 (sk σ)), (A 5, dA cD 3 y), (A 6, dA cD 3 (u 0)), (A 7, dA cD 3 (u 1)), (A 8, dA cD 3 (u 2)), (A 9, dA cD 3 (u 3)), (A 10, dA cD 3 (u 4)), (A 11, dA cD 3 (u 5)), (A 12, dA cD 3 (u 6)), (A 13, dA cD 9 (u 7)), (A 14, dA cD 3 (if mm = 3 then mix (sn σ) (fs σ t y) g else g)), (A 15, dA cD 3 (u 9))] H := hP
            refine lv_aload_n hx hb dX7_tried_247 rfl (lv_at hl 0 rfl) ?_
            refine gX7 hx hb hg hown hI hP 0 rfl 13 rfl mF_X7_149 rfl dX7_tried_248 ?_
            refine lv_if_eq (tgt := 264) hx hb dX7_tried_251 (by decide) (fun c_251 => ?_) (fun c_251 => (c_251 (by decide)).elim)
            refine lv_aload_n hx hb dX7_tried_264 rfl (lv_at hl 0 rfl) ?_
            refine gX7 hx hb hg hown hI hP 0 rfl 13 rfl mF_X7_149 rfl dX7_tried_265 ?_
            refine lv_if_ne (tgt := 275) hx hb dX7_tried_268 (by decide) (fun c_268 => (c_268 (by decide)).elim) (fun c_268 => ?_)
            refine lv_iconst (v := nI 1) hx hb dX7_tried_271 (by decide) ?_
            refine lv_goto (tgt := 276) hx hb dX7_tried_272 (by decide) ?_
            have hd3 : decide (mm = 3) = false := df (fun h => c_229 (by rw [h]))
            have hP : va_P D vwCl [(A 0, mO A th (nI (sn σ)) (nI (sc σ)) t sh tl (if mm = 2 then mxv (pae σ t y r) (sn σ) else FP.dconst0) (bI (stepR σ t y r g (go && decide (deq ks r)) mm).isNone) (bI ((stepR σ t y r g (go && decide (deq ks r)) mm).isSome && decide (mm = 3))) (if mm = 3 then r else ks) tk tz sp wd lv dn (if (stepR σ t y r g (go && decide (deq ks r)) mm).isSome then rf else rf + nI 1) ev), (A 1, iA cI 10 (so σ)), (A 2, iA cI 10 (sl σ)), (A 3, iA cI 10 (sr σ)), (A 4, dA cD 10 (sk σ)), (A 5, dA cD 3 y), (A 6, dA cD 3 (u 0)), (A 7, dA cD 3 (u 1)), (A 8, dA cD 3 (u 2)), (A 9, dA cD 3 (u 3)), (A 10, dA cD 3 (u 4)), (A 11, dA cD 3 (u 5)), (A 12, dA cD 3 (u 6)), (A 13, dA cD 9 (u 7)), (A 14, dA cD 3 (if mm = 3 then mix (sn σ) (fs σ t y) g else g)), (A 15, dA cD 3 (u 9))] H := by rw [hi0, hd3]; exact hP
            refine xeqi (y := bI (stepR σ t y r g (go && decide (deq ks r)) mm).isSome) (bI1 (by rw [hi0]; rfl)) ?_
            exact W.zret hx hb hr (bI_n _) (fun tS hTS hWS => ⟨u, rfl, (fun z' hz' => by rw [hi0] at hz'; cases hz'; exact hza), by rw [hTS]; exact hP.sub [0, 6, 7, 8, 9, 10, 11, 12, 13, 14, 15] rfl, hS.F hTS⟩) hS.2.2 dX7_tried_276
          ·
            refine lv_aload_n hx hb dX7_tried_232 rfl (lv_at hl 0 rfl) ?_
            refine gX7 hx hb hg hown hI hP 0 rfl 13 rfl mF_X7_149 rfl dX7_tried_233 ?_
            refine lv_if_ne (tgt := 243) hx hb dX7_tried_236 (by decide) (fun c_236 => (c_236 (by decide)).elim) (fun c_236 => ?_)
            refine lv_iconst (v := nI 1) hx hb dX7_tried_239 (by decide) ?_
            refine lv_goto (tgt := 244) hx hb dX7_tried_240 (by decide) ?_
            refine pX7 hx hb hg hown hI hP hd rfl hS 0 rfl 21 rfl mF_X7_136 rfl (by decide) (by decide) (Nat.le_of_ble_eq_true rfl) pm0 dX7_tried_244 (fun H locs hP hS => ?_)
            have hP : va_P D vwCl [(A 0, mO A th (nI (sn σ)) (nI (sc σ)) t sh tl (if mm = 2 then mxv (pae σ t y r) (sn σ) else FP.dconst0) (nI 0) (nI 1) (if mm = 3 then r else ks) tk tz sp wd lv dn rf ev), (A 1, iA cI 10 (so σ)), (A 2, iA cI 10 (sl σ)), (A 3, iA cI 10 (sr σ)), (A 4, dA cD 10 (sk σ)), (A 5, dA cD 3 y), (A 6, dA cD 3 (u 0)), (A 7, dA cD 3 (u 1)), (A 8, dA cD 3 (u 2)), (A 9, dA cD 3 (u 3)), (A 10, dA cD 3 (u 4)), (A 11, dA cD 3 (u 5)), (A 12, dA cD 3 (u 6)), (A 13, dA cD 9 (u 7)), (A 14, dA cD 3 (if mm = 3 then mix (sn σ) (fs σ t y) g else g)), (A 15, dA cD 3 (u 9))] H := hP
            refine lv_aload_n hx hb dX7_tried_247 rfl (lv_at hl 0 rfl) ?_
            refine gX7 hx hb hg hown hI hP 0 rfl 13 rfl mF_X7_149 rfl dX7_tried_248 ?_
            refine lv_if_eq (tgt := 264) hx hb dX7_tried_251 (by decide) (fun c_251 => ?_) (fun c_251 => (c_251 (by decide)).elim)
            refine lv_aload_n hx hb dX7_tried_264 rfl (lv_at hl 0 rfl) ?_
            refine xpc (q := 265) rfl ?_
            refine gX7 hx hb hg hown hI hP 0 rfl 13 rfl mF_X7_149 rfl dX7_tried_265 ?_
            refine lv_if_ne (tgt := 275) hx hb dX7_tried_268 (by decide) (fun c_268 => (c_268 (by decide)).elim) (fun c_268 => ?_)
            refine lv_iconst (v := nI 1) hx hb dX7_tried_271 (by decide) ?_
            refine lv_goto (tgt := 276) hx hb dX7_tried_272 (by decide) ?_
            have hd3 : decide (mm = 3) = true := dt ((nI_eq (by omega) (by decide)).mp c_229)
            have hP : va_P D vwCl [(A 0, mO A th (nI (sn σ)) (nI (sc σ)) t sh tl (if mm = 2 then mxv (pae σ t y r) (sn σ) else FP.dconst0) (bI (stepR σ t y r g (go && decide (deq ks r)) mm).isNone) (bI ((stepR σ t y r g (go && decide (deq ks r)) mm).isSome && decide (mm = 3))) (if mm = 3 then r else ks) tk tz sp wd lv dn (if (stepR σ t y r g (go && decide (deq ks r)) mm).isSome then rf else rf + nI 1) ev), (A 1, iA cI 10 (so σ)), (A 2, iA cI 10 (sl σ)), (A 3, iA cI 10 (sr σ)), (A 4, dA cD 10 (sk σ)), (A 5, dA cD 3 y), (A 6, dA cD 3 (u 0)), (A 7, dA cD 3 (u 1)), (A 8, dA cD 3 (u 2)), (A 9, dA cD 3 (u 3)), (A 10, dA cD 3 (u 4)), (A 11, dA cD 3 (u 5)), (A 12, dA cD 3 (u 6)), (A 13, dA cD 9 (u 7)), (A 14, dA cD 3 (if mm = 3 then mix (sn σ) (fs σ t y) g else g)), (A 15, dA cD 3 (u 9))] H := by rw [hi0, hd3]; exact hP
            refine xeqi (y := bI (stepR σ t y r g (go && decide (deq ks r)) mm).isSome) (bI1 (by rw [hi0]; rfl)) ?_
            exact W.zret hx hb hr (bI_n _) (fun tS hTS hWS => ⟨u, rfl, (fun z' hz' => by rw [hi0] at hz'; cases hz'; exact hza), by rw [hTS]; exact hP.sub [0, 6, 7, 8, 9, 10, 11, 12, 13, 14, 15] rfl, hS.F hTS⟩) hS.2.2 dX7_tried_276
        ·
          have hi0 : stepR σ t y r g (go && decide (deq ks r)) mm = none := by unfold stepR; rw [hz]; exact if_pos c_214
          refine lv_iconst (v := nI 1) hx hb dX7_tried_218 (by decide) ?_
          refine lv_goto (tgt := 223) hx hb dX7_tried_219 (by decide) ?_
          refine pX7 hx hb hg hown hI hP hd rfl hS 0 rfl 13 rfl mF_X7_149 rfl (by decide) (by decide) (Nat.le_of_ble_eq_true rfl) pm0 dX7_tried_223 (fun H locs hP hS => ?_)
          have hP : va_P D vwCl [(A 0, mO A th (nI (sn σ)) (nI (sc σ)) t sh tl (if mm = 2 then mxv (pae σ t y r) (sn σ) else FP.dconst0) (nI 1) (bI kb) (if mm = 3 then r else ks) tk tz sp wd lv dn rf ev), (A 1, iA cI 10 (so σ)), (A 2, iA cI 10 (sl σ)), (A 3, iA cI 10 (sr σ)), (A 4, dA cD 10 (sk σ)), (A 5, dA cD 3 y), (A 6, dA cD 3 (u 0)), (A 7, dA cD 3 (u 1)), (A 8, dA cD 3 (u 2)), (A 9, dA cD 3 (u 3)), (A 10, dA cD 3 (u 4)), (A 11, dA cD 3 (u 5)), (A 12, dA cD 3 (u 6)), (A 13, dA cD 9 (u 7)), (A 14, dA cD 3 (if mm = 3 then mix (sn σ) (fs σ t y) g else g)), (A 15, dA cD 3 (u 9))] H := hP
          refine lv_aload_n hx hb dX7_tried_226 rfl (lv_at hl 0 rfl) ?_
          refine lv_iload_n hx hb dX7_tried_227 rfl (lv_at hl 1 rfl) ?_
          refine lv_iconst (v := nI 3) hx hb dX7_tried_228 (by decide) ?_
          refine lv_icmp_ne (tgt := 243) hx hb dX7_tried_229 (by decide) (fun c_229 => ?_) (fun c_229 => ?_)
          ·
            refine lv_iconst (v := nI 0) hx hb dX7_tried_243 (by decide) ?_
            refine pX7 hx hb hg hown hI hP hd rfl hS 0 rfl 21 rfl mF_X7_136 rfl (by decide) (by decide) (Nat.le_of_ble_eq_true rfl) pm0 dX7_tried_244 (fun H locs hP hS => ?_)
            have hP : va_P D vwCl [(A 0, mO A th (nI (sn σ)) (nI (sc σ)) t sh tl (if mm = 2 then mxv (pae σ t y r) (sn σ) else FP.dconst0) (nI 1) (nI 0) (if mm = 3 then r else ks) tk tz sp wd lv dn rf ev), (A 1, iA cI 10 (so σ)), (A 2, iA cI 10 (sl σ)), (A 3, iA cI 10 (sr σ)), (A 4, dA cD 10 (sk σ)), (A 5, dA cD 3 y), (A 6, dA cD 3 (u 0)), (A 7, dA cD 3 (u 1)), (A 8, dA cD 3 (u 2)), (A 9, dA cD 3 (u 3)), (A 10, dA cD 3 (u 4)), (A 11, dA cD 3 (u 5)), (A 12, dA cD 3 (u 6)), (A 13, dA cD 9 (u 7)), (A 14, dA cD 3 (if mm = 3 then mix (sn σ) (fs σ t y) g else g)), (A 15, dA cD 3 (u 9))] H := hP
            refine lv_aload_n hx hb dX7_tried_247 rfl (lv_at hl 0 rfl) ?_
            refine gX7 hx hb hg hown hI hP 0 rfl 13 rfl mF_X7_149 rfl dX7_tried_248 ?_
            refine lv_if_eq (tgt := 264) hx hb dX7_tried_251 (by decide) (fun c_251 => absurd c_251 (by decide)) (fun c_251 => ?_)
            refine lv_aload_n hx hb dX7_tried_254 rfl (lv_at hl 0 rfl) ?_
            refine lv_dup hx hb dX7_tried_255 rfl ?_
            refine gX7 hx hb hg hown hI hP 0 rfl 34 rfl mF_X7_178 rfl dX7_tried_256 ?_
            refine lv_iconst (v := nI 1) hx hb dX7_tried_259 (by decide) ?_
            refine lv_iadd hx hb dX7_tried_260 ?_
            refine pX7 hx hb hg hown hI hP hd rfl hS 0 rfl 34 rfl mF_X7_178 rfl rfl rfl (Nat.le_of_ble_eq_true rfl) pm0 dX7_tried_261 (fun H locs hP hS => ?_)
            have hP : va_P D vwCl [(A 0, mO A th (nI (sn σ)) (nI (sc σ)) t sh tl (if mm = 2 then mxv (pae σ t y r) (sn σ) else FP.dconst0) (nI 1) (nI 0) (if mm = 3 then r else ks) tk tz sp wd lv dn (rf + (nI 1)) ev), (A 1, iA cI 10 (so σ)), (A 2, iA cI 10 (sl σ)), (A 3, iA cI 10 (sr σ)), (A 4, dA cD 10 (sk σ)), (A 5, dA cD 3 y), (A 6, dA cD 3 (u 0)), (A 7, dA cD 3 (u 1)), (A 8, dA cD 3 (u 2)), (A 9, dA cD 3 (u 3)), (A 10, dA cD 3 (u 4)), (A 11, dA cD 3 (u 5)), (A 12, dA cD 3 (u 6)), (A 13, dA cD 9 (u 7)), (A 14, dA cD 3 (if mm = 3 then mix (sn σ) (fs σ t y) g else g)), (A 15, dA cD 3 (u 9))] H := hP
            refine lv_aload_n hx hb dX7_tried_264 rfl (lv_at hl 0 rfl) ?_
            refine gX7 hx hb hg hown hI hP 0 rfl 13 rfl mF_X7_149 rfl dX7_tried_265 ?_
            refine lv_if_ne (tgt := 275) hx hb dX7_tried_268 (by decide) (fun c_268 => ?_) (fun c_268 => absurd c_268 (by decide))
            refine lv_iconst (v := nI 0) hx hb dX7_tried_275 (by decide) ?_
            have hP : va_P D vwCl [(A 0, mO A th (nI (sn σ)) (nI (sc σ)) t sh tl (if mm = 2 then mxv (pae σ t y r) (sn σ) else FP.dconst0) (bI (stepR σ t y r g (go && decide (deq ks r)) mm).isNone) (bI ((stepR σ t y r g (go && decide (deq ks r)) mm).isSome && decide (mm = 3))) (if mm = 3 then r else ks) tk tz sp wd lv dn (if (stepR σ t y r g (go && decide (deq ks r)) mm).isSome then rf else rf + nI 1) ev), (A 1, iA cI 10 (so σ)), (A 2, iA cI 10 (sl σ)), (A 3, iA cI 10 (sr σ)), (A 4, dA cD 10 (sk σ)), (A 5, dA cD 3 y), (A 6, dA cD 3 (u 0)), (A 7, dA cD 3 (u 1)), (A 8, dA cD 3 (u 2)), (A 9, dA cD 3 (u 3)), (A 10, dA cD 3 (u 4)), (A 11, dA cD 3 (u 5)), (A 12, dA cD 3 (u 6)), (A 13, dA cD 9 (u 7)), (A 14, dA cD 3 (if mm = 3 then mix (sn σ) (fs σ t y) g else g)), (A 15, dA cD 3 (u 9))] H := by rw [hi0]; exact hP
            refine xeqi (y := bI (stepR σ t y r g (go && decide (deq ks r)) mm).isSome) (bI0 (by rw [hi0]; rfl)) ?_
            exact W.zret hx hb hr (bI_n _) (fun tS hTS hWS => ⟨u, rfl, (fun z' hz' => by rw [hi0] at hz'; cases hz'), by rw [hTS]; exact hP.sub [0, 6, 7, 8, 9, 10, 11, 12, 13, 14, 15] rfl, hS.F hTS⟩) hS.2.2 dX7_tried_276
          ·
            refine lv_aload_n hx hb dX7_tried_232 rfl (lv_at hl 0 rfl) ?_
            refine gX7 hx hb hg hown hI hP 0 rfl 13 rfl mF_X7_149 rfl dX7_tried_233 ?_
            refine lv_if_ne (tgt := 243) hx hb dX7_tried_236 (by decide) (fun c_236 => ?_) (fun c_236 => absurd c_236 (by decide))
            refine lv_iconst (v := nI 0) hx hb dX7_tried_243 (by decide) ?_
            refine pX7 hx hb hg hown hI hP hd rfl hS 0 rfl 21 rfl mF_X7_136 rfl (by decide) (by decide) (Nat.le_of_ble_eq_true rfl) pm0 dX7_tried_244 (fun H locs hP hS => ?_)
            have hP : va_P D vwCl [(A 0, mO A th (nI (sn σ)) (nI (sc σ)) t sh tl (if mm = 2 then mxv (pae σ t y r) (sn σ) else FP.dconst0) (nI 1) (nI 0) (if mm = 3 then r else ks) tk tz sp wd lv dn rf ev), (A 1, iA cI 10 (so σ)), (A 2, iA cI 10 (sl σ)), (A 3, iA cI 10 (sr σ)), (A 4, dA cD 10 (sk σ)), (A 5, dA cD 3 y), (A 6, dA cD 3 (u 0)), (A 7, dA cD 3 (u 1)), (A 8, dA cD 3 (u 2)), (A 9, dA cD 3 (u 3)), (A 10, dA cD 3 (u 4)), (A 11, dA cD 3 (u 5)), (A 12, dA cD 3 (u 6)), (A 13, dA cD 9 (u 7)), (A 14, dA cD 3 (if mm = 3 then mix (sn σ) (fs σ t y) g else g)), (A 15, dA cD 3 (u 9))] H := hP
            refine lv_aload_n hx hb dX7_tried_247 rfl (lv_at hl 0 rfl) ?_
            refine gX7 hx hb hg hown hI hP 0 rfl 13 rfl mF_X7_149 rfl dX7_tried_248 ?_
            refine lv_if_eq (tgt := 264) hx hb dX7_tried_251 (by decide) (fun c_251 => absurd c_251 (by decide)) (fun c_251 => ?_)
            refine lv_aload_n hx hb dX7_tried_254 rfl (lv_at hl 0 rfl) ?_
            refine xpc (q := 255) rfl ?_
            refine lv_dup hx hb dX7_tried_255 rfl ?_
            refine gX7 hx hb hg hown hI hP 0 rfl 34 rfl mF_X7_178 rfl dX7_tried_256 ?_
            refine lv_iconst (v := nI 1) hx hb dX7_tried_259 (by decide) ?_
            refine lv_iadd hx hb dX7_tried_260 ?_
            refine pX7 hx hb hg hown hI hP hd rfl hS 0 rfl 34 rfl mF_X7_178 rfl rfl rfl (Nat.le_of_ble_eq_true rfl) pm0 dX7_tried_261 (fun H locs hP hS => ?_)
            have hP : va_P D vwCl [(A 0, mO A th (nI (sn σ)) (nI (sc σ)) t sh tl (if mm = 2 then mxv (pae σ t y r) (sn σ) else FP.dconst0) (nI 1) (nI 0) (if mm = 3 then r else ks) tk tz sp wd lv dn (rf + (nI 1)) ev), (A 1, iA cI 10 (so σ)), (A 2, iA cI 10 (sl σ)), (A 3, iA cI 10 (sr σ)), (A 4, dA cD 10 (sk σ)), (A 5, dA cD 3 y), (A 6, dA cD 3 (u 0)), (A 7, dA cD 3 (u 1)), (A 8, dA cD 3 (u 2)), (A 9, dA cD 3 (u 3)), (A 10, dA cD 3 (u 4)), (A 11, dA cD 3 (u 5)), (A 12, dA cD 3 (u 6)), (A 13, dA cD 9 (u 7)), (A 14, dA cD 3 (if mm = 3 then mix (sn σ) (fs σ t y) g else g)), (A 15, dA cD 3 (u 9))] H := hP
            refine lv_aload_n hx hb dX7_tried_264 rfl (lv_at hl 0 rfl) ?_
            refine gX7 hx hb hg hown hI hP 0 rfl 13 rfl mF_X7_149 rfl dX7_tried_265 ?_
            refine lv_if_ne (tgt := 275) hx hb dX7_tried_268 (by decide) (fun c_268 => ?_) (fun c_268 => absurd c_268 (by decide))
            refine lv_iconst (v := nI 0) hx hb dX7_tried_275 (by decide) ?_
            have hP : va_P D vwCl [(A 0, mO A th (nI (sn σ)) (nI (sc σ)) t sh tl (if mm = 2 then mxv (pae σ t y r) (sn σ) else FP.dconst0) (bI (stepR σ t y r g (go && decide (deq ks r)) mm).isNone) (bI ((stepR σ t y r g (go && decide (deq ks r)) mm).isSome && decide (mm = 3))) (if mm = 3 then r else ks) tk tz sp wd lv dn (if (stepR σ t y r g (go && decide (deq ks r)) mm).isSome then rf else rf + nI 1) ev), (A 1, iA cI 10 (so σ)), (A 2, iA cI 10 (sl σ)), (A 3, iA cI 10 (sr σ)), (A 4, dA cD 10 (sk σ)), (A 5, dA cD 3 y), (A 6, dA cD 3 (u 0)), (A 7, dA cD 3 (u 1)), (A 8, dA cD 3 (u 2)), (A 9, dA cD 3 (u 3)), (A 10, dA cD 3 (u 4)), (A 11, dA cD 3 (u 5)), (A 12, dA cD 3 (u 6)), (A 13, dA cD 9 (u 7)), (A 14, dA cD 3 (if mm = 3 then mix (sn σ) (fs σ t y) g else g)), (A 15, dA cD 3 (u 9))] H := by rw [hi0]; exact hP
            refine xeqi (y := bI (stepR σ t y r g (go && decide (deq ks r)) mm).isSome) (bI0 (by rw [hi0]; rfl)) ?_
            exact W.zret hx hb hr (bI_n _) (fun tS hTS hWS => ⟨u, rfl, (fun z' hz' => by rw [hi0] at hz'; cases hz'), by rw [hTS]; exact hP.sub [0, 6, 7, 8, 9, 10, 11, 12, 13, 14, 15] rfl, hS.F hTS⟩) hS.2.2 dX7_tried_276
    ·
      rcases (show mm = 0 ∨ mm = 1 ∨ mm = 2 ∨ mm = 3 ∨ mm = 4 ∨ mm = 5 by omega) with rfl | rfl | rfl | rfl | rfl | rfl
      ·
        refine lv_iload_n hx hb dX7_tried_31 rfl (lv_at hl 1 rfl) ?_
        refine lv_if_ne (tgt := 71) hx hb dX7_tried_32 (by decide) (fun c_32 => (c_32 (by decide)).elim) (fun c_32 => ?_)
        refine lv_aload_n hx hb dX7_tried_35 rfl (lv_at hl 0 rfl) ?_
        refine lv_aload_n hx hb dX7_tried_36 rfl (lv_at hl 0 rfl) ?_
        refine gX7 hx hb hg hown hI hP 0 rfl 7 rfl mF_X7_98 rfl dX7_tried_37 ?_
        refine lv_aload_n hx hb dX7_tried_40 rfl (lv_at hl 0 rfl) ?_
        refine gX7 hx hb hg hown hI hP 0 rfl 10 rfl mF_X7_36 rfl dX7_tried_41 ?_
        refine lv_aload_n hx hb dX7_tried_44 rfl (lv_at hl 0 rfl) ?_
        refine gX7 hx hb hg hown hI hP 0 rfl 14 rfl mF_X7_42 rfl dX7_tried_45 ?_
        refine xcv (xV (As := [.double t, .ref (A 5), .ref (A 7)]) (rest := []) hx hb hml hown hg (r_derive l D cD cI cM cL A σ th t sh tl FP.dconst0 (nI 0) (bI (go && decide (0 = 3))) ks tk tz sp wd lv dn rf ev (A 5) (A 7) t y (v 1) 20 hk.1 (hk.2.1.up (by decide)) hk.2.2.2 (by decide)) mM_X7_101 ok_X7_derive rfl rfl ⟨Nat.le_of_ble_eq_true rfl, Nat.le_of_ble_eq_true rfl⟩ hI hP hd rfl [0, 1, 2, 3, 4, 5, 7] rfl rfl rfl rfl rfl hl.1 rfl (Nat.le_of_ble_eq_true rfl) dX7_tried_48 ⟨Nat.zero_le _, Nat.zero_le _⟩) hP hd hS (fa1 (pmS (pmS pm0)) fa0) [7] rfl rfl (fun _ => rfl) (fun _u H locs hu hP hS => ?_)
        have hP : va_P D vwCl [(A 0, mO A th (nI (sn σ)) (nI (sc σ)) t sh tl FP.dconst0 (nI 0) (bI (go && decide (0 = 3))) ks tk tz sp wd lv dn rf ev), (A 1, iA cI 10 (so σ)), (A 2, iA cI 10 (sl σ)), (A 3, iA cI 10 (sr σ)), (A 4, dA cD 10 (sk σ)), (A 5, dA cD 3 y), (A 6, dA cD 3 (v 0)), (A 7, dA cD 3 (mix (sn σ) (fs σ t y) (v 1))), (A 8, dA cD 3 (v 2)), (A 9, dA cD 3 (v 3)), (A 10, dA cD 3 (v 4)), (A 11, dA cD 3 (v 5)), (A 12, dA cD 3 (v 6)), (A 13, dA cD 9 (v 7)), (A 14, dA cD 3 g), (A 15, dA cD 3 (v 9))] H := hP
        refine lv_aload_n hx hb dX7_tried_51 rfl (lv_at hl 0 rfl) ?_
        refine lv_aload_n hx hb dX7_tried_52 rfl (lv_at hl 0 rfl) ?_
        refine gX7 hx hb hg hown hI hP 0 rfl 10 rfl mF_X7_36 rfl dX7_tried_53 ?_
        refine lv_dload_n hx hb dX7_tried_56 rfl (lv_at hl 2 rfl) ?_
        refine lv_aload_n hx hb dX7_tried_57 rfl (lv_at hl 0 rfl) ?_
        refine xpc (q := 58) rfl ?_
        refine gX7 hx hb hg hown hI hP 0 rfl 14 rfl mF_X7_42 rfl dX7_tried_58 ?_
        refine lv_aload_n hx hb dX7_tried_61 rfl (lv_at hl 0 rfl) ?_
        refine gX7 hx hb hg hown hI hP 0 rfl 11 rfl mF_X7_39 rfl dX7_tried_62 ?_
        refine xcv (xV (As := [.ref (A 5), .double r, .ref (A 7), .ref (A 6)]) (rest := []) hx hb hml hown hg (r_lead l D cD cI cM cL A σ th t sh tl FP.dconst0 (nI 0) (bI (go && decide (0 = 3))) ks tk tz sp wd lv dn rf ev (A 5) (A 7) (A 6) y (mix (sn σ) (fs σ t y) (v 1)) (v 0) r hn (fun i hi => by rw [mix_lt hi]; exact (bd_mul (k := 100) hk.2.2.1 (f0_bd (i := i) hk) (by decide) (by decide)).1) (fun i hi => by unfold mv; rw [mix_lt hi]; exact (mv1_bd hk hk.2.2.1 hi).1)) mM_X7_107 ok_X7_lead rfl rfl ⟨Nat.le_of_ble_eq_true rfl, Nat.le_of_ble_eq_true rfl⟩ hI hP hd rfl [0, 5, 7, 6] rfl rfl rfl rfl rfl hl.1 rfl (Nat.le_of_ble_eq_true rfl) dX7_tried_65 ⟨Nat.zero_le _, Nat.zero_le _⟩) hP hd hS (fa1 (pmS pm0) fa0) [6] rfl rfl (fun _ => rfl) (fun _u H locs hu hP hS => ?_)
        have hP : va_P D vwCl [(A 0, mO A th (nI (sn σ)) (nI (sc σ)) t sh tl FP.dconst0 (nI 0) (bI (go && decide (0 = 3))) ks tk tz sp wd lv dn rf ev), (A 1, iA cI 10 (so σ)), (A 2, iA cI 10 (sl σ)), (A 3, iA cI 10 (sr σ)), (A 4, dA cD 10 (sk σ)), (A 5, dA cD 3 y), (A 6, dA cD 3 (mix (sn σ) (mv y r (mix (sn σ) (fs σ t y) (v 1))) (v 0))), (A 7, dA cD 3 (mix (sn σ) (fs σ t y) (v 1))), (A 8, dA cD 3 (v 2)), (A 9, dA cD 3 (v 3)), (A 10, dA cD 3 (v 4)), (A 11, dA cD 3 (v 5)), (A 12, dA cD 3 (v 6)), (A 13, dA cD 9 (v 7)), (A 14, dA cD 3 g), (A 15, dA cD 3 (v 9))] H := hP
        refine lv_goto (tgt := 195) hx hb dX7_tried_68 (by decide) ?_
        exact K1 _ _ _ ⟨lk [mix (sn σ) (mv y r (mix (sn σ) (fs σ t y) (v 1))) (v 0), mix (sn σ) (fs σ t y) (v 1), v 2, v 3, v 4, v 5, v 6, v 7, fun _ => FP.dconst0, v 9], false, _, rfl, (fun z hz => by cases hz; intro i hi; show mix (sn σ) (mv y r (mix (sn σ) (fs σ t y) (v 1))) (v 0) i = _; rw [mv_mix, mix_lt hi]), trivial, hP, hS, lv_sub hl [0, 1, 2] rfl⟩
      ·
        refine lv_iload_n hx hb dX7_tried_31 rfl (lv_at hl 1 rfl) ?_
        refine lv_if_ne (tgt := 71) hx hb dX7_tried_32 (by decide) (fun c_32 => ?_) (fun c_32 => absurd c_32 (by decide))
        refine lv_iload_n hx hb dX7_tried_71 rfl (lv_at hl 1 rfl) ?_
        refine lv_iconst (v := nI 1) hx hb dX7_tried_72 (by decide) ?_
        refine lv_icmp_ne (tgt := 84) hx hb dX7_tried_73 (by decide) (fun c_73 => (c_73 (by decide)).elim) (fun c_73 => ?_)
        refine lv_aload_n hx hb dX7_tried_76 rfl (lv_at hl 0 rfl) ?_
        refine lv_dload_n hx hb dX7_tried_77 rfl (lv_at hl 2 rfl) ?_
        refine xcv (xV (As := [.double r]) (rest := []) hx hb hml hown hg (r_runge l D cD cI cM cL A σ th t sh tl FP.dconst0 (nI 0) (bI (go && decide (1 = 3))) ks tk tz sp wd lv dn rf ev y (v 0) (v 1) (v 2) (v 3) (v 4) (v 5) r hk) mM_X7_145 ok_X7_runge rfl rfl ⟨Nat.le_of_ble_eq_true rfl, Nat.le_of_ble_eq_true rfl⟩ hI hP hd rfl [0, 1, 2, 3, 4, 5, 6, 7, 8, 9, 10, 11] rfl rfl rfl rfl rfl hl.1 rfl (Nat.le_of_ble_eq_true rfl) dX7_tried_78 ⟨Nat.zero_le _, Nat.zero_le _⟩) hP hd hS (fa1 (pmS pm0) (fa1 (pmS (pmS pm0)) (fa1 (pmS (pmS (pmS pm0))) (fa1 (pmS (pmS (pmS (pmS pm0)))) (fa1 (pmS (pmS (pmS (pmS (pmS pm0))))) (fa1 (pmS (pmS (pmS (pmS (pmS (pmS pm0)))))) fa0)))))) [6, 7, 8, 9, 10, 11] rfl rfl (fun _ => rfl) (fun w H locs hu hP hS => ?_)
        have hP : va_P D vwCl [(A 0, mO A th (nI (sn σ)) (nI (sc σ)) t sh tl FP.dconst0 (nI 0) (bI (go && decide (1 = 3))) ks tk tz sp wd lv dn rf ev), (A 1, iA cI 10 (so σ)), (A 2, iA cI 10 (sl σ)), (A 3, iA cI 10 (sr σ)), (A 4, dA cD 10 (sk σ)), (A 5, dA cD 3 y), (A 6, dA cD 3 (mix (sn σ) (rgz σ t y r) (v 0))), (A 7, dA cD 3 w.1), (A 8, dA cD 3 w.2.1), (A 9, dA cD 3 w.2.2.1), (A 10, dA cD 3 w.2.2.2.1), (A 11, dA cD 3 w.2.2.2.2), (A 12, dA cD 3 (v 6)), (A 13, dA cD 9 (v 7)), (A 14, dA cD 3 g), (A 15, dA cD 3 (v 9))] H := hP
        refine lv_goto (tgt := 195) hx hb dX7_tried_81 (by decide) ?_
        exact K1 _ _ _ ⟨lk [mix (sn σ) (rgz σ t y r) (v 0), w.1, w.2.1, w.2.2.1, w.2.2.2.1, w.2.2.2.2, v 6, v 7, fun _ => FP.dconst0, v 9], false, _, rfl, (fun z hz => by cases hz; exact fun i hi => mix_lt hi), trivial, hP, hS, lv_sub hl [0, 1, 2] rfl⟩
      ·
        refine lv_iload_n hx hb dX7_tried_31 rfl (lv_at hl 1 rfl) ?_
        refine lv_if_ne (tgt := 71) hx hb dX7_tried_32 (by decide) (fun c_32 => ?_) (fun c_32 => absurd c_32 (by decide))
        refine lv_iload_n hx hb dX7_tried_71 rfl (lv_at hl 1 rfl) ?_
        refine lv_iconst (v := nI 1) hx hb dX7_tried_72 (by decide) ?_
        refine lv_icmp_ne (tgt := 84) hx hb dX7_tried_73 (by decide) (fun c_73 => ?_) (fun c_73 => absurd c_73 (by decide))
        refine lv_iload_n hx hb dX7_tried_84 rfl (lv_at hl 1 rfl) ?_
        refine lv_iconst (v := nI 2) hx hb dX7_tried_85 (by decide) ?_
        refine lv_icmp_ne (tgt := 97) hx hb dX7_tried_86 (by decide) (fun c_86 => (c_86 (by decide)).elim) (fun c_86 => ?_)
        refine lv_aload_n hx hb dX7_tried_89 rfl (lv_at hl 0 rfl) ?_
        refine lv_dload_n hx hb dX7_tried_90 rfl (lv_at hl 2 rfl) ?_
        refine xcv (xV (As := [.double r]) (rest := []) hx hb hml hown hg (r_pair l D cD cI cM cL A σ th t sh tl FP.dconst0 (nI 0) (bI (go && decide (2 = 3))) ks tk tz sp wd lv dn rf ev y (v 0) (v 1) (v 2) (v 3) (v 4) (v 5) r hk) mM_X7_163 ok_X7_pair rfl rfl ⟨Nat.le_of_ble_eq_true rfl, Nat.le_of_ble_eq_true rfl⟩ hI hP hd rfl [0, 1, 2, 3, 4, 5, 6, 7, 8, 9, 10, 11] rfl rfl rfl rfl rfl hl.1 rfl (Nat.le_of_ble_eq_true rfl) dX7_tried_91 ⟨Nat.zero_le _, Nat.zero_le _⟩) hP hd hS (fa1 pm0 (fa1 (pmS pm0) (fa1 (pmS (pmS pm0)) (fa1 (pmS (pmS (pmS pm0))) (fa1 (pmS (pmS (pmS (pmS pm0)))) (fa1 (pmS (pmS (pmS (pmS (pmS pm0))))) (fa1 (pmS (pmS (pmS (pmS (pmS (pmS pm0)))))) fa0))))))) [0, 6, 7, 8, 9, 10, 11] rfl rfl (fun _ => rfl) (fun w H locs hu hP hS => ?_)
        have hP : va_P D vwCl [(A 0, mO A th (nI (sn σ)) (nI (sc σ)) t sh tl (mxv (pae σ t y r) (sn σ)) (nI 0) (bI (go && decide (2 = 3))) ks tk tz sp wd lv dn rf ev), (A 1, iA cI 10 (so σ)), (A 2, iA cI 10 (sl σ)), (A 3, iA cI 10 (sr σ)), (A 4, dA cD 10 (sk σ)), (A 5, dA cD 3 y), (A 6, dA cD 3 (mix (sn σ) (paz σ t y r) (v 0))), (A 7, dA cD 3 w.1), (A 8, dA cD 3 w.2.1), (A 9, dA cD 3 w.2.2.1), (A 10, dA cD 3 w.2.2.2.1), (A 11, dA cD 3 w.2.2.2.2), (A 12, dA cD 3 (v 6)), (A 13, dA cD 9 (v 7)), (A 14, dA cD 3 g), (A 15, dA cD 3 (v 9))] H := hP
        refine lv_goto (tgt := 195) hx hb dX7_tried_94 (by decide) ?_
        exact K1 _ _ _ ⟨lk [mix (sn σ) (paz σ t y r) (v 0), w.1, w.2.1, w.2.2.1, w.2.2.2.1, w.2.2.2.2, v 6, v 7, fun _ => FP.dconst0, v 9], false, _, rfl, (fun z hz => by cases hz; exact fun i hi => mix_lt hi), trivial, hP, hS, lv_sub hl [0, 1, 2] rfl⟩
      ·
        refine lv_iload_n hx hb dX7_tried_31 rfl (lv_at hl 1 rfl) ?_
        refine lv_if_ne (tgt := 71) hx hb dX7_tried_32 (by decide) (fun c_32 => ?_) (fun c_32 => absurd c_32 (by decide))
        refine lv_iload_n hx hb dX7_tried_71 rfl (lv_at hl 1 rfl) ?_
        refine lv_iconst (v := nI 1) hx hb dX7_tried_72 (by decide) ?_
        refine lv_icmp_ne (tgt := 84) hx hb dX7_tried_73 (by decide) (fun c_73 => ?_) (fun c_73 => absurd c_73 (by decide))
        refine lv_iload_n hx hb dX7_tried_84 rfl (lv_at hl 1 rfl) ?_
        refine lv_iconst (v := nI 2) hx hb dX7_tried_85 (by decide) ?_
        refine lv_icmp_ne (tgt := 97) hx hb dX7_tried_86 (by decide) (fun c_86 => ?_) (fun c_86 => absurd c_86 (by decide))
        refine lv_iload_n hx hb dX7_tried_97 rfl (lv_at hl 1 rfl) ?_
        refine lv_iconst (v := nI 3) hx hb dX7_tried_98 (by decide) ?_
        refine lv_icmp_ne (tgt := 110) hx hb dX7_tried_99 (by decide) (fun c_99 => (c_99 (by decide)).elim) (fun c_99 => ?_)
        refine lv_aload_n hx hb dX7_tried_102 rfl (lv_at hl 0 rfl) ?_
        refine lv_dload_n hx hb dX7_tried_103 rfl (lv_at hl 2 rfl) ?_
        have hP : va_P D vwCl [(A 0, mO A th (nI (sn σ)) (nI (sc σ)) t sh tl FP.dconst0 (nI 0) (bI go) ks tk tz sp wd lv dn rf ev), (A 1, iA cI 10 (so σ)), (A 2, iA cI 10 (sl σ)), (A 3, iA cI 10 (sr σ)), (A 4, dA cD 10 (sk σ)), (A 5, dA cD 3 y), (A 6, dA cD 3 (v 0)), (A 7, dA cD 3 (v 1)), (A 8, dA cD 3 (v 2)), (A 9, dA cD 3 (v 3)), (A 10, dA cD 3 (v 4)), (A 11, dA cD 3 (v 5)), (A 12, dA cD 3 (v 6)), (A 13, dA cD 9 (v 7)), (A 14, dA cD 3 g), (A 15, dA cD 3 (v 9))] H := by rw [← Bool.and_true go]; exact hP
        refine xcv (xV (As := [.double r]) (rest := []) hx hb hml hown hg (r_adams l D cD cI cM cL A σ th t sh tl FP.dconst0 (nI 0) go ks tk tz sp wd lv dn rf ev y (v 0) (v 1) (v 2) (v 3) (v 4) (v 5) r g (v 9) hk hgb) mM_X7_166 ok_X7_adams rfl rfl ⟨Nat.le_of_ble_eq_true rfl, Nat.le_of_ble_eq_true rfl⟩ hI hP hd rfl [0, 1, 2, 3, 4, 5, 6, 7, 8, 9, 10, 11, 14, 15] rfl rfl rfl rfl rfl hl.1 rfl (Nat.le_of_ble_eq_true rfl) dX7_tried_104 ⟨Nat.zero_le _, Nat.zero_le _⟩) hP hd hS (fa1 pm0 (fa1 (pmS pm0) (fa1 (pmS (pmS pm0)) (fa1 (pmS (pmS (pmS pm0))) (fa1 (pmS (pmS (pmS (pmS pm0)))) (fa1 (pmS (pmS (pmS (pmS (pmS pm0))))) (fa1 (pmS (pmS (pmS (pmS (pmS (pmS pm0)))))) (fa1 (pmS (pmS (pmS (pmS (pmS (pmS (pmS (pmS (pmS pm0))))))))) (fa1 (pmS (pmS (pmS (pmS (pmS (pmS (pmS (pmS (pmS (pmS pm0)))))))))) fa0))))))))) [0, 6, 7, 8, 9, 10, 11, 14, 15] rfl rfl (fun _ => rfl) (fun w H locs hu hP hS => ?_)
        have hP : va_P D vwCl [(A 0, mO A th (nI (sn σ)) (nI (sc σ)) t sh tl FP.dconst0 (nI 0) (bI go) r tk tz sp wd lv dn rf ev), (A 1, iA cI 10 (so σ)), (A 2, iA cI 10 (sl σ)), (A 3, iA cI 10 (sr σ)), (A 4, dA cD 10 (sk σ)), (A 5, dA cD 3 y), (A 6, dA cD 3 (mix (sn σ) (if (go && decide (deq ks r)) then adz σ t y r g else rgz σ t y r) (v 0))), (A 7, dA cD 3 w.1), (A 8, dA cD 3 w.2.1), (A 9, dA cD 3 w.2.2.1), (A 10, dA cD 3 w.2.2.2.1), (A 11, dA cD 3 w.2.2.2.2), (A 12, dA cD 3 (v 6)), (A 13, dA cD 9 (v 7)), (A 14, dA cD 3 (mix (sn σ) (fs σ t y) g)), (A 15, dA cD 3 (mix (sn σ) (fs σ t y) (v 9)))] H := hP
        refine lv_goto (tgt := 195) hx hb dX7_tried_107 (by decide) ?_
        exact K1 _ _ _ ⟨lk [mix (sn σ) (if (go && decide (deq ks r)) then adz σ t y r g else rgz σ t y r) (v 0), w.1, w.2.1, w.2.2.1, w.2.2.2.1, w.2.2.2.2, v 6, v 7, fun _ => FP.dconst0, mix (sn σ) (fs σ t y) (v 9)], false, _, rfl, (fun z hz => by cases hz; exact fun i hi => mix_lt hi), trivial, hP, hS, lv_sub hl [0, 1, 2] rfl⟩
      ·
        refine lv_iload_n hx hb dX7_tried_31 rfl (lv_at hl 1 rfl) ?_
        refine lv_if_ne (tgt := 71) hx hb dX7_tried_32 (by decide) (fun c_32 => ?_) (fun c_32 => absurd c_32 (by decide))
        refine lv_iload_n hx hb dX7_tried_71 rfl (lv_at hl 1 rfl) ?_
        refine lv_iconst (v := nI 1) hx hb dX7_tried_72 (by decide) ?_
        refine lv_icmp_ne (tgt := 84) hx hb dX7_tried_73 (by decide) (fun c_73 => ?_) (fun c_73 => absurd c_73 (by decide))
        refine lv_iload_n hx hb dX7_tried_84 rfl (lv_at hl 1 rfl) ?_
        refine lv_iconst (v := nI 2) hx hb dX7_tried_85 (by decide) ?_
        refine lv_icmp_ne (tgt := 97) hx hb dX7_tried_86 (by decide) (fun c_86 => ?_) (fun c_86 => absurd c_86 (by decide))
        refine lv_iload_n hx hb dX7_tried_97 rfl (lv_at hl 1 rfl) ?_
        refine lv_iconst (v := nI 3) hx hb dX7_tried_98 (by decide) ?_
        refine lv_icmp_ne (tgt := 110) hx hb dX7_tried_99 (by decide) (fun c_99 => ?_) (fun c_99 => absurd c_99 (by decide))
        refine lv_iload_n hx hb dX7_tried_110 rfl (lv_at hl 1 rfl) ?_
        refine lv_iconst (v := nI 4) hx hb dX7_tried_111 (by decide) ?_
        refine lv_icmp_ne (tgt := 123) hx hb dX7_tried_112 (by decide) (fun c_112 => (c_112 (by decide)).elim) (fun c_112 => ?_)
        refine lv_aload_n hx hb dX7_tried_115 rfl (lv_at hl 0 rfl) ?_
        refine lv_dload_n hx hb dX7_tried_116 rfl (lv_at hl 2 rfl) ?_
        refine xcv (xV (As := [.double r]) (rest := []) hx hb hml hown hg (r_implicit l D cD cI cM cL A σ th t sh tl FP.dconst0 (nI 0) (bI (go && decide (4 = 3))) ks tk tz sp wd lv dn rf ev y (v 0) (v 1) (v 4) (v 5) (v 7) r hk) mM_X7_169 ok_X7_implicit rfl rfl ⟨Nat.le_of_ble_eq_true rfl, Nat.le_of_ble_eq_true rfl⟩ hI hP hd rfl [0, 1, 2, 3, 4, 5, 6, 7, 10, 11, 13] rfl rfl rfl rfl rfl hl.1 rfl (Nat.le_of_ble_eq_true rfl) dX7_tried_117 ⟨Nat.zero_le _, Nat.zero_le _⟩) hP hd hS (fa1 pm0 (fa1 (pmS pm0) (fa1 (pmS (pmS pm0)) (fa1 (pmS (pmS (pmS (pmS (pmS pm0))))) (fa1 (pmS (pmS (pmS (pmS (pmS (pmS pm0)))))) (fa1 (pmS (pmS (pmS (pmS (pmS (pmS (pmS (pmS pm0)))))))) fa0)))))) [0, 6, 7, 10, 11, 13] rfl rfl (fun _ => rfl) (fun w H locs hu hP hS => ?_)
        have hw := hu
        have hP : va_P D vwCl [(A 0, mO A th (nI (sn σ)) (nI (sc σ)) t sh tl FP.dconst0 (bI (imp σ (FP.dadd t r) r y 8 y).isNone) (bI (go && decide (4 = 3))) ks tk tz sp wd lv dn rf ev), (A 1, iA cI 10 (so σ)), (A 2, iA cI 10 (sl σ)), (A 3, iA cI 10 (sr σ)), (A 4, dA cD 10 (sk σ)), (A 5, dA cD 3 y), (A 6, dA cD 3 w.1), (A 7, dA cD 3 w.2.1), (A 8, dA cD 3 (v 2)), (A 9, dA cD 3 (v 3)), (A 10, dA cD 3 w.2.2.1), (A 11, dA cD 3 w.2.2.2.1), (A 12, dA cD 3 (v 6)), (A 13, dA cD 9 w.2.2.2.2), (A 14, dA cD 3 g), (A 15, dA cD 3 (v 9))] H := hP
        refine lv_goto (tgt := 195) hx hb dX7_tried_120 (by decide) ?_
        exact K1 _ _ _ ⟨lk [w.1, w.2.1, v 2, v 3, w.2.2.1, w.2.2.2.1, v 6, w.2.2.2.2, fun _ => FP.dconst0, v 9], (imp σ (FP.dadd t r) r y 8 y).isNone, _, rfl, hw, trivial, hP, hS, lv_sub hl [0, 1, 2] rfl⟩
      ·
        refine lv_iload_n hx hb dX7_tried_31 rfl (lv_at hl 1 rfl) ?_
        refine lv_if_ne (tgt := 71) hx hb dX7_tried_32 (by decide) (fun c_32 => ?_) (fun c_32 => absurd c_32 (by decide))
        refine lv_iload_n hx hb dX7_tried_71 rfl (lv_at hl 1 rfl) ?_
        refine lv_iconst (v := nI 1) hx hb dX7_tried_72 (by decide) ?_
        refine lv_icmp_ne (tgt := 84) hx hb dX7_tried_73 (by decide) (fun c_73 => ?_) (fun c_73 => absurd c_73 (by decide))
        refine lv_iload_n hx hb dX7_tried_84 rfl (lv_at hl 1 rfl) ?_
        refine lv_iconst (v := nI 2) hx hb dX7_tried_85 (by decide) ?_
        refine lv_icmp_ne (tgt := 97) hx hb dX7_tried_86 (by decide) (fun c_86 => ?_) (fun c_86 => absurd c_86 (by decide))
        refine lv_iload_n hx hb dX7_tried_97 rfl (lv_at hl 1 rfl) ?_
        refine lv_iconst (v := nI 3) hx hb dX7_tried_98 (by decide) ?_
        refine lv_icmp_ne (tgt := 110) hx hb dX7_tried_99 (by decide) (fun c_99 => ?_) (fun c_99 => absurd c_99 (by decide))
        refine lv_iload_n hx hb dX7_tried_110 rfl (lv_at hl 1 rfl) ?_
        refine lv_iconst (v := nI 4) hx hb dX7_tried_111 (by decide) ?_
        refine lv_icmp_ne (tgt := 123) hx hb dX7_tried_112 (by decide) (fun c_112 => ?_) (fun c_112 => absurd c_112 (by decide))
        refine lv_aload_n hx hb dX7_tried_123 rfl (lv_at hl 0 rfl) ?_
        refine lv_dload_n hx hb dX7_tried_124 rfl (lv_at hl 2 rfl) ?_
        refine lv_iconst (v := nI 2) hx hb dX7_tried_125 (by decide) ?_
        refine lv_aload_n hx hb dX7_tried_126 rfl (lv_at hl 0 rfl) ?_
        refine xpc (q := 127) rfl ?_
        refine gX7 hx hb hg hown hI hP 0 rfl 16 rfl mF_X7_48 rfl dX7_tried_127 ?_
        refine xcv (xV (As := [.double r, .int (nI 2), .ref (A 9)]) (rest := []) hx hb hml hown hg (r_midpoints l D cD cI cM cL A σ th t sh tl FP.dconst0 (nI 0) (bI (go && decide (5 = 3))) ks tk tz sp wd lv dn rf ev (A 9) y (v 1) (v 5) (v 6) (v 3) r 2 1 hk (ms2_bd hk) (by decide) (by decide) (fun q hq => by rcases (show q = 0 ∨ q = 1 by omega) with rfl | rfl <;> decide)) mM_X7_172 ok_X7_midpoints rfl rfl ⟨Nat.le_of_ble_eq_true rfl, Nat.le_of_ble_eq_true rfl⟩ hI hP hd rfl [0, 1, 2, 3, 4, 5, 7, 11, 12, 9] rfl rfl rfl rfl rfl hl.1 rfl (Nat.le_of_ble_eq_true rfl) dX7_tried_130 ⟨Nat.zero_le _, Nat.zero_le _⟩) hP hd hS (fa1 (pmS (pmS pm0)) (fa1 (pmS (pmS (pmS (pmS (pmS (pmS pm0)))))) (fa1 (pmS (pmS (pmS (pmS (pmS (pmS (pmS pm0))))))) (fa1 (pmS (pmS (pmS (pmS pm0)))) fa0)))) [7, 11, 12, 9] rfl rfl (fun _ => rfl) (fun u1 H locs hu hP hS => ?_)
        have hP : va_P D vwCl [(A 0, mO A th (nI (sn σ)) (nI (sc σ)) t sh tl FP.dconst0 (nI 0) (bI (go && decide (5 = 3))) ks tk tz sp wd lv dn rf ev), (A 1, iA cI 10 (so σ)), (A 2, iA cI 10 (sl σ)), (A 3, iA cI 10 (sr σ)), (A 4, dA cD 10 (sk σ)), (A 5, dA cD 3 y), (A 6, dA cD 3 (v 0)), (A 7, dA cD 3 u1.1), (A 8, dA cD 3 (v 2)), (A 9, dA cD 3 (mix (sn σ) (mie σ t y r 2) (v 3))), (A 10, dA cD 3 (v 4)), (A 11, dA cD 3 u1.2.1), (A 12, dA cD 3 u1.2.2), (A 13, dA cD 9 (v 7)), (A 14, dA cD 3 g), (A 15, dA cD 3 (v 9))] H := hP
        refine lv_aload_n hx hb dX7_tried_133 rfl (lv_at hl 0 rfl) ?_
        refine lv_dload_n hx hb dX7_tried_134 rfl (lv_at hl 2 rfl) ?_
        refine lv_iconst (v := nI 4) hx hb dX7_tried_135 (by decide) ?_
        refine lv_aload_n hx hb dX7_tried_136 rfl (lv_at hl 0 rfl) ?_
        refine gX7 hx hb hg hown hI hP 0 rfl 17 rfl mF_X7_51 rfl dX7_tried_137 ?_
        refine xcv (xV (As := [.double r, .int (nI 4), .ref (A 10)]) (rest := []) hx hb hml hown hg (r_midpoints l D cD cI cM cL A σ th t sh tl FP.dconst0 (nI 0) (bI (go && decide (5 = 3))) ks tk tz sp wd lv dn rf ev (A 10) y u1.1 u1.2.1 u1.2.2 (v 4) r 4 0 hk (ms4_bd hk) (by decide) (by decide) (fun q hq => by rcases (show q = 0 ∨ q = 1 ∨ q = 2 ∨ q = 3 by omega) with rfl | rfl | rfl | rfl <;> decide)) mM_X7_172 ok_X7_midpoints rfl rfl ⟨Nat.le_of_ble_eq_true rfl, Nat.le_of_ble_eq_true rfl⟩ hI hP hd rfl [0, 1, 2, 3, 4, 5, 7, 11, 12, 10] rfl rfl rfl rfl rfl hl.1 rfl (Nat.le_of_ble_eq_true rfl) dX7_tried_140 ⟨Nat.zero_le _, Nat.zero_le _⟩) hP hd hS (fa1 (pmS (pmS pm0)) (fa1 (pmS (pmS (pmS (pmS (pmS (pmS pm0)))))) (fa1 (pmS (pmS (pmS (pmS (pmS (pmS (pmS pm0))))))) (fa1 (pmS (pmS (pmS (pmS (pmS pm0))))) fa0)))) [7, 11, 12, 10] rfl rfl (fun _ => rfl) (fun u2 H locs hu hP hS => ?_)
        have hP : va_P D vwCl [(A 0, mO A th (nI (sn σ)) (nI (sc σ)) t sh tl FP.dconst0 (nI 0) (bI (go && decide (5 = 3))) ks tk tz sp wd lv dn rf ev), (A 1, iA cI 10 (so σ)), (A 2, iA cI 10 (sl σ)), (A 3, iA cI 10 (sr σ)), (A 4, dA cD 10 (sk σ)), (A 5, dA cD 3 y), (A 6, dA cD 3 (v 0)), (A 7, dA cD 3 u2.1), (A 8, dA cD 3 (v 2)), (A 9, dA cD 3 (mix (sn σ) (mie σ t y r 2) (v 3))), (A 10, dA cD 3 (mix (sn σ) (mie σ t y r 4) (v 4))), (A 11, dA cD 3 u2.2.1), (A 12, dA cD 3 u2.2.2), (A 13, dA cD 9 (v 7)), (A 14, dA cD 3 g), (A 15, dA cD 3 (v 9))] H := hP
        refine lv_iconst (v := nI 0) hx hb dX7_tried_143 (by decide) ?_
        refine lv_istore (lv' := [(4, .int (nI 0)), (0, .ref (A 0)), (1, .int (nI 5)), (2, .double r)]) hx hb dX7_tried_144 hl (by decide) rfl (fun ls hl => ?_)
        refine xfor (I := fun i H locs ls => ∃ (f' : Nat → UInt64), (f' = mix i (miz σ t y r) (v 0)) ∧ va_P D vwCl [(A 0, mO A th (nI (sn σ)) (nI (sc σ)) t sh tl FP.dconst0 (nI 0) (bI (go && decide (5 = 3))) ks tk tz sp wd lv dn rf ev), (A 1, iA cI 10 (so σ)), (A 2, iA cI 10 (sl σ)), (A 3, iA cI 10 (sr σ)), (A 4, dA cD 10 (sk σ)), (A 5, dA cD 3 y), (A 6, dA cD 3 f'), (A 7, dA cD 3 u2.1), (A 8, dA cD 3 (v 2)), (A 9, dA cD 3 (mix (sn σ) (mie σ t y r 2) (v 3))), (A 10, dA cD 3 (mix (sn σ) (mie σ t y r 4) (v 4))), (A 11, dA cD 3 u2.2.1), (A 12, dA cD 3 u2.2.2), (A 13, dA cD 9 (v 7)), (A 14, dA cD 3 g), (A 15, dA cD 3 (v 9))] H ∧ va_S (fun q => q ∈ ([A 0, A 6, A 7, A 8, A 9, A 10, A 11, A 12, A 13, A 14, A 15] : List Nat)) s.heap H locs ∧ lv_has ls 5 [(4, .int (nI i)), (0, .ref (A 0)), (1, .int (nI 5)), (2, .double r)]) (sn σ) 0 ⟨_, (mix_0 _ _).symm, hP, hS, lv_sub hl [0, 1, 2, 3] rfl⟩ (Nat.zero_le _) ?_ ?_
        ·
          intro i h_i ih H locs ls ⟨f', hf, hP, hS, hl⟩
          refine lv_iload hx hb dX7_tried_146 (lv_at hl 0 rfl) ?_
          refine lv_aload_n hx hb dX7_tried_148 rfl (lv_at hl 1 rfl) ?_
          refine gX7 hx hb hg hown hI hP 0 rfl 1 rfl mF_X7_7 rfl dX7_tried_149 ?_
          refine lv_icmp_ge (tgt := 195) hx hb dX7_tried_152 (by decide) (fun c_152 => absurd c_152 (nI_ge h_i (by omega))) (fun c_152 => ?_)
          refine lv_aload_n hx hb dX7_tried_155 rfl (lv_at hl 1 rfl) ?_
          refine gX7 hx hb hg hown hI hP 0 rfl 11 rfl mF_X7_39 rfl dX7_tried_156 ?_
          refine lv_iload hx hb dX7_tried_159 (lv_at hl 0 rfl) ?_
          refine xpc (q := 161) rfl ?_
          refine lv_aload_n hx hb dX7_tried_161 rfl (lv_at hl 1 rfl) ?_
          refine gX7 hx hb hg hown hI hP 0 rfl 17 rfl mF_X7_51 rfl dX7_tried_162 ?_
          refine lv_iload hx hb dX7_tried_165 (lv_at hl 0 rfl) ?_
          refine xdald hx hb hI hP 10 0 rfl rfl (Nat.lt_of_lt_of_le h_i hn) (by decide) dX7_tried_167 ?_
          refine xeqd (y := (mie σ t y r 4) i) (mix_lt h_i) ?_
          refine lv_aload_n hx hb dX7_tried_168 rfl (lv_at hl 1 rfl) ?_
          refine gX7 hx hb hg hown hI hP 0 rfl 17 rfl mF_X7_51 rfl dX7_tried_169 ?_
          refine lv_iload hx hb dX7_tried_172 (lv_at hl 0 rfl) ?_
          refine xdald hx hb hI hP 10 0 rfl rfl (Nat.lt_of_lt_of_le h_i hn) (by decide) dX7_tried_174 ?_
          refine xeqd (y := (mie σ t y r 4) i) (mix_lt h_i) ?_
          refine lv_aload_n hx hb dX7_tried_175 rfl (lv_at hl 1 rfl) ?_
          refine gX7 hx hb hg hown hI hP 0 rfl 16 rfl mF_X7_48 rfl dX7_tried_176 ?_
          refine lv_iload hx hb dX7_tried_179 (lv_at hl 0 rfl) ?_
          refine xdald hx hb hI hP 9 0 rfl rfl (Nat.lt_of_lt_of_le h_i hn) (by decide) dX7_tried_181 ?_
          refine xeqd (y := (mie σ t y r 2) i) (mix_lt h_i) ?_
          have b1 : bd 1 996 (FP.dsub ((mie σ t y r 4) i) ((mie σ t y r 2) i)) := bd_sub (me4_bd hk h_i) (me2_bd hk h_i) (by decide) (by decide) (by decide)
          refine lv_dsub hx hb dX7_tried_182 b1.nn ?_
          refine lv_ldc2d (v := k3) hx hb hown (hg _ mD_X7_119) dX7_tried_183 ?_
          refine xpc (q := 186) rfl ?_
          have b2 : bd 1 995 (FP.ddiv (FP.dsub ((mie σ t y r 4) i) ((mie σ t y r 2) i)) k3) := bd_div b1 lb_k3 (by decide) (by decide)
          refine lv_ddiv hx hb dX7_tried_186 b2.nn ?_
          have b3 : bd 1 996 (FP.dadd ((mie σ t y r 4) i) (FP.ddiv (FP.dsub ((mie σ t y r 4) i) ((mie σ t y r 2) i)) k3)) := bd_add (me4_bd hk h_i) b2 (by decide) (by decide) (by decide)
          refine lv_dadd hx hb dX7_tried_187 b3.nn ?_
          refine xdast hx hb hI hP hd rfl hS 6 0 rfl rfl (Nat.lt_of_lt_of_le h_i hn) (by decide) (pmS pm0) dX7_tried_188 (fun H locs hP hS => ?_)
          have hP : va_P D vwCl [(A 0, mO A th (nI (sn σ)) (nI (sc σ)) t sh tl FP.dconst0 (nI 0) (bI (go && decide (5 = 3))) ks tk tz sp wd lv dn rf ev), (A 1, iA cI 10 (so σ)), (A 2, iA cI 10 (sl σ)), (A 3, iA cI 10 (sr σ)), (A 4, dA cD 10 (sk σ)), (A 5, dA cD 3 y), (A 6, dA cD 3 (vf_upd f' i (FP.dadd ((mie σ t y r 4) i) (FP.ddiv (FP.dsub ((mie σ t y r 4) i) ((mie σ t y r 2) i)) k3)))), (A 7, dA cD 3 u2.1), (A 8, dA cD 3 (v 2)), (A 9, dA cD 3 (mix (sn σ) (mie σ t y r 2) (v 3))), (A 10, dA cD 3 (mix (sn σ) (mie σ t y r 4) (v 4))), (A 11, dA cD 3 u2.2.1), (A 12, dA cD 3 u2.2.2), (A 13, dA cD 9 (v 7)), (A 14, dA cD 3 g), (A 15, dA cD 3 (v 9))] H := hP
          refine lv_iinc (v := nI (i + 1)) (lv' := [(4, .int (nI (i + 1))), (0, .ref (A 0)), (1, .int (nI 5)), (2, .double r)]) hx hb dX7_tried_189 hl (k := 0) rfl (nI_1 i) (by decide) rfl (fun ls hl => ?_)
          refine lv_goto (tgt := 146) hx hb dX7_tried_192 (by decide) ?_
          exact ih _ _ _ ⟨_, mix_s hf rfl, hP, hS, lv_sub hl [0, 1, 2, 3] rfl⟩
        ·
          intro H locs ls ⟨f', hf, hP, hS, hl⟩
          refine lv_iload hx hb dX7_tried_146 (lv_at hl 0 rfl) ?_
          refine lv_aload_n hx hb dX7_tried_148 rfl (lv_at hl 1 rfl) ?_
          refine gX7 hx hb hg hown hI hP 0 rfl 1 rfl mF_X7_7 rfl dX7_tried_149 ?_
          refine lv_icmp_ge (tgt := 195) hx hb dX7_tried_152 (by decide) (fun c_152 => ?_) (fun c_152 => absurd (Int32.le_refl _) c_152)
          subst hf
          exact K1 _ _ _ ⟨lk [mix (sn σ) (miz σ t y r) (v 0), u2.1, v 2, mix (sn σ) (mie σ t y r 2) (v 3), mix (sn σ) (mie σ t y r 4) (v 4), u2.2.1, u2.2.2, v 7, fun _ => FP.dconst0, v 9], false, _, rfl, (fun z hz => by cases hz; exact fun i hi => mix_lt hi), trivial, hP, hS, lv_sub hl [1, 2, 3] rfl⟩
  ·
    refine lv_aload_n hx hb dX7_tried_10 rfl (lv_at hl 0 rfl) ?_
    refine lv_aload_n hx hb dX7_tried_11 rfl (lv_at hl 0 rfl) ?_
    refine gX7 hx hb hg hown hI hP 0 rfl 21 rfl mF_X7_136 rfl dX7_tried_12 ?_
    refine lv_if_eq (tgt := 27) hx hb dX7_tried_15 (by decide) (fun c_15 => ?_) (fun c_15 => ?_)
    ·
      refine lv_iconst (v := nI 0) hx hb dX7_tried_27 (by decide) ?_
      refine xeqi (y := bI (go && decide (mm = 3))) (bI0 (by rw [bI_eq0.mp c_15]; rfl)) ?_
      exact K0 _ _ _ ⟨trivial, hP, hS, lv_sub hl [0, 1, 2] rfl⟩
    ·
      refine lv_iload_n hx hb dX7_tried_18 rfl (lv_at hl 1 rfl) ?_
      refine lv_iconst (v := nI 3) hx hb dX7_tried_19 (by decide) ?_
      refine lv_icmp_ne (tgt := 27) hx hb dX7_tried_20 (by decide) (fun c_20 => ?_) (fun c_20 => ?_)
      ·
        refine lv_iconst (v := nI 0) hx hb dX7_tried_27 (by decide) ?_
        refine xeqi (y := bI (go && decide (mm = 3))) (bI0 (by rw [df (fun h => c_20 (by rw [h])), Bool.and_false])) ?_
        exact K0 _ _ _ ⟨trivial, hP, hS, lv_sub hl [0, 1, 2] rfl⟩
      ·
        refine lv_iconst (v := nI 1) hx hb dX7_tried_23 (by decide) ?_
        refine lv_goto (tgt := 28) hx hb dX7_tried_24 (by decide) ?_
        refine xeqi (y := bI (go && decide (mm = 3))) (bI1 (by rw [bI_ne0.mp c_15, dt ((nI_eq (by omega) (by decide)).mp c_20)]; rfl)) ?_
        exact K0 _ _ _ ⟨trivial, hP, hS, lv_sub hl [0, 1, 2] rfl⟩
