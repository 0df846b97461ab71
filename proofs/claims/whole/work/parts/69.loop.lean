set_option maxHeartbeats 4000000 in
set_option maxRecDepth 100000 in
/-- the law's loop: k calls are done, the rounds n are more than enough -/
theorem law_loop {p : Program} {e : Env} {s : State} {m : MethodId} {below : List Frame} {meth : Method} {c : Code} (l : Launch) (htr : l.stackTraces = false) {b L : Nat} {xs : Nat → Int32} (hL : L ≤ 2560) (C0 : lw_At p s m meth c b L xs) {D : va_G} {cD cI cM cL : ClassId} {A B : Nat → Nat} {rw : Nat → Option Nat} {oL oD : Nat} (hLX : LX D cD cI cM cL A B rw oL oD s) :
    ∀ (n k : Nat), 5 * k ≤ L → L < 5 * k + 5 * n → ∀ (S : St) (v w : Nat → Nat → UInt64) (th fl : Int32) (fL : Nat → Int64) (fD : Nat → UInt64) (H : Heap) (locs : List Loc) (ls : Array Slot), LH D cD cI cM cL A B rw oL oD (104 * k) (100 * k) S v w th fl fL fD H → va_S (fun q => s.heap.size ≤ q) s.heap H locs → lv_has ls 10 [(5, .int (nI (5 * k))), (0, .ref b), (1, .ref (A 0)), (2, .ref (B 0)), (3, .ref oL), (4, .ref oD)] →
      W p l e room_1 s m #[Value.ref b] below meth c H locs (57 + k) (306 + 6 * k) (lw_Z below #[Value.ref b] s) (F0 m 28 ls [])
  | 0, k, h1, h2 => absurd h2 (by omega)
  | n + 1, k, h1, h2 => by
    intro S v w th fl fL fD H locs ls hH hS hl
    obtain ⟨hx, hb, hr, hml, hown, hts, hX, hbl, hlocks, hgv⟩ := id C0
    have hbA : ¬ (fun q : Nat => s.heap.size ≤ q) b := Nat.not_le.mpr hbl
    refine lv_iload hx hb dL_law_28 (lv_at hl 0 rfl) ?_
    refine lv_aload_n hx hb dL_law_30 rfl (lv_at hl 1 rfl) ?_
    refine va_slen hx hb hX hbl hbA hS dL_law_31 ?_
    refine lv_iconst (v := nI 5) hx hb dL_law_32 (by decide) ?_
    refine lv_isub hx hb dL_law_33 ?_
    have e1 : (nI L - nI 5).toInt = (L : Int) - 5 := pk_sub_toInt (by omega) (by decide)
    have e2 : (nI (5 * k)).toInt = ((5 * k : Nat) : Int) := nI_toInt (by omega)
    refine lv_icmp_gt (tgt := 1028) hx hb dL_law_34 (by decide) (fun c_34 => ?_) (fun c_34 => ?_)
    · refine lv_iconst (v := 1) hx hb dL_law_1028 (by decide) ?_
      refine va_forget hS.2.2 ?_
      refine W.widen (k := 662564) (n := 7108413) (by omega) (by omega) ?_
      exact lw_ret hx hb hr hlocks dL_law_1029
    · have hk : 5 * k + 5 ≤ L := by
        have h3 : ¬ (nI L - nI 5) < nI (5 * k) := c_34
        rw [Int32.lt_iff_toInt_lt, e1, e2] at h3
        omega
      have kk : ∀ (S2 : St) (v2 w2 : Nat → Nat → UInt64) (th2 fl2 : Int32) (fL2 : Nat → Int64) (fD2 : Nat → UInt64) (H2 : Heap) (locs2 : List Loc) (ls2 : Array Slot), LH D cD cI cM cL A B rw oL oD (104 * k + 104) (100 * k + 100) S2 v2 w2 th2 fl2 fL2 fD2 H2 → va_S (fun q => s.heap.size ≤ q) s.heap H2 locs2 → lv_has ls2 10 [(5, .int (nI (5 * k))), (0, .ref b), (1, .ref (A 0)), (2, .ref (B 0)), (3, .ref oL), (4, .ref oD)] → W p l e room_1 s m #[Value.ref b] below meth c H2 locs2 (57 + k + 1) (306 + 6 * k + 6) (lw_Z below #[Value.ref b] s) (F0 m 1022 ls2 []) := by
        intro S2 v2 w2 th2 fl2 fL2 fD2 H2 locs2 ls2 hH2 hS2 hl2
        refine lv_iinc (v := nI (5 * (k + 1))) (lv' := [(5, .int (nI (5 * (k + 1)))), (0, .ref b), (1, .ref (A 0)), (2, .ref (B 0)), (3, .ref oL), (4, .ref oD)]) hx hb dL_law_1022 hl2 (k := 0) rfl (nI_add (5 * k) 5) (by decide) rfl (fun ls3 hl3 => ?_)
        refine lv_goto (tgt := 28) hx hb dL_law_1025 (by decide) ?_
        exact law_loop l htr hL C0 hLX n (k + 1) (by omega) (by omega) S2 v2 w2 th2 fl2 fL2 fD2 H2 locs2 ls3 hH2 hS2 hl3
      refine xpc (q := 37) rfl ?_
      refine lv_aload_n hx hb dL_law_37 rfl (lv_at hl 1 rfl) ?_
      refine lv_iload hx hb dL_law_38 (lv_at hl 0 rfl) ?_
      refine xsld hx hb hX hbl hbA hS (j := 5 * k) (by omega) (by omega) dL_law_40 ?_
      refine lv_bipush (v := nI 15) hx hb dL_law_41 (by decide) ?_
      refine lv_iand hx hb dL_law_43 ?_
      obtain ⟨t, ht, hxt⟩ := and15 (xs (5 * k))
      refine xeqi hxt ?_
      have hN : 104 * k + 104 ≤ 53352 := by omega
      have hE : 100 * k + 100 < 2 ^ 29 := by omega
      have hc1 : 57 + k + 1 ≤ 662564 := by omega
      have hs1 : 306 + 6 * k + 6 ≤ 7108413 := by omega
      refine xpc (q := 44) rfl ?_
      rcases (show t = 0 ∨ t = 1 ∨ t = 2 ∨ t = 3 ∨ t = 4 ∨ t = 5 ∨ t = 6 ∨ t = 7 ∨ t = 8 ∨ t = 9 ∨ t = 10 ∨ t = 11 ∨ t = 12 ∨ t = 13 ∨ t = 14 ∨ t = 15 by omega) with rfl | rfl | rfl | rfl | rfl | rfl | rfl | rfl | rfl | rfl | rfl | rfl | rfl | rfl | rfl | rfl
      · refine lv_tableIn (tgt := 120) hx hb dL_law_44 (by decide) (by decide) (off := 76) (by decide) (by decide) ?_
        exact law_c0 l htr hL C0 hLX hN hE hk hc1 hs1 hH hS hl kk
      · refine lv_tableIn (tgt := 156) hx hb dL_law_44 (by decide) (by decide) (off := 112) (by decide) (by decide) ?_
        exact law_c1 l htr hL C0 hLX hN hE hk hc1 hs1 hH hS hl kk
      · refine lv_tableIn (tgt := 258) hx hb dL_law_44 (by decide) (by decide) (off := 214) (by decide) (by decide) ?_
        exact law_c2 l htr hL C0 hLX hN hE hk hc1 hs1 hH hS hl kk
      · refine lv_tableIn (tgt := 316) hx hb dL_law_44 (by decide) (by decide) (off := 272) (by decide) (by decide) ?_
        exact law_c3 l htr hL C0 hLX hN hE hk hc1 hs1 hH hS hl kk
      · refine lv_tableIn (tgt := 384) hx hb dL_law_44 (by decide) (by decide) (off := 340) (by decide) (by decide) ?_
        exact law_c4 l htr hL C0 hLX hN hE hk hc1 hs1 hH hS hl kk
      · refine lv_tableIn (tgt := 420) hx hb dL_law_44 (by decide) (by decide) (off := 376) (by decide) (by decide) ?_
        exact law_c5 l htr hL C0 hLX hN hE hk hc1 hs1 hH hS hl kk
      · refine lv_tableIn (tgt := 498) hx hb dL_law_44 (by decide) (by decide) (off := 454) (by decide) (by decide) ?_
        exact law_c6 l htr hL C0 hLX hN hE hk hc1 hs1 hH hS hl kk
      · refine lv_tableIn (tgt := 556) hx hb dL_law_44 (by decide) (by decide) (off := 512) (by decide) (by decide) ?_
        exact law_c7 l htr hL C0 hLX hN hE hk hc1 hs1 hH hS hl kk
      · refine lv_tableIn (tgt := 569) hx hb dL_law_44 (by decide) (by decide) (off := 525) (by decide) (by decide) ?_
        exact law_c8 l htr hL C0 hLX hN hE hk hc1 hs1 hH hS hl kk
      · refine lv_tableIn (tgt := 646) hx hb dL_law_44 (by decide) (by decide) (off := 602) (by decide) (by decide) ?_
        exact law_c9 l htr hL C0 hLX hN hE hk hc1 hs1 hH hS hl kk
      · refine lv_tableIn (tgt := 723) hx hb dL_law_44 (by decide) (by decide) (off := 679) (by decide) (by decide) ?_
        exact law_c10 l htr hL C0 hLX hN hE hk hc1 hs1 hH hS hl kk
      · refine lv_tableIn (tgt := 800) hx hb dL_law_44 (by decide) (by decide) (off := 756) (by decide) (by decide) ?_
        exact law_c11 l htr hL C0 hLX hN hE hk hc1 hs1 hH hS hl kk
      · refine lv_tableIn (tgt := 899) hx hb dL_law_44 (by decide) (by decide) (off := 855) (by decide) (by decide) ?_
        exact law_c12 l htr hL C0 hLX hN hE hk hc1 hs1 hH hS hl kk
      · refine lv_tableIn (tgt := 940) hx hb dL_law_44 (by decide) (by decide) (off := 896) (by decide) (by decide) ?_
        exact law_c13 l htr hL C0 hLX hN hE hk hc1 hs1 hH hS hl kk
      · refine lv_tableIn (tgt := 981) hx hb dL_law_44 (by decide) (by decide) (off := 937) (by decide) (by decide) ?_
        exact law_c14 l htr hL C0 hLX hN hE hk hc1 hs1 hH hS hl kk
      · refine lv_tableOut (tgt := 1022) hx hb dL_law_44 (by decide) (by decide) ?_
        refine W.widen (k := 57 + k + 1) (n := 306 + 6 * k + 6) (by omega) (by omega) ?_
        obtain ⟨hv, hrest⟩ := hH
        exact kk S v w th fl fL fD H locs ls ⟨hv.mono (Int.ofNat_le.mpr (Nat.mul_le_mul_right _ (by omega))) (by omega), hrest⟩ hS hl
