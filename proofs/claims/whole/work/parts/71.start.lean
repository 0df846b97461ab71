section XBR
variable {p : Program} {l : Launch} {e : Env} {R : Room} {s : State} {m : MethodId} {args : Array Value} {below : List Frame} {meth : Method} {c : Code} {H : Heap} {locs : List Loc} {cells slots : Nat} {Q : State → Prop}
variable {cc : ByteArray} {pc : Nat} {ls : Array Slot} {rest st0 : List Value} {D : va_G} {A : Nat → Prop} {H0 : Heap} {a : Array Value} {w1 ws : va_W} {h mc ms ad0 : Nat} {cD cI cM cL : ClassId} {as : List Nat}
/-- back from the class's constructor -/
theorem xbackR (hr : va_Run p l e R s m args below meth c H locs cells slots mc ms (F0 m pc ls st0) rest (zR D [ad0] h w1 a) (zA [ad0] h)) (hH : H.size = h) (hS : va_S A H0 H locs) (hA0 : A ad0) (hA : ∀ q, h ≤ q → A q)
    (kk : ∀ (H1 : Heap) (locs1 : List Loc), va_P D vwCl w1 H1 → va_S A H0 H1 locs1 → W p l e R s m args below meth c H1 locs1 (cells + mc) (slots + ms) Q (F0 m (pc + 3) ls rest)) : W p l e R s m args below meth c H locs cells slots Q (F0 m pc ls st0) := by
  intro T hT X
  obtain ⟨v, st₀, t, T', L, h0, X', hL, e4, e5, ⟨hv, hPu, hF⟩, st⟩ := hr T hT X
  cases hv
  obtain ⟨hz, hk⟩ := hF
  rw [h0] at hz hk
  have hAll : ∀ q, zA [ad0] h q → A q := fun q hq => hq.elim (fun x => by rw [List.mem_singleton.mp x]; exact hA0) (hA q)
  obtain ⟨t2, a1, b1⟩ := kk T'.heap (locs ++ L) (by rw [e4]; exact hPu) ⟨Nat.le_trans hS.1 (by rw [e4]; exact hz), fun q h1 h2 => by rw [e4, hk q (Nat.lt_of_lt_of_le h1 hS.1) (fun z => h2 (hAll q z))]; exact hS.2.1 q h1 h2, fun q hq => by
      rcases List.mem_append.mp hq with h | h
      · exact hS.2.2 q h
      · exact hAll _ (hL q h)⟩ T' rfl X'
  exact ⟨t2, st t2 a1, b1⟩
theorem xnewL (hx : p.tables.exec = Jvm.exec) (hb : c.code = cc) (hg : ∀ w ∈ lw_good, w.before args s = true) (hI : xI D (tyL cD cI cM cL) s) (hP : va_P D vwCl ws H) (hd : dj as) (e1 : ws.map Prod.fst = as) (hS : va_S A H0 H locs) {h : Nat} (hH : H.size = h) {N : Nat} (hN : N ≤ 100) (hc : cells + 1 ≤ R.cells) (hs : slots + N ≤ R.slots) (hdg : decode cc pc = .ok (.newarray .long, 2))
    (kk : ∀ H1 : Heap, va_P D vwCl (ws ++ [(h, lA cL N (fun _ => 0))]) H1 → dj (as ++ [h]) → H1.size = h + 1 → va_S A H0 H1 locs → W p l e R s m args below meth c H1 locs (cells + 1) (slots + N) Q (F0 m (pc + 2) ls (.ref h :: rest))) : W p l e R s m args below meth c H locs cells slots Q (F0 m pc ls (.int (nI N) :: rest)) := by
  have hcl : (nI N).toNatClampNeg = N := nI_clamp (by omega)
  have hin : vp_in (nI N) (N + 1) := vp_in_nI (Nat.lt_succ_self N) (by omega)
  refine va_newaK (atype := .long) hx hb (hg _ mA_long) rfl hdg rfl (fun q => hin (Or.inl q)) hcl (by show N * 8 ≤ _; omega) hc hs hH fun H1 cA a1 z1 o1 hAr hNm => ?_
  have hid : cA = cL := Option.some.inj (hNm.symm.trans (hI.1.2 3 _ rfl).2)
  subst hid
  have hlt := va_P_lt hP e1
  rw [hH] at hlt
  refine kk H1 ((hP.kept fun k x hk => o1 x.1 (by rw [← hH]; exact (hP k x hk).lt)).app (fun k x hk => ?_)) (dj_push hd hlt) z1 ⟨Nat.le_trans hS.1 (by omega), fun q h1 h2 => (o1 q (by rw [← hH]; exact Nat.lt_of_lt_of_le h1 hS.1)).trans (hS.2.1 q h1 h2), hS.2.2⟩
  have hz : k < 1 := (List.getElem?_eq_some_iff.mp hk).1
  rw [show k = 0 by omega] at hk
  cases hk
  show H1[h]? = some (vp_cell _ _)
  rw [vp_cell_l]
  exact a1
end XBR
theorem dj_add (q n : Nat) : dj ((List.range n).map (fun k => q + k)) := by
  have key : ∀ (i a : Nat), ((List.range n).map (fun k => q + k))[i]? = some a → a = q + i := by
    intro i a hi
    rw [List.getElem?_map] at hi
    by_cases h : i < n
    · rw [List.getElem?_range h] at hi
      cases hi
      rfl
    · rw [List.getElem?_eq_none (by rw [List.length_range]; omega)] at hi
      cases hi
  intro i j a hi hj
  have := key i a hi
  have := key j a hj
  omega
theorem mem_add {q n x : Nat} (h : x ∈ (List.range n).map (fun k => q + k)) : q ≤ x ∧ x < q + n := by
  obtain ⟨k, hk, rfl⟩ := List.mem_map.mp h
  have := List.mem_range.mp hk
  omega
theorem dj_app {a b : List Nat} (ha : dj a) (hb : dj b) (hx : ∀ x ∈ b, x ∉ a) : dj (a ++ b) := by
  intro i j x hi hj
  by_cases h1 : i < a.length <;> by_cases h2 : j < a.length
  · rw [List.getElem?_append_left h1] at hi
    rw [List.getElem?_append_left h2] at hj
    exact ha i j x hi hj
  · rw [List.getElem?_append_left h1] at hi
    rw [List.getElem?_append_right (by omega)] at hj
    exact absurd (List.mem_of_getElem? hi) (hx x (List.mem_of_getElem? hj))
  · rw [List.getElem?_append_right (by omega)] at hi
    rw [List.getElem?_append_left h2] at hj
    exact absurd (List.mem_of_getElem? hj) (hx x (List.mem_of_getElem? hi))
  · rw [List.getElem?_append_right (by omega)] at hi hj
    have := hb _ _ x hi hj
    omega
/-- a new object's state -/
theorem inv_new : Inv ((104 * 0 * 2 ^ 1074 : Nat) : Int) (100 * 0) (sysS S00 1) := by
  refine ⟨⟨Nat.le_refl 1, by show 1 ≤ 3; decide, by show 0 ≤ 10; decide, fun k hk => absurd hk (Nat.not_lt_zero _)⟩, ⟨b_0.1, by show 0 ≤ zv FP.dconst0; rw [z0]; exact Int.le_refl _, by show zv FP.dconst0 ≤ _; rw [z0, Nat.mul_zero, Nat.zero_mul]; exact Int.le_refl _⟩, ⟨b_k0_125.up (by decide), by show 0 ≤ zv k0_125; decide +kernel⟩, ⟨b_k0_125.up (by decide), by show 0 < zv k0_125; decide +kernel⟩, fun k hk => ?_, fun q => (Bool.false_ne_true q).elim, fun q => (Bool.false_ne_true q).elim, fun q => (Bool.false_ne_true q).elim, Nat.le_refl _⟩
  show bd 1 20 (mix 3 (fun _ => FP.dconst0) (gy S00) k)
  have hk : k < 1 := hk
  rw [mix_lt (show k < 3 by omega)]
  exact b_0.up (by decide)
theorem gy_new : gy (sysS S00 1) = fun _ => FP.dconst0 := by
  show mix 3 (fun _ => FP.dconst0) (fun _ => FP.dconst0) = _
  funext j
  unfold mix
  split <;> rfl
set_option maxHeartbeats 4000000 in
set_option maxRecDepth 100000 in
theorem st_cl {args : Array Value} {s : State} (hts : ∀ w ∈ lw_tbl, w.before args s = true) : ∃ (dC : Nat → ClassId) (dI : Nat → Nat → Nat), ∀ (k : Nat) (q : vw_C), vwCl[k]? = some q → u_Kn s q.1 q.2.1 q.2.2 (dC k) (dI k) := by
  have hg := lw_sub hts
  obtain ⟨c0, i0, h0⟩ := u_known (C := RX0) (T := TX0) (N := 6) (n := 6) hg iX0 (hg _ mZ_X0)
  obtain ⟨c1, i1, h1⟩ := u_known (C := RX1) (T := TX1) (N := 4) (n := 4) hg iX1 (hg _ mZ_X1)
  obtain ⟨c2, i2, h2⟩ := u_known (C := RX2) (T := TX2) (N := 8) (n := 8) hg iX2 (hg _ mZ_X2)
  obtain ⟨c3, i3, h3⟩ := u_known (C := RX3) (T := TX3) (N := 6) (n := 6) hg iX3 (hg _ mZ_X3)
  obtain ⟨c4, i4, h4⟩ := u_known (C := RX4) (T := TX4) (N := 13) (n := 13) hg iX4 (hg _ mZ_X4)
  obtain ⟨c5, i5, h5⟩ := u_known (C := RX5) (T := TX5) (N := 5) (n := 5) hg iX5 (hg _ mZ_X5)
  obtain ⟨c6, i6, h6⟩ := u_known (C := RX6) (T := TX6) (N := 12) (n := 12) hg iX6 (hg _ mZ_X6)
  obtain ⟨c7, i7, h7⟩ := u_known (C := RX7) (T := TX7) (N := 37) (n := 37) hg iX7 (hg _ mZ_X7)
  refine ⟨fun k => match k with | 0 => c0 | 1 => c1 | 2 => c2 | 3 => c3 | 4 => c4 | 5 => c5 | 6 => c6 | _ => c7, fun k => match k with | 0 => i0 | 1 => i1 | 2 => i2 | 3 => i3 | 4 => i4 | 5 => i5 | 6 => i6 | _ => i7, ?_⟩
  intro k q hq
  match k, hq with
  | 0, hq => cases hq; exact h0
  | 1, hq => cases hq; exact h1
  | 2, hq => cases hq; exact h2
  | 3, hq => cases hq; exact h3
  | 4, hq => cases hq; exact h4
  | 5, hq => cases hq; exact h5
  | 6, hq => cases hq; exact h6
  | 7, hq => cases hq; exact h7
  | k + 8, hq => simp [vwCl] at hq
set_option maxHeartbeats 4000000 in
set_option maxRecDepth 100000 in
/-- THE LAW, from its entry -/
theorem whole_start {p : Program} {e : Env} {s : State} {m : MethodId} {below : List Frame} {meth : Method} {c : Code} (l : Launch) (htr : l.stackTraces = false) {b L : Nat} {xs : Nat → Int32} (hL : L ≤ 2560) (C0 : lw_At p s m meth c b L xs) : W p l e room_1 s m #[Value.ref b] below meth c s.heap [] 0 0 (lw_Z below #[Value.ref b] s) (entryFrame m ([Value.ref b] : List Value).toArray 10) := by
  obtain ⟨hx, hb, hr, hml, hown, hts, hX, hbl, hlocks, hgv⟩ := id C0
  have hg := lw_sub hts
  have hown : s.vm.findClass RL = some m.cls := hown
  obtain ⟨dC, dI, hKc⟩ := st_cl hts
  obtain ⟨cD, aD, nD⟩ := arr_k (hg _ mA_double)
  obtain ⟨cI, aI, nI_⟩ := arr_k (hg _ mA_int)
  obtain ⟨cM, aM, nM⟩ := arr_o (hts _ st_over)
  obtain ⟨cL, aL, nL⟩ := arr_k (hg _ mA_long)
  obtain ⟨D, hDe⟩ : ∃ D : va_G, D = (dC, dI) := ⟨_, rfl⟩
  have hK : va_K D vwCl (tyL cD cI cM cL) s := by
    rw [hDe]
    refine ⟨hKc, fun k q hk => ?_⟩
    match k, hk with
    | 0, hk => cases hk; exact ⟨aD, nD⟩
    | 1, hk => cases hk; exact ⟨aI, nI_⟩
    | 2, hk => cases hk; exact ⟨aM, nM⟩
    | 3, hk => cases hk; exact ⟨aL, nL⟩
    | k + 4, hk => simp at hk
  have hI : xI D (tyL cD cI cM cL) s := ⟨hK, st_nst hts⟩
  have hO : va_AOA .double s := va_AOA.of (hts _ st_over)
  have hA : ∀ q : Nat, s.heap.size ≤ q → (fun q : Nat => s.heap.size ≤ q) q := fun _ h => h
  have hl := lv_entry ([.ref b]) (n := 10) (Nat.le_of_ble_eq_true rfl)
  rw [lg_entry_eq]
  generalize (lg_sl ([.ref b]) ++ List.replicate (10 - (lg_sl ([.ref b])).length) Slot.unset).toArray = ls at hl ⊢
  have hl : lv_has ls 10 [(0, .ref b)] := hl
  have hP : va_P D vwCl [] s.heap := fun k q h => by simp at h
  have hd : dj [] := fun i j a h => by simp at h
  have hS : va_S (fun q : Nat => s.heap.size ≤ q) s.heap s.heap [] := va_S.rf
  obtain ⟨q0, hq0⟩ : ∃ q0, s.heap.size = q0 := ⟨_, rfl⟩
  refine xnewO (ci := 6) (fs := [.null, .null, .null, .null, .null, .null, .double FP.dconst0, .double FP.dconst0, .double FP.dconst0, .int (nI 0), .int (nI 0), .int (nI 0)]) hx hb hg iX6 tyX6 tyX6_ok hown mK_L_8 mZ_X6 mN_X6 hI hP hd rfl hS rfl rfl (fun j hj => by rcases (show j = 0 ∨ j = 1 ∨ j = 2 ∨ j = 3 ∨ j = 4 ∨ j = 5 ∨ j = 6 ∨ j = 7 ∨ j = 8 ∨ j = 9 ∨ j = 10 ∨ j = 11 by omega) with rfl | rfl | rfl | rfl | rfl | rfl | rfl | rfl | rfl | rfl | rfl | rfl <;> rfl) (Nat.le_of_ble_eq_true rfl) (Nat.le_of_ble_eq_true rfl) dL_law_0 (fun H hP hd hH hS => ?_)
  refine lv_dup hx hb dL_law_3 rfl ?_
  refine xbackR (xIrA (As := []) (rest := [.ref s.heap.size]) hx hb hml hown hg (c_newX6 l D cD cI cM cL s.heap.size) mM_L_57 ok_X6_init rfl rfl ⟨Nat.le_of_ble_eq_true rfl, Nat.le_of_ble_eq_true rfl⟩ hO hI hP hd rfl hH [0] rfl rfl rfl hl.1 rfl (Nat.le_of_ble_eq_true rfl) dL_law_4 ⟨Nat.le_of_ble_eq_true rfl, Nat.le_of_ble_eq_true rfl⟩) hH hS (Nat.le_refl _) (fun q hq => Nat.le_trans (Nat.le_succ _) hq) (fun H locs hPc hS => ?_)
  have hPc : va_P D vwCl (cW (fun k => s.heap.size + k) (fun i => if i < 3 then some (s.heap.size + 17 + i) else none) cD cI cM (gσ (sysS S00 1)) (sysS S00 1) v00) H := hPc
  refine lv_astore_n (lv' := [(1, .ref s.heap.size), (0, .ref b)]) hx hb dL_law_7 rfl hl (by decide) rfl (fun ls hl => ?_)
  obtain ⟨q1, hq1⟩ : ∃ q1, H.size = q1 := ⟨_, rfl⟩
  have hlt1 := va_P_lt hPc cW_ad
  have hq35 : s.heap.size + 34 < q1 := by rw [← hq1]; exact hlt1 _ (cAd_m (k := 34) rfl)
  have hdC : dj (cAd (fun k => s.heap.size + k)) := dj_add s.heap.size 35
  refine xnewO (ci := 7) (fs := [.int (nI 0), .int (nI 0), .int (nI 0), .null, .null, .null, .null, .double FP.dconst0, .double FP.dconst0, .double FP.dconst0, .null, .null, .double FP.dconst0, .int (nI 0), .null, .null, .null, .null, .null, .null, .null, .int (nI 0), .double FP.dconst0, .null, .null, .int (nI 0), .double FP.dconst0, .double FP.dconst0, .null, .null, .null, .int (nI 0), .double FP.dconst0, .int (nI 0), .int (nI 0), .int (nI 0), .null]) hx hb hg iX7 tyX7 tyX7_ok hown mK_L_58 mZ_X7 mN_X7 hI hPc hdC cW_ad hS hq1 rfl (fun j hj => by rcases (show j = 0 ∨ j = 1 ∨ j = 2 ∨ j = 3 ∨ j = 4 ∨ j = 5 ∨ j = 6 ∨ j = 7 ∨ j = 8 ∨ j = 9 ∨ j = 10 ∨ j = 11 ∨ j = 12 ∨ j = 13 ∨ j = 14 ∨ j = 15 ∨ j = 16 ∨ j = 17 ∨ j = 18 ∨ j = 19 ∨ j = 20 ∨ j = 21 ∨ j = 22 ∨ j = 23 ∨ j = 24 ∨ j = 25 ∨ j = 26 ∨ j = 27 ∨ j = 28 ∨ j = 29 ∨ j = 30 ∨ j = 31 ∨ j = 32 ∨ j = 33 ∨ j = 34 ∨ j = 35 ∨ j = 36 by omega) with rfl | rfl | rfl | rfl | rfl | rfl | rfl | rfl | rfl | rfl | rfl | rfl | rfl | rfl | rfl | rfl | rfl | rfl | rfl | rfl | rfl | rfl | rfl | rfl | rfl | rfl | rfl | rfl | rfl | rfl | rfl | rfl | rfl | rfl | rfl | rfl | rfl <;> rfl) (Nat.le_of_ble_eq_true rfl) (Nat.le_of_ble_eq_true rfl) dL_law_8 (fun H hP hd hH hS => ?_)
  refine lv_dup hx hb dL_law_11 rfl ?_
  refine xbackN (wk := cW (fun k => s.heap.size + k) (fun i => if i < 3 then some (s.heap.size + 17 + i) else none) cD cI cM (gσ (sysS S00 1)) (sysS S00 1) v00) (ad0 := q1) (x0 := .inr (7, [.int (nI 0), .int (nI 0), .int (nI 0), .null, .null, .null, .null, .double FP.dconst0, .double FP.dconst0, .double FP.dconst0, .null, .null, .double FP.dconst0, .int (nI 0), .null, .null, .null, .null, .null, .null, .null, .int (nI 0), .double FP.dconst0, .null, .null, .int (nI 0), .double FP.dconst0, .double FP.dconst0, .null, .null, .null, .int (nI 0), .double FP.dconst0, .int (nI 0), .int (nI 0), .int (nI 0), .null])) (xIr (As := []) (rest := [.ref q1]) hx hb hml hown hg (c_newX7 l D cD cI cM cL q1 (q1 + 1)) mM_L_60 ok_X7_init rfl rfl ⟨Nat.le_of_ble_eq_true rfl, Nat.le_of_ble_eq_true rfl⟩ hI hP hd rfl hH [35] rfl rfl rfl hl.1 rfl (Nat.le_of_ble_eq_true rfl) dL_law_12 ⟨Nat.le_of_ble_eq_true rfl, Nat.le_of_ble_eq_true rfl⟩) hH hP hd rfl hS (show s.heap.size ≤ q1 by omega) (fun q hq => (show s.heap.size ≤ q by omega)) (fun H locs hP hH hS => ?_)
  have hPc : va_P D vwCl (cW (fun k => s.heap.size + k) (fun i => if i < 3 then some (s.heap.size + 17 + i) else none) cD cI cM (gσ (sysS S00 1)) (sysS S00 1) v00) H := hP.l
  have hPr := hP.r
  have hPm : va_P D vwCl (mW (fun k => q1 + k) cD cI (gσ (sysS S00 1)) (sysS S00 1) (nI 0) (nI 0) v00) H := by
    unfold mW
    rw [gy_new]
    exact hPr
  refine lv_astore_n (lv' := [(2, .ref q1), (1, .ref s.heap.size), (0, .ref b)]) hx hb dL_law_15 rfl hl (by decide) rfl (fun ls hl => ?_)
  have hdM : dj (mAd (fun k => q1 + k)) := dj_add q1 20
  have hdA : dj (cAd (fun k => s.heap.size + k) ++ mAd (fun k => q1 + k)) := dj_app hdC hdM (fun x hx1 hx2 => by have := mem_add hx1; have := mem_add hx2; omega)
  have hH : H.size = q1 + 20 := hH
  refine lv_iconst (v := nI 1) hx hb dL_law_16 (by decide) ?_
  refine xnewL hx hb hg hI (hPc.app hPm) hdA rfl hS hH (by decide) (Nat.le_of_ble_eq_true rfl) (Nat.le_of_ble_eq_true rfl) dL_law_17 (fun H hP hd hH hS => ?_)
  have hPl := hP.r
  have hP0 := hP.l
  refine lv_astore_n (lv' := [(3, .ref (q1 + 20)), (2, .ref q1), (1, .ref s.heap.size), (0, .ref b)]) hx hb dL_law_19 rfl hl (by decide) rfl (fun ls hl => ?_)
  refine lv_iconst (v := nI 1) hx hb dL_law_20 (by decide) ?_
  refine xnewD hx hb hg hI hP hd rfl hS hH (by decide) (Nat.le_of_ble_eq_true rfl) (Nat.le_of_ble_eq_true rfl) dL_law_21 (fun H hP hd hH hS => ?_)
  have hPd : va_P D vwCl [(q1 + 21, dA cD 1 (fun _ => FP.dconst0))] H := hP.r
  have hPl : va_P D vwCl [(q1 + 20, lA cL 1 (fun _ => 0))] H := hP.l.r
  have hPm : va_P D vwCl (mW (fun k => q1 + k) cD cI (gσ (sysS S00 1)) (sysS S00 1) (nI 0) (nI 0) v00) H := hP.l.l.r
  have hPc : va_P D vwCl (cW (fun k => s.heap.size + k) (fun i => if i < 3 then some (s.heap.size + 17 + i) else none) cD cI cM (gσ (sysS S00 1)) (sysS S00 1) v00) H := hP.l.l.l
  refine lv_astore (lv' := [(4, .ref (q1 + 21)), (3, .ref (q1 + 20)), (2, .ref q1), (1, .ref s.heap.size), (0, .ref b)]) hx hb dL_law_23 hl (by decide) rfl (fun ls hl => ?_)
  refine lv_iconst (v := nI 0) hx hb dL_law_25 (by decide) ?_
  refine lv_istore (lv' := [(5, .int (nI 0)), (4, .ref (q1 + 21)), (3, .ref (q1 + 20)), (2, .ref q1), (1, .ref s.heap.size), (0, .ref b)]) hx hb dL_law_26 hl (by decide) rfl (fun ls hl => ?_)
  have hLX : LX D cD cI cM cL (fun k => s.heap.size + k) (fun k => q1 + k) (fun i => if i < 3 then some (s.heap.size + 17 + i) else none) (q1 + 20) (q1 + 21) s := by
    refine ⟨⟨hI, st_t hts hgv, st_nc hgv, st_z hts hgv⟩, fun i hi => ?_, ⟨hdC, dj_push hdC (fun a ha => by have := mem_add ha; omega), dj_push hdC (fun a ha => by have := mem_add ha; omega), hdM⟩, fun q hq => ?_, fun q hq => ?_, fun h => ?_, fun h => ?_, by omega⟩
    · show (if i < 3 then some (s.heap.size + 17 + i) else none) = some (s.heap.size + (17 + i))
      rw [if_pos hi, Nat.add_assoc]
    · rcases hq with h | h | h | h
      · exact (mem_add h).1
      · have := mem_add h; omega
      · omega
      · omega
    · have h1 := mem_add hq
      exact ⟨fun h => by have := mem_add h; omega, by omega, by omega⟩
    · have := mem_add h; omega
    · have := mem_add h; omega
  refine xpc (q := 28) rfl ?_
  exact law_loop l htr hL C0 hLX (L + 1) 0 (Nat.zero_le _) (by omega) (sysS S00 1) v00 v00 (nI 0) (nI 0) (fun _ => 0) (fun _ => FP.dconst0) H _ ls ⟨inv_new, (fun h => by cases h), (fun h => by cases h), hPc, hPm, hPl, hPd⟩ hS (lv_sub hl [0, 5, 4, 3, 2, 1] rfl)
