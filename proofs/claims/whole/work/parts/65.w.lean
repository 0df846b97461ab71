section XLT
variable {p : Program} {l : Launch} {e : Env} {R : Room} {s : State} {m : MethodId} {args : Array Value} {below : List Frame} {meth : Method} {c : Code} {H : Heap} {locs : List Loc} {cells slots : Nat} {Q : State → Prop}
variable {cc bytes : ByteArray} {pc nL maxL index n mc ms b : Nat} {ls : Array Slot} {rest st0 As : List Value} {own C : String} {y : MethodName} {ret : Option FieldType} {rm : Room} {D : va_G} {tys : List (ClassId × FieldType)} {W₀ : va_W} {ad as : List Nat} {Qc : Array Value → State → Outcome → State → Prop} {XC : String → State → State → Prop} {free : Addr → Prop} {A : Nat → Prop} {H0 : Heap} {ws : va_W} {a : Nat}
theorem xLT {T : u_T} {N ci : Nat} {fs : List Value} (hx : p.tables.exec = Jvm.exec) (hb : c.code = cc) (hml : c.maxLocals = nL) (hown : s.vm.findClass own = some m.cls) (ht : ∀ w ∈ lw_good, w.before args s = true)
    (hM : vx_Met l y (Cond.code y bytes maxL ret :: lw_good) rm (xPt D tys (.ref b :: As) W₀ ad) Qc XC mc ms free) (m1 : Cond.methodLink own index y ∈ lw_good) (ok : okV y C bytes maxL ret n) (hrc : rm.cells = mc) (hrs : rm.slots = ms) (hR : rm.frames + 1 ≤ R.frames ∧ 8 + (maxL + 11) + rm.locals ≤ R.locals)
    (hI : xI D tys s) (hP : va_P D vwCl W₀ H) (hd : dj (W₀.map Prod.fst)) (hT : tI s) (hZ : tZ (fun q => q ∈ ad) s H) (hw0 : W₀[0]? = some (b, .inr (ci, fs))) (hc : vwCl[ci]? = some (C, T, N))
    (hln : As.length = n) (hsize : ls.size = nL) (hst : st0 = As.reverse ++ .ref b :: rest) (hroom : (rest.map fun v => v.category).sum ≤ 8) (hdg : decode cc pc = .ok (.invokevirtual index, 3)) (hf : cells + mc ≤ R.cells ∧ slots + ms ≤ R.slots) :
    vx_Run p l e R s m args below meth c H locs cells slots mc ms (F0 m pc ls st0) rest (Qc (Value.ref b :: As).toArray) XC free :=
  vx_runV (C := C) (b := b) (As := As) ⟨hx, hb, hml, hown, ht⟩ hM (xcwV ht m1 ok hrc hrs hR) ⟨xblindT, va_recv hI.1 hP (q := (C, T, N)) hc hw0, fun U hU hW => ⟨rfl, hI.warm hW, by rw [hU]; exact hP, hd, hT.warm hW, by rw [hU]; exact hZ.moved hW.alike⟩⟩ rfl hln hsize hst (lv_room hroom) hdg hf
theorem xlast (hx : p.tables.exec = Jvm.exec) (hb : c.code = cc) (hI : xI D tys s) (hP : va_P D vwCl ws H) (hd : dj as) (e1 : ws.map Prod.fst = as) (hA : ∀ a ∈ as, A a) (hS : va_S A H0 H locs) (q0 t0 : Nat) {cA : ClassId} {n : Nat} {f : Nat → Int64} (ha : ws[q0]? = some (a, lA cA n f)) (ht : tys[t0]? = some (cA, .long)) {j : Nat} {x : Int64} (hj : j < n) (hn : n < 2 ^ 31) (hdg : decode cc pc = .ok (.lastore, 1))
    (kk : ∀ (H1 : Heap) (locs1 : List Loc), va_P D vwCl (ws.set q0 (a, lA cA n (vp_updL f j x))) H1 → va_S A H0 H1 locs1 → W p l e R s m args below meth c H1 locs1 cells slots Q (F0 m (pc + 1) ls rest)) : W p l e R s m args below meth c H locs cells slots Q (F0 m pc ls (.long x :: .int (nI j) :: .ref a :: rest)) := by
  have hcl : (nI j).toNatClampNeg = j := nI_clamp (Nat.lt_trans hj hn)
  refine va_last hx hb hI.1 hP (hd.DA e1 hA) hS q0 t0 ha ht (vp_in_nI hj hn) hdg (fun H1 locs1 h1 _ h3 => ?_)
  rw [hcl] at h1
  exact kk H1 locs1 h1 h3
/-- caught by the first row of the table -/
theorem xch1 {E : String} {ce : Cell} {q : Addr} {x : ExceptionTableEntry} {suf : List ExceptionTableEntry} (hown : s.vm.findClass RL = some m.cls) (htab : c.exceptionTable.toList = x :: suf) (hc : covers x pc = true) (h0 : x.catchType ≠ 0) (hlink : (Cond.classLink RL x.catchType E).before args s = true) (hE : va_Nw (.castable E E) s) (hcell : H[q]? = some ce) (hv : ce.vm = .none) (hcl : s.vm.findClass E = some ce.cls)
    (kk : W p l e R s m args below meth c H locs cells slots Q (F0 m x.handlerPc ls [.ref q])) : vx_W p l e R s m args below meth c H locs cells slots Q (F0 m pc ls rest) q :=
  vx_catch (own := RL) (name := E) hown [] x suf htab (fun _ h => nomatch h) hc h0 hlink (va_Nw.use rfl hE) hcell hv hcl kk
/-- caught by the second row -/
theorem xch2 {E E1 : String} {ce : Cell} {q : Addr} {x1 x : ExceptionTableEntry} {suf : List ExceptionTableEntry} (hown : s.vm.findClass RL = some m.cls) (htab : c.exceptionTable.toList = x1 :: x :: suf) (h10 : x1.catchType ≠ 0) (hl1 : (Cond.classLink RL x1.catchType E1).before args s = true) (hN : va_Nc E E1 s) (hc : covers x pc = true) (h0 : x.catchType ≠ 0) (hlink : (Cond.classLink RL x.catchType E).before args s = true) (hE : va_Nw (.castable E E) s) (hcell : H[q]? = some ce) (hv : ce.vm = .none) (hcl : s.vm.findClass E = some ce.cls)
    (kk : W p l e R s m args below meth c H locs cells slots Q (F0 m x.handlerPc ls [.ref q])) : vx_W p l e R s m args below meth c H locs cells slots Q (F0 m pc ls rest) q :=
  vx_catch (own := RL) (name := E) hown [x1] x suf htab (fun z hz => by rw [List.mem_singleton.mp hz]; exact Or.inr ⟨h10, E1, hl1, hN⟩) hc h0 hlink (va_Nw.use rfl hE) hcell hv hcl kk
end XLT
set_option maxHeartbeats 4000000 in
set_option maxRecDepth 100000 in
theorem l_system (l : Launch) (htr : l.stackTraces = false) (D : va_G) (cD cI cM cL : ClassId) (A : Nat → Nat) (rw : Nat → Option Nat) (S : St) (v : Nat → Nat → UInt64) (n : Int32)  : Met l yL_system (Cond.codeWith yL_system cL_system 3 (some .int) [(0, 5, 8, 13)] :: lw_good) { frames := 7, cells := 1, slots := 6, locals := 103 } (xPw D (tyL cD cI cM cL) [.ref (A 0), .int n] (cW A rw cD cI cM (gσ S) S v) (cAd A)) (xQ D (cAd A) (fun (_u : Unit) => some (.int (nI ((sysP S n).1)))) (fun (_u : Unit) => True) (fun (_u : Unit) => cW A rw cD cI cM (gσ ((sysP S n).2)) ((sysP S n).2) v)) 1 6 (fun q => q ∈ cAd A) := by
  refine xofH (by decide) (Nat.le_of_ble_eq_true rfl) ?_
  intro p e s m below meth c ls hx hb hr hml hg hown hlk htab hI hP hd hT hNc hZ hS hl
  have hown : s.vm.findClass RL = some m.cls := hown
  have hl : lv_has ls 3 [(0, .ref (A 0)), (1, .int n)] := hl
  have hPc := hP
  have hPo : va_P D vwCl [] s.heap := fun k q h => by simp at h
  have hZc := hZ
  have hdc : dj (cAd A) := hd
  have hdis : ∀ x ∈ ([] : va_W).map Prod.fst, x ∉ cAd A := fun x h => nomatch h
  refine lv_aload_n hx hb dL_system_0 rfl (lv_at hl 0 rfl) ?_
  refine lv_iload_n hx hb dL_system_1 rfl (lv_at hl 1 rfl) ?_
  refine xpc (q := 2) rfl ?_
  refine xcT (xLT (As := [.int n]) (rest := []) (C := RX6) hx hb hml hown hg (f_system l htr D cD cI cM cL A rw S v n) mM_L_7 ok_X6_system rfl rfl ⟨Nat.le_of_ble_eq_true rfl, Nat.le_of_ble_eq_true rfl⟩ hI hPc hdc hT hZc rfl rfl rfl hl.1 rfl (Nat.le_of_ble_eq_true rfl) dL_system_2 ⟨Nat.le_of_ble_eq_true rfl, Nat.le_of_ble_eq_true rfl⟩) hPo hdis hS (fun q hq => hq) ?_ ?_
  · intro E ce q9 u0 H locs hu hP1 hPo hS hce hcv hcl
    obtain ⟨hk0, hE0⟩ := hu
    subst hE0
    refine xch1 (x := ({ startPc := 0, endPc := 5, handlerPc := 8, catchType := 13 } : ExceptionTableEntry)) (suf := []) hown (by rw [htab]; rfl) rfl (by decide) (hg _ mK_L_13) hT.2.1.1 hce hcv hcl ?_
    refine xpc (q := 8) rfl ?_
    refine lv_astore_n (lv' := [(2, .ref q9), (0, .ref (A 0)), (1, .int n)]) hx hb dL_system_8 rfl hl (by decide) rfl (fun ls hl => ?_)
    refine lv_iconst (v := nI 1) hx hb dL_system_9 (by decide) ?_
    refine xeqi (y := nI ((sysP S n).1)) (by rw [hk0]) ?_
    exact W.iret hx hb hr (fun tS hTS hWS => ⟨(), rfl, trivial, by rw [hTS]; exact hP1, hS.F hTS⟩) hS.2.2 dL_system_10
  · intro u0 H locs hu hP1 hPo hS
    have hk0 : (sysP S n).1 = 0 := hu
    refine xpc (q := 5) rfl ?_
    refine lv_goto (tgt := 11) hx hb dL_system_5 (by decide) ?_
    refine lv_iconst (v := nI 0) hx hb dL_system_11 (by decide) ?_
    refine xeqi (y := nI ((sysP S n).1)) (by rw [hk0]) ?_
    exact W.iret hx hb hr (fun tS hTS hWS => ⟨(), rfl, trivial, by rw [hTS]; exact hP1, hS.F hTS⟩) hS.2.2 dL_system_12
set_option maxHeartbeats 4000000 in
set_option maxRecDepth 100000 in
theorem l_value (l : Launch) (htr : l.stackTraces = false) (D : va_G) (cD cI cM cL : ClassId) (A : Nat → Nat) (rw : Nat → Option Nat) (S : St) (v : Nat → Nat → UInt64) (i : Int32) (x : UInt64) (hn : sn (gσ S) ≤ 3) : Met l yL_value (Cond.codeWith yL_value cL_value 5 (some .int) [(0, 6, 9, 13)] :: lw_good) { frames := 7, cells := 1, slots := 6, locals := 105 } (xPw D (tyL cD cI cM cL) [.ref (A 0), .int i, .double x] (cW A rw cD cI cM (gσ S) S v) (cAd A)) (xQ D (cAd A) (fun (_u : Unit) => some (.int (nI ((valP S i x).1)))) (fun (_u : Unit) => True) (fun (_u : Unit) => cW A rw cD cI cM (gσ ((valP S i x).2)) ((valP S i x).2) v)) 1 6 (fun q => q ∈ cAd A) := by
  refine xofH (by decide) (Nat.le_of_ble_eq_true rfl) ?_
  intro p e s m below meth c ls hx hb hr hml hg hown hlk htab hI hP hd hT hNc hZ hS hl
  have hown : s.vm.findClass RL = some m.cls := hown
  have hl : lv_has ls 5 [(0, .ref (A 0)), (1, .int i), (2, .double x)] := hl
  have hPc := hP
  have hPo : va_P D vwCl [] s.heap := fun k q h => by simp at h
  have hZc := hZ
  have hdc : dj (cAd A) := hd
  have hdis : ∀ x ∈ ([] : va_W).map Prod.fst, x ∉ cAd A := fun x h => nomatch h
  refine lv_aload_n hx hb dL_value_0 rfl (lv_at hl 0 rfl) ?_
  refine lv_iload_n hx hb dL_value_1 rfl (lv_at hl 1 rfl) ?_
  refine lv_dload_n hx hb dL_value_2 rfl (lv_at hl 2 rfl) ?_
  refine xpc (q := 3) rfl ?_
  refine xcT (xLT (As := [.int i, .double x]) (rest := []) (C := RX6) hx hb hml hown hg (f_value l htr D cD cI cM cL A rw S v i x hn) mM_L_21 ok_X6_value rfl rfl ⟨Nat.le_of_ble_eq_true rfl, Nat.le_of_ble_eq_true rfl⟩ hI hPc hdc hT hZc rfl rfl rfl hl.1 rfl (Nat.le_of_ble_eq_true rfl) dL_value_3 ⟨Nat.le_of_ble_eq_true rfl, Nat.le_of_ble_eq_true rfl⟩) hPo hdis hS (fun q hq => hq) ?_ ?_
  · intro E ce q9 u0 H locs hu hP1 hPo hS hce hcv hcl
    obtain ⟨hk0, hE0⟩ := hu
    subst hE0
    refine xch1 (x := ({ startPc := 0, endPc := 6, handlerPc := 9, catchType := 13 } : ExceptionTableEntry)) (suf := []) hown (by rw [htab]; rfl) rfl (by decide) (hg _ mK_L_13) hT.2.1.1 hce hcv hcl ?_
    refine xpc (q := 9) rfl ?_
    refine lv_astore (lv' := [(4, .ref q9), (0, .ref (A 0)), (1, .int i), (2, .double x)]) hx hb dL_value_9 hl (by decide) rfl (fun ls hl => ?_)
    refine lv_iconst (v := nI 1) hx hb dL_value_11 (by decide) ?_
    refine xeqi (y := nI ((valP S i x).1)) (by rw [hk0]) ?_
    exact W.iret hx hb hr (fun tS hTS hWS => ⟨(), rfl, trivial, by rw [hTS]; exact hP1, hS.F hTS⟩) hS.2.2 dL_value_12
  · intro u0 H locs hu hP1 hPo hS
    have hk0 : (valP S i x).1 = 0 := hu
    refine xpc (q := 6) rfl ?_
    refine lv_goto (tgt := 13) hx hb dL_value_6 (by decide) ?_
    refine lv_iconst (v := nI 0) hx hb dL_value_13 (by decide) ?_
    refine xeqi (y := nI ((valP S i x).1)) (by rw [hk0]) ?_
    exact W.iret hx hb hr (fun tS hTS hWS => ⟨(), rfl, trivial, by rw [hTS]; exact hP1, hS.F hTS⟩) hS.2.2 dL_value_14
set_option maxHeartbeats 4000000 in
set_option maxRecDepth 100000 in
theorem l_size (l : Launch) (htr : l.stackTraces = false) (D : va_G) (cD cI cM cL : ClassId) (A : Nat → Nat) (rw : Nat → Option Nat) (S : St) (v : Nat → Nat → UInt64) (x0 x1 : UInt64)  : Met l yL_size (Cond.codeWith yL_size cL_size 6 (some .int) [(0, 6, 9, 13)] :: lw_good) { frames := 7, cells := 1, slots := 6, locals := 106 } (xPw D (tyL cD cI cM cL) [.ref (A 0), .double x0, .double x1] (cW A rw cD cI cM (gσ S) S v) (cAd A)) (xQ D (cAd A) (fun (_u : Unit) => some (.int (nI ((szP S x0 x1).1)))) (fun (_u : Unit) => True) (fun (_u : Unit) => cW A rw cD cI cM (gσ ((szP S x0 x1).2)) ((szP S x0 x1).2) v)) 1 6 (fun q => q ∈ cAd A) := by
  refine xofH (by decide) (Nat.le_of_ble_eq_true rfl) ?_
  intro p e s m below meth c ls hx hb hr hml hg hown hlk htab hI hP hd hT hNc hZ hS hl
  have hown : s.vm.findClass RL = some m.cls := hown
  have hl : lv_has ls 6 [(0, .ref (A 0)), (1, .double x0), (3, .double x1)] := hl
  have hPc := hP
  have hPo : va_P D vwCl [] s.heap := fun k q h => by simp at h
  have hZc := hZ
  have hdc : dj (cAd A) := hd
  have hdis : ∀ x ∈ ([] : va_W).map Prod.fst, x ∉ cAd A := fun x h => nomatch h
  refine lv_aload_n hx hb dL_size_0 rfl (lv_at hl 0 rfl) ?_
  refine lv_dload_n hx hb dL_size_1 rfl (lv_at hl 1 rfl) ?_
  refine lv_dload_n hx hb dL_size_2 rfl (lv_at hl 2 rfl) ?_
  refine xpc (q := 3) rfl ?_
  refine xcT (xLT (As := [.double x0, .double x1]) (rest := []) (C := RX6) hx hb hml hown hg (f_size l htr D cD cI cM cL A rw S v x0 x1) mM_L_25 ok_X6_size rfl rfl ⟨Nat.le_of_ble_eq_true rfl, Nat.le_of_ble_eq_true rfl⟩ hI hPc hdc hT hZc rfl rfl rfl hl.1 rfl (Nat.le_of_ble_eq_true rfl) dL_size_3 ⟨Nat.le_of_ble_eq_true rfl, Nat.le_of_ble_eq_true rfl⟩) hPo hdis hS (fun q hq => hq) ?_ ?_
  · intro E ce q9 u0 H locs hu hP1 hPo hS hce hcv hcl
    obtain ⟨hk0, hE0⟩ := hu
    subst hE0
    refine xch1 (x := ({ startPc := 0, endPc := 6, handlerPc := 9, catchType := 13 } : ExceptionTableEntry)) (suf := []) hown (by rw [htab]; rfl) rfl (by decide) (hg _ mK_L_13) hT.2.1.1 hce hcv hcl ?_
    refine xpc (q := 9) rfl ?_
    refine lv_astore (lv' := [(5, .ref q9), (0, .ref (A 0)), (1, .double x0), (3, .double x1)]) hx hb dL_size_9 hl (by decide) rfl (fun ls hl => ?_)
    refine lv_iconst (v := nI 1) hx hb dL_size_11 (by decide) ?_
    refine xeqi (y := nI ((szP S x0 x1).1)) (by rw [hk0]) ?_
    exact W.iret hx hb hr (fun tS hTS hWS => ⟨(), rfl, trivial, by rw [hTS]; exact hP1, hS.F hTS⟩) hS.2.2 dL_size_12
  · intro u0 H locs hu hP1 hPo hS
    have hk0 : (szP S x0 x1).1 = 0 := hu
    refine xpc (q := 6) rfl ?_
    refine lv_goto (tgt := 13) hx hb dL_size_6 (by decide) ?_
    refine lv_iconst (v := nI 0) hx hb dL_size_13 (by decide) ?_
    refine xeqi (y := nI ((szP S x0 x1).1)) (by rw [hk0]) ?_
    exact W.iret hx hb hr (fun tS hTS hWS => ⟨(), rfl, trivial, by rw [hTS]; exact hP1, hS.F hTS⟩) hS.2.2 dL_size_14
set_option maxHeartbeats 4000000 in
set_option maxRecDepth 100000 in
theorem l_watch (l : Launch) (htr : l.stackTraces = false) (D : va_G) (cD cI cM cL : ClassId) (A : Nat → Nat) (rw : Nat → Option Nat) (S : St) (v : Nat → Nat → UInt64) (i : Int32) (x : UInt64) (hn : sn (gσ S) ≤ 3) : Met l yL_watch (Cond.codeWith yL_watch cL_watch 5 (some .int) [(0, 6, 9, 13)] :: lw_good) { frames := 7, cells := 1, slots := 6, locals := 105 } (xPw D (tyL cD cI cM cL) [.ref (A 0), .int i, .double x] (cW A rw cD cI cM (gσ S) S v) (cAd A)) (xQ D (cAd A) (fun (_u : Unit) => some (.int (nI ((watP S i x).1)))) (fun (_u : Unit) => True) (fun (_u : Unit) => cW A rw cD cI cM (gσ ((watP S i x).2)) ((watP S i x).2) v)) 1 6 (fun q => q ∈ cAd A) := by
  refine xofH (by decide) (Nat.le_of_ble_eq_true rfl) ?_
  intro p e s m below meth c ls hx hb hr hml hg hown hlk htab hI hP hd hT hNc hZ hS hl
  have hown : s.vm.findClass RL = some m.cls := hown
  have hl : lv_has ls 5 [(0, .ref (A 0)), (1, .int i), (2, .double x)] := hl
  have hPc := hP
  have hPo : va_P D vwCl [] s.heap := fun k q h => by simp at h
  have hZc := hZ
  have hdc : dj (cAd A) := hd
  have hdis : ∀ x ∈ ([] : va_W).map Prod.fst, x ∉ cAd A := fun x h => nomatch h
  refine lv_aload_n hx hb dL_watch_0 rfl (lv_at hl 0 rfl) ?_
  refine lv_iload_n hx hb dL_watch_1 rfl (lv_at hl 1 rfl) ?_
  refine lv_dload_n hx hb dL_watch_2 rfl (lv_at hl 2 rfl) ?_
  refine xpc (q := 3) rfl ?_
  refine xcT (xLT (As := [.int i, .double x]) (rest := []) (C := RX6) hx hb hml hown hg (f_watch l htr D cD cI cM cL A rw S v i x hn) mM_L_38 ok_X6_watch rfl rfl ⟨Nat.le_of_ble_eq_true rfl, Nat.le_of_ble_eq_true rfl⟩ hI hPc hdc hT hZc rfl rfl rfl hl.1 rfl (Nat.le_of_ble_eq_true rfl) dL_watch_3 ⟨Nat.le_of_ble_eq_true rfl, Nat.le_of_ble_eq_true rfl⟩) hPo hdis hS (fun q hq => hq) ?_ ?_
  · intro E ce q9 u0 H locs hu hP1 hPo hS hce hcv hcl
    obtain ⟨hk0, hE0⟩ := hu
    subst hE0
    refine xch1 (x := ({ startPc := 0, endPc := 6, handlerPc := 9, catchType := 13 } : ExceptionTableEntry)) (suf := []) hown (by rw [htab]; rfl) rfl (by decide) (hg _ mK_L_13) hT.2.1.1 hce hcv hcl ?_
    refine xpc (q := 9) rfl ?_
    refine lv_astore (lv' := [(4, .ref q9), (0, .ref (A 0)), (1, .int i), (2, .double x)]) hx hb dL_watch_9 hl (by decide) rfl (fun ls hl => ?_)
    refine lv_iconst (v := nI 1) hx hb dL_watch_11 (by decide) ?_
    refine xeqi (y := nI ((watP S i x).1)) (by rw [hk0]) ?_
    exact W.iret hx hb hr (fun tS hTS hWS => ⟨(), rfl, trivial, by rw [hTS]; exact hP1, hS.F hTS⟩) hS.2.2 dL_watch_12
  · intro u0 H locs hu hP1 hPo hS
    have hk0 : (watP S i x).1 = 0 := hu
    refine xpc (q := 6) rfl ?_
    refine lv_goto (tgt := 13) hx hb dL_watch_6 (by decide) ?_
    refine lv_iconst (v := nI 0) hx hb dL_watch_13 (by decide) ?_
    refine xeqi (y := nI ((watP S i x).1)) (by rw [hk0]) ?_
    exact W.iret hx hb hr (fun tS hTS hWS => ⟨(), rfl, trivial, by rw [hTS]; exact hP1, hS.F hTS⟩) hS.2.2 dL_watch_14
set_option maxHeartbeats 4000000 in
set_option maxRecDepth 100000 in
theorem l_step (l : Launch) (htr : l.stackTraces = false) (D : va_G) (cD cI cM cL : ClassId) (A : Nat → Nat) (rw : Nat → Option Nat) (S : St) (v : Nat → Nat → UInt64) (i : Int32) (B : Int) (E : Nat) (hv : Inv B E S) (hB : B ≤ BT) (hE : E < 2 ^ 29) (hen : enK S (v 17)) (hrw : ∀ i, i < 3 → rw i = some (A (17 + i))) : Met l yL_step (Cond.codeWith yL_step cL_step 3 (some .int) [(0, 5, 8, 13), (0, 5, 11, 32)] :: lw_good) { frames := 7, cells := 1, slots := 6, locals := 179 } (xPw D (tyL cD cI cM cL) [.ref (A 0), .int i] (cW A rw cD cI cM (gσ S) S v) (cAd A)) (xQ D (cAd A) (fun (u : (Nat → Nat → UInt64)) => some (.int (nI ((stpP S i).1)))) (fun (u : (Nat → Nat → UInt64)) => enK (stpP S i).2 (u 17)) (fun (u : (Nat → Nat → UInt64)) => cW A rw cD cI cM (gσ ((stpP S i).2)) ((stpP S i).2) (vset u 16 (v 16)))) 1 6 (fun q => q ∈ cAd A) := by
  refine xofH (by decide) (Nat.le_of_ble_eq_true rfl) ?_
  intro p e s m below meth c ls hx hb hr hml hg hown hlk htab hI hP hd hT hNc hZ hS hl
  have hown : s.vm.findClass RL = some m.cls := hown
  have hl : lv_has ls 3 [(0, .ref (A 0)), (1, .int i)] := hl
  have hPc := hP
  have hPo : va_P D vwCl [] s.heap := fun k q h => by simp at h
  have hZc := hZ
  have hdc : dj (cAd A) := hd
  have hdis : ∀ x ∈ ([] : va_W).map Prod.fst, x ∉ cAd A := fun x h => nomatch h
  refine lv_aload_n hx hb dL_step_0 rfl (lv_at hl 0 rfl) ?_
  refine lv_iload_n hx hb dL_step_1 rfl (lv_at hl 1 rfl) ?_
  refine xpc (q := 2) rfl ?_
  refine xcT (xLT (As := [.int i]) (rest := []) (C := RX6) hx hb hml hown hg (f_step l htr D cD cI cM cL A rw S v i B E hv hB hE hen hrw) mM_L_29 ok_X6_step rfl rfl ⟨Nat.le_of_ble_eq_true rfl, Nat.le_of_ble_eq_true rfl⟩ hI hPc hdc hT hZc rfl rfl rfl hl.1 rfl (Nat.le_of_ble_eq_true rfl) dL_step_2 ⟨Nat.le_of_ble_eq_true rfl, Nat.le_of_ble_eq_true rfl⟩) hPo hdis hS (fun q hq => hq) ?_ ?_
  · intro E ce q9 u0 H locs hu hP1 hPo hS hce hcv hcl
    have hcs := hu.1
    rcases hcs with ⟨hk0, hE0⟩ | ⟨hk0, hE0⟩
    ·
      subst hE0
      refine xch1 (x := ({ startPc := 0, endPc := 5, handlerPc := 8, catchType := 13 } : ExceptionTableEntry)) (suf := [({ startPc := 0, endPc := 5, handlerPc := 11, catchType := 32 } : ExceptionTableEntry)]) hown (by rw [htab]; rfl) rfl (by decide) (hg _ mK_L_13) hT.2.1.1 hce hcv hcl ?_
      refine xpc (q := 8) rfl ?_
      refine lv_astore_n (lv' := [(2, .ref q9), (0, .ref (A 0)), (1, .int i)]) hx hb dL_step_8 rfl hl (by decide) rfl (fun ls hl => ?_)
      refine lv_iconst (v := nI 1) hx hb dL_step_9 (by decide) ?_
      refine xeqi (y := nI ((stpP S i).1)) (by rw [hk0]) ?_
      exact W.iret hx hb hr (fun tS hTS hWS => ⟨u0, rfl, hu.2, by rw [hTS]; exact hP1, hS.F hTS⟩) hS.2.2 dL_step_10
    ·
      subst hE0
      refine xch2 (x1 := ({ startPc := 0, endPc := 5, handlerPc := 8, catchType := 13 } : ExceptionTableEntry)) (x := ({ startPc := 0, endPc := 5, handlerPc := 11, catchType := 32 } : ExceptionTableEntry)) (suf := []) hown (by rw [htab]; rfl) (by decide) (hg _ mK_L_13) hNc.2.1 rfl (by decide) (hg _ mK_L_32) hT.2.1.2.2.1 hce hcv hcl ?_
      refine xpc (q := 11) rfl ?_
      refine lv_astore_n (lv' := [(2, .ref q9), (0, .ref (A 0)), (1, .int i)]) hx hb dL_step_11 rfl hl (by decide) rfl (fun ls hl => ?_)
      refine lv_iconst (v := nI 2) hx hb dL_step_12 (by decide) ?_
      refine xeqi (y := nI ((stpP S i).1)) (by rw [hk0]) ?_
      exact W.iret hx hb hr (fun tS hTS hWS => ⟨u0, rfl, hu.2, by rw [hTS]; exact hP1, hS.F hTS⟩) hS.2.2 dL_step_13
  · intro u0 H locs hu hP1 hPo hS
    have hk0 : (stpP S i).1 = 0 := hu.1
    refine xpc (q := 5) rfl ?_
    refine lv_goto (tgt := 14) hx hb dL_step_5 (by decide) ?_
    refine lv_iconst (v := nI 0) hx hb dL_step_14 (by decide) ?_
    refine xeqi (y := nI ((stpP S i).1)) (by rw [hk0]) ?_
    exact W.iret hx hb hr (fun tS hTS hWS => ⟨u0, rfl, hu.2, by rw [hTS]; exact hP1, hS.F hTS⟩) hS.2.2 dL_step_15
set_option maxHeartbeats 4000000 in
set_option maxRecDepth 100000 in
theorem l_go (l : Launch) (htr : l.stackTraces = false) (D : va_G) (cD cI cM cL : ClassId) (A : Nat → Nat) (rw : Nat → Option Nat) (S : St) (v : Nat → Nat → UInt64) (i : Int32) (time : UInt64) (o : Nat) (f : Nat → Int64) (N E : Nat) (hv : Inv ((N * 2 ^ 1074 : Nat) : Int) E S) (hN : N + 104 ≤ 53352) (htf : fin time) (hE : E + 100 < 2 ^ 29) (hen : enK S (v 17)) (hrw : ∀ i, i < 3 → rw i = some (A (17 + i))) : Met l yL_go (Cond.codeWith yL_go cL_go 6 (some .int) [(0, 11, 14, 13), (0, 11, 18, 32)] :: lw_good) { frames := 8, cells := 1, slots := 6, locals := 209 } (xPw D (tyL cD cI cM cL) [.ref (A 0), .int i, .double time, .ref o] (cW A rw cD cI cM (gσ S) S v ++ [(o, lA cL 1 f)]) (cAd A ++ [o])) (xQ D (cAd A ++ [o]) (fun (u : (Nat → Nat → UInt64) × (Nat → Int64)) => some (.int (nI ((goP S i time).1)))) (fun (u : (Nat → Nat → UInt64) × (Nat → Int64)) => enK (goP S i time).2 (u.1 17) ∧ ((goP S i time).1 = 0 → u.2 0 = (gtk (goP S i time).2 - gtk S).toInt64)) (fun (u : (Nat → Nat → UInt64) × (Nat → Int64)) => cW A rw cD cI cM (gσ ((goP S i time).2)) ((goP S i time).2) (vset u.1 16 (v 16)) ++ [(o, lA cL 1 u.2)])) 1 6 (fun q => q ∈ cAd A ++ [o]) := by
  refine xofH (by decide) (Nat.le_of_ble_eq_true rfl) ?_
  intro p e s m below meth c ls hx hb hr hml hg hown hlk htab hI hP hd hT hNc hZ hS hl
  have hown : s.vm.findClass RL = some m.cls := hown
  have hl : lv_has ls 6 [(0, .ref (A 0)), (1, .int i), (2, .double time), (4, .ref o)] := hl
  have hd : dj (cAd A ++ [o]) := hd
  have hPc := hP.l
  have hPo := hP.r
  have hZc : tZ (fun q => q ∈ cAd A) s s.heap := hZ.narrow (fun q hq => List.mem_append_left _ hq)
  have hdc : dj (cAd A) := hd.l
  have hdis : ∀ x ∈ ([(o, lA cL 1 f)] : va_W).map Prod.fst, x ∉ cAd A := hd.x
  refine lv_aload hx hb dL_go_0 (lv_at hl 3 rfl) ?_
  refine lv_iconst (v := nI 0) hx hb dL_go_2 (by decide) ?_
  refine lv_aload_n hx hb dL_go_3 rfl (lv_at hl 0 rfl) ?_
  refine lv_iload_n hx hb dL_go_4 rfl (lv_at hl 1 rfl) ?_
  refine lv_dload_n hx hb dL_go_5 rfl (lv_at hl 2 rfl) ?_
  refine xpc (q := 6) rfl ?_
  refine xcT (xLT (As := [.int i, .double time]) (rest := [.int (nI 0), .ref o]) (C := RX6) hx hb hml hown hg (f_go l htr D cD cI cM cL A rw S v i time N E hv hN htf hE hen hrw) mM_L_34 ok_X6_go rfl rfl ⟨Nat.le_of_ble_eq_true rfl, Nat.le_of_ble_eq_true rfl⟩ hI hPc hdc hT hZc rfl rfl rfl hl.1 rfl (Nat.le_of_ble_eq_true rfl) dL_go_6 ⟨Nat.le_of_ble_eq_true rfl, Nat.le_of_ble_eq_true rfl⟩) hPo hdis hS (fun q hq => List.mem_append_left _ hq) ?_ ?_
  · intro E ce q9 u0 H locs hu hP1 hPo hS hce hcv hcl
    have hcs := hu.1
    rcases hcs with ⟨hk0, hE0⟩ | ⟨hk0, hE0⟩
    ·
      subst hE0
      refine xch1 (x := ({ startPc := 0, endPc := 11, handlerPc := 14, catchType := 13 } : ExceptionTableEntry)) (suf := [({ startPc := 0, endPc := 11, handlerPc := 18, catchType := 32 } : ExceptionTableEntry)]) hown (by rw [htab]; rfl) rfl (by decide) (hg _ mK_L_13) hT.2.1.1 hce hcv hcl ?_
      refine xpc (q := 14) rfl ?_
      refine lv_astore (lv' := [(5, .ref q9), (0, .ref (A 0)), (1, .int i), (2, .double time), (4, .ref o)]) hx hb dL_go_14 hl (by decide) rfl (fun ls hl => ?_)
      refine lv_iconst (v := nI 1) hx hb dL_go_16 (by decide) ?_
      refine xeqi (y := nI ((goP S i time).1)) (by rw [hk0]) ?_
      exact W.iret hx hb hr (fun tS hTS hWS => ⟨(u0, f), rfl, ⟨hu.2, (fun q0 => by rw [hk0] at q0; exact absurd q0 (by decide))⟩, by rw [hTS]; exact hP1.app hPo, hS.F hTS⟩) hS.2.2 dL_go_17
    ·
      subst hE0
      refine xch2 (x1 := ({ startPc := 0, endPc := 11, handlerPc := 14, catchType := 13 } : ExceptionTableEntry)) (x := ({ startPc := 0, endPc := 11, handlerPc := 18, catchType := 32 } : ExceptionTableEntry)) (suf := []) hown (by rw [htab]; rfl) (by decide) (hg _ mK_L_13) hNc.2.1 rfl (by decide) (hg _ mK_L_32) hT.2.1.2.2.1 hce hcv hcl ?_
      refine xpc (q := 18) rfl ?_
      refine lv_astore (lv' := [(5, .ref q9), (0, .ref (A 0)), (1, .int i), (2, .double time), (4, .ref o)]) hx hb dL_go_18 hl (by decide) rfl (fun ls hl => ?_)
      refine lv_iconst (v := nI 2) hx hb dL_go_20 (by decide) ?_
      refine xeqi (y := nI ((goP S i time).1)) (by rw [hk0]) ?_
      exact W.iret hx hb hr (fun tS hTS hWS => ⟨(u0, f), rfl, ⟨hu.2, (fun q0 => by rw [hk0] at q0; exact absurd q0 (by decide))⟩, by rw [hTS]; exact hP1.app hPo, hS.F hTS⟩) hS.2.2 dL_go_21
  · intro u0 H locs hu hP1 hPo hS
    have hk0 : (goP S i time).1 = 0 := hu.1
    refine xpc (q := 9) rfl ?_
    refine lv_i2l (v := (gtk (goP S i time).2 - gtk S).toInt64) hx hb dL_go_9 rfl ?_
    have hPw : va_P D vwCl (cW A rw cD cI cM (gσ ((goP S i time).2)) ((goP S i time).2) (vset u0 16 (v 16)) ++ [(o, lA cL 1 f)]) H := hP1.app hPo
    refine xlast hx hb hI hPw hd rfl (fun _ h => h) hS 35 3 rfl rfl (j := 0) (by decide) (by decide) dL_go_10 (fun H locs hPw hS => ?_)
    have hPw : va_P D vwCl (cW A rw cD cI cM (gσ ((goP S i time).2)) ((goP S i time).2) (vset u0 16 (v 16)) ++ [(o, lA cL 1 (vp_updL f 0 ((gtk (goP S i time).2 - gtk S).toInt64)))]) H := hPw
    have hP1 := hPw.l
    have hPo := hPw.r
    refine lv_goto (tgt := 22) hx hb dL_go_11 (by decide) ?_
    refine lv_iconst (v := nI 0) hx hb dL_go_22 (by decide) ?_
    refine xeqi (y := nI ((goP S i time).1)) (by rw [hk0]) ?_
    exact W.iret hx hb hr (fun tS hTS hWS => ⟨(u0, vp_updL f 0 ((gtk (goP S i time).2 - gtk S).toInt64)), rfl, ⟨hu.2, (fun _ => by simp [vp_updL, vf_upd])⟩, by rw [hTS]; exact hP1.app hPo, hS.F hTS⟩) hS.2.2 dL_go_23
set_option maxHeartbeats 4000000 in
set_option maxRecDepth 100000 in
theorem l_term (l : Launch) (htr : l.stackTraces = false) (D : va_G) (cD cI cM cL : ClassId) (A : Nat → Nat) (rw : Nat → Option Nat) (S : St) (v : Nat → Nat → UInt64) (i : Int32) (x : UInt64) (a b : Int32) (o : Nat) (f : Nat → Int64) (hc : sc (gσ S) ≤ 10) : Met l yL_term (Cond.codeWith yL_term cL_term 8 (some .int) [(0, 15, 18, 13), (0, 15, 22, 19)] :: lw_good) { frames := 7, cells := 1, slots := 6, locals := 107 } (xPw D (tyL cD cI cM cL) [.ref (A 0), .int i, .double x, .int a, .int b, .ref o] (cW A rw cD cI cM (gσ S) S v ++ [(o, lA cL 1 f)]) (cAd A ++ [o])) (xQ D (cAd A ++ [o]) (fun (u : (Nat → Int64)) => some (.int (nI ((trmP S i x a b).1)))) (fun (u : (Nat → Int64)) => ((trmP S i x a b).1 = 0 → u 0 = (nI (sc (gσ S) + 1)).toInt64)) (fun (u : (Nat → Int64)) => cW A rw cD cI cM (gσ ((trmP S i x a b).2)) ((trmP S i x a b).2) v ++ [(o, lA cL 1 u)])) 1 6 (fun q => q ∈ cAd A ++ [o]) := by
  refine xofH (by decide) (Nat.le_of_ble_eq_true rfl) ?_
  intro p e s m below meth c ls hx hb hr hml hg hown hlk htab hI hP hd hT hNc hZ hS hl
  have hown : s.vm.findClass RL = some m.cls := hown
  have hl : lv_has ls 8 [(0, .ref (A 0)), (1, .int i), (2, .double x), (4, .int a), (5, .int b), (6, .ref o)] := hl
  have hd : dj (cAd A ++ [o]) := hd
  have hPc := hP.l
  have hPo := hP.r
  have hZc : tZ (fun q => q ∈ cAd A) s s.heap := hZ.narrow (fun q hq => List.mem_append_left _ hq)
  have hdc : dj (cAd A) := hd.l
  have hdis : ∀ x ∈ ([(o, lA cL 1 f)] : va_W).map Prod.fst, x ∉ cAd A := hd.x
  refine lv_aload hx hb dL_term_0 (lv_at hl 5 rfl) ?_
  refine lv_iconst (v := nI 0) hx hb dL_term_2 (by decide) ?_
  refine lv_aload_n hx hb dL_term_3 rfl (lv_at hl 0 rfl) ?_
  refine lv_iload_n hx hb dL_term_4 rfl (lv_at hl 1 rfl) ?_
  refine lv_dload_n hx hb dL_term_5 rfl (lv_at hl 2 rfl) ?_
  refine lv_iload hx hb dL_term_6 (lv_at hl 3 rfl) ?_
  refine lv_iload hx hb dL_term_8 (lv_at hl 4 rfl) ?_
  refine xpc (q := 10) rfl ?_
  refine xcT (xLT (As := [.int i, .double x, .int a, .int b]) (rest := [.int (nI 0), .ref o]) (C := RX6) hx hb hml hown hg (f_term l htr D cD cI cM cL A rw S v i x a b hc) mM_L_15 ok_X6_term rfl rfl ⟨Nat.le_of_ble_eq_true rfl, Nat.le_of_ble_eq_true rfl⟩ hI hPc hdc hT hZc rfl rfl rfl hl.1 rfl (Nat.le_of_ble_eq_true rfl) dL_term_10 ⟨Nat.le_of_ble_eq_true rfl, Nat.le_of_ble_eq_true rfl⟩) hPo hdis hS (fun q hq => List.mem_append_left _ hq) ?_ ?_
  · intro E ce q9 u0 H locs hu hP1 hPo hS hce hcv hcl
    have hcs := hu
    rcases hcs with ⟨hk0, hE0⟩ | ⟨hk0, hE0⟩
    ·
      subst hE0
      refine xch1 (x := ({ startPc := 0, endPc := 15, handlerPc := 18, catchType := 13 } : ExceptionTableEntry)) (suf := [({ startPc := 0, endPc := 15, handlerPc := 22, catchType := 19 } : ExceptionTableEntry)]) hown (by rw [htab]; rfl) rfl (by decide) (hg _ mK_L_13) hT.2.1.1 hce hcv hcl ?_
      refine xpc (q := 18) rfl ?_
      refine lv_astore (lv' := [(7, .ref q9), (0, .ref (A 0)), (1, .int i), (2, .double x), (4, .int a), (5, .int b), (6, .ref o)]) hx hb dL_term_18 hl (by decide) rfl (fun ls hl => ?_)
      refine lv_iconst (v := nI 1) hx hb dL_term_20 (by decide) ?_
      refine xeqi (y := nI ((trmP S i x a b).1)) (by rw [hk0]) ?_
      exact W.iret hx hb hr (fun tS hTS hWS => ⟨f, rfl, (fun q0 => by rw [hk0] at q0; exact absurd q0 (by decide)), by rw [hTS]; exact hP1.app hPo, hS.F hTS⟩) hS.2.2 dL_term_21
    ·
      subst hE0
      refine xch2 (x1 := ({ startPc := 0, endPc := 15, handlerPc := 18, catchType := 13 } : ExceptionTableEntry)) (x := ({ startPc := 0, endPc := 15, handlerPc := 22, catchType := 19 } : ExceptionTableEntry)) (suf := []) hown (by rw [htab]; rfl) (by decide) (hg _ mK_L_13) hNc.1 rfl (by decide) (hg _ mK_L_19) hT.2.1.2.1 hce hcv hcl ?_
      refine xpc (q := 22) rfl ?_
      refine lv_astore (lv' := [(7, .ref q9), (0, .ref (A 0)), (1, .int i), (2, .double x), (4, .int a), (5, .int b), (6, .ref o)]) hx hb dL_term_22 hl (by decide) rfl (fun ls hl => ?_)
      refine lv_iconst (v := nI 2) hx hb dL_term_24 (by decide) ?_
      refine xeqi (y := nI ((trmP S i x a b).1)) (by rw [hk0]) ?_
      exact W.iret hx hb hr (fun tS hTS hWS => ⟨f, rfl, (fun q0 => by rw [hk0] at q0; exact absurd q0 (by decide)), by rw [hTS]; exact hP1.app hPo, hS.F hTS⟩) hS.2.2 dL_term_25
  · intro u0 H locs hu hP1 hPo hS
    have hk0 : (trmP S i x a b).1 = 0 := hu
    refine xpc (q := 13) rfl ?_
    refine lv_i2l (v := (nI (sc (gσ S) + 1)).toInt64) hx hb dL_term_13 rfl ?_
    have hPw : va_P D vwCl (cW A rw cD cI cM (gσ ((trmP S i x a b).2)) ((trmP S i x a b).2) v ++ [(o, lA cL 1 f)]) H := hP1.app hPo
    refine xlast hx hb hI hPw hd rfl (fun _ h => h) hS 35 3 rfl rfl (j := 0) (by decide) (by decide) dL_term_14 (fun H locs hPw hS => ?_)
    have hPw : va_P D vwCl (cW A rw cD cI cM (gσ ((trmP S i x a b).2)) ((trmP S i x a b).2) v ++ [(o, lA cL 1 (vp_updL f 0 ((nI (sc (gσ S) + 1)).toInt64)))]) H := hPw
    have hP1 := hPw.l
    have hPo := hPw.r
    refine lv_goto (tgt := 26) hx hb dL_term_15 (by decide) ?_
    refine lv_iconst (v := nI 0) hx hb dL_term_26 (by decide) ?_
    refine xeqi (y := nI ((trmP S i x a b).1)) (by rw [hk0]) ?_
    exact W.iret hx hb hr (fun tS hTS hWS => ⟨vp_updL f 0 ((nI (sc (gσ S) + 1)).toInt64), rfl, (fun _ => by simp [vp_updL, vf_upd]), by rw [hTS]; exact hP1.app hPo, hS.F hTS⟩) hS.2.2 dL_term_27
set_option maxHeartbeats 4000000 in
set_option maxRecDepth 100000 in
theorem l_event (l : Launch) (htr : l.stackTraces = false) (D : va_G) (cD cI cM cL : ClassId) (A : Nat → Nat) (rw : Nat → Option Nat) (S : St) (v : Nat → Nat → UInt64) (i : Int32) (o : Nat) (f : Nat → UInt64) (hev : gev S < 2 ^ 30) : Met l yL_event (Cond.codeWith yL_event cL_event 4 (some .int) [(0, 8, 11, 45)] :: lw_good) { frames := 7, cells := 1, slots := 6, locals := 103 } (xPw D (tyL cD cI cM cL) [.ref (A 0), .int i, .ref o] (cW A rw cD cI cM (gσ S) S v ++ [(o, dA cD 1 f)]) (cAd A ++ [o])) (xQ D (cAd A ++ [o]) (fun (u : (Nat → UInt64)) => some (.int (nI ((if rmb S i then 0 else 1))))) (fun (u : (Nat → UInt64)) => ((if rmb S i then 0 else 1) = 0 → u 0 = gtm S ((gev S - 1 - i.toNatClampNeg) % 8))) (fun (u : (Nat → UInt64)) => cW A rw cD cI cM (gσ S) S v ++ [(o, dA cD 1 u)])) 1 6 (fun q => q ∈ cAd A ++ [o]) := by
  refine xofH (by decide) (Nat.le_of_ble_eq_true rfl) ?_
  intro p e s m below meth c ls hx hb hr hml hg hown hlk htab hI hP hd hT hNc hZ hS hl
  have hown : s.vm.findClass RL = some m.cls := hown
  have hl : lv_has ls 4 [(0, .ref (A 0)), (1, .int i), (2, .ref o)] := hl
  have hd : dj (cAd A ++ [o]) := hd
  have hPc := hP.l
  have hPo := hP.r
  have hZc : tZ (fun q => q ∈ cAd A) s s.heap := hZ.narrow (fun q hq => List.mem_append_left _ hq)
  have hdc : dj (cAd A) := hd.l
  have hdis : ∀ x ∈ ([(o, dA cD 1 f)] : va_W).map Prod.fst, x ∉ cAd A := hd.x
  refine lv_aload_n hx hb dL_event_0 rfl (lv_at hl 2 rfl) ?_
  refine lv_iconst (v := nI 0) hx hb dL_event_1 (by decide) ?_
  refine lv_aload_n hx hb dL_event_2 rfl (lv_at hl 0 rfl) ?_
  refine lv_iload_n hx hb dL_event_3 rfl (lv_at hl 1 rfl) ?_
  refine xpc (q := 4) rfl ?_
  refine xcT (xLT (As := [.int i]) (rest := [.int (nI 0), .ref o]) (C := RX6) hx hb hml hown hg (f_event l htr D cD cI cM cL A rw S v i hev) mM_L_41 ok_X6_event rfl rfl ⟨Nat.le_of_ble_eq_true rfl, Nat.le_of_ble_eq_true rfl⟩ hI hPc hdc hT hZc rfl rfl rfl hl.1 rfl (Nat.le_of_ble_eq_true rfl) dL_event_4 ⟨Nat.le_of_ble_eq_true rfl, Nat.le_of_ble_eq_true rfl⟩) hPo hdis hS (fun q hq => List.mem_append_left _ hq) ?_ ?_
  · intro E ce q9 u0 H locs hu hP1 hPo hS hce hcv hcl
    obtain ⟨hk0, hE0⟩ := (show (if rmb S i then 0 else 1) = 1 ∧ E = eNS from ⟨by rw [hu.1]; rfl, hu.2⟩)
    subst hE0
    refine xch1 (x := ({ startPc := 0, endPc := 8, handlerPc := 11, catchType := 45 } : ExceptionTableEntry)) (suf := []) hown (by rw [htab]; rfl) rfl (by decide) (hg _ mK_L_45) hT.2.1.2.2.2 hce hcv hcl ?_
    refine xpc (q := 11) rfl ?_
    refine lv_astore_n (lv' := [(3, .ref q9), (0, .ref (A 0)), (1, .int i), (2, .ref o)]) hx hb dL_event_11 rfl hl (by decide) rfl (fun ls hl => ?_)
    refine lv_iconst (v := nI 1) hx hb dL_event_12 (by decide) ?_
    refine xeqi (y := nI ((if rmb S i then 0 else 1))) (by rw [hk0]) ?_
    exact W.iret hx hb hr (fun tS hTS hWS => ⟨f, rfl, (fun q0 => by rw [hk0] at q0; exact absurd q0 (by decide)), by rw [hTS]; exact hP1.app hPo, hS.F hTS⟩) hS.2.2 dL_event_13
  · intro u0 H locs hu hP1 hPo hS
    have hk0 : (if rmb S i then 0 else 1) = 0 := by rw [hu]; rfl
    refine xpc (q := 7) rfl ?_
    have hPw : va_P D vwCl (cW A rw cD cI cM (gσ S) S v ++ [(o, dA cD 1 f)]) H := hP1.app hPo
    refine xdast hx hb hI hPw hd rfl hS 35 0 rfl rfl (j := 0) (by decide) (by decide) (List.mem_append_right _ List.mem_cons_self) dL_event_7 (fun H locs hPw hS => ?_)
    have hPw : va_P D vwCl (cW A rw cD cI cM (gσ S) S v ++ [(o, dA cD 1 (vf_upd f 0 (gtm S ((gev S - 1 - i.toNatClampNeg) % 8))))]) H := hPw
    have hP1 := hPw.l
    have hPo := hPw.r
    refine lv_goto (tgt := 14) hx hb dL_event_8 (by decide) ?_
    refine lv_iconst (v := nI 0) hx hb dL_event_14 (by decide) ?_
    refine xeqi (y := nI ((if rmb S i then 0 else 1))) (by rw [hk0]) ?_
    exact W.iret hx hb hr (fun tS hTS hWS => ⟨vf_upd f 0 (gtm S ((gev S - 1 - i.toNatClampNeg) % 8)), rfl, (fun _ => by simp [vp_updL, vf_upd]), by rw [hTS]; exact hP1.app hPo, hS.F hTS⟩) hS.2.2 dL_event_15
set_option maxHeartbeats 4000000 in
set_option maxRecDepth 100000 in
theorem l_at (l : Launch) (htr : l.stackTraces = false) (D : va_G) (cD cI cM cL : ClassId) (A : Nat → Nat) (rw : Nat → Option Nat) (S : St) (v : Nat → Nat → UInt64) (i : Int32) (o : Nat) (f : Nat → UInt64) (hn : sn (gσ S) ≤ 3) : Met l yL_at (Cond.codeWith yL_at cL_at 4 (some .int) [(0, 8, 11, 13)] :: lw_good) { frames := 7, cells := 1, slots := 6, locals := 103 } (xPw D (tyL cD cI cM cL) [.ref (A 0), .int i, .ref o] (cW A rw cD cI cM (gσ S) S v ++ [(o, dA cD 1 f)]) (cAd A ++ [o])) (xQ D (cAd A ++ [o]) (fun (u : (Nat → UInt64)) => some (.int (nI ((if inV S i then 0 else 1))))) (fun (u : (Nat → UInt64)) => ((if inV S i then 0 else 1) = 0 → u 0 = gy S i.toNatClampNeg)) (fun (u : (Nat → UInt64)) => cW A rw cD cI cM (gσ S) S v ++ [(o, dA cD 1 u)])) 1 6 (fun q => q ∈ cAd A ++ [o]) := by
  refine xofH (by decide) (Nat.le_of_ble_eq_true rfl) ?_
  intro p e s m below meth c ls hx hb hr hml hg hown hlk htab hI hP hd hT hNc hZ hS hl
  have hown : s.vm.findClass RL = some m.cls := hown
  have hl : lv_has ls 4 [(0, .ref (A 0)), (1, .int i), (2, .ref o)] := hl
  have hd : dj (cAd A ++ [o]) := hd
  have hPc := hP.l
  have hPo := hP.r
  have hZc : tZ (fun q => q ∈ cAd A) s s.heap := hZ.narrow (fun q hq => List.mem_append_left _ hq)
  have hdc : dj (cAd A) := hd.l
  have hdis : ∀ x ∈ ([(o, dA cD 1 f)] : va_W).map Prod.fst, x ∉ cAd A := hd.x
  refine lv_aload_n hx hb dL_at_0 rfl (lv_at hl 2 rfl) ?_
  refine lv_iconst (v := nI 0) hx hb dL_at_1 (by decide) ?_
  refine lv_aload_n hx hb dL_at_2 rfl (lv_at hl 0 rfl) ?_
  refine lv_iload_n hx hb dL_at_3 rfl (lv_at hl 1 rfl) ?_
  refine xpc (q := 4) rfl ?_
  refine xcT (xLT (As := [.int i]) (rest := [.int (nI 0), .ref o]) (C := RX6) hx hb hml hown hg (f_at l htr D cD cI cM cL A rw S v i hn) mM_L_47 ok_X6_at rfl rfl ⟨Nat.le_of_ble_eq_true rfl, Nat.le_of_ble_eq_true rfl⟩ hI hPc hdc hT hZc rfl rfl rfl hl.1 rfl (Nat.le_of_ble_eq_true rfl) dL_at_4 ⟨Nat.le_of_ble_eq_true rfl, Nat.le_of_ble_eq_true rfl⟩) hPo hdis hS (fun q hq => List.mem_append_left _ hq) ?_ ?_
  · intro E ce q9 u0 H locs hu hP1 hPo hS hce hcv hcl
    obtain ⟨hk0, hE0⟩ := (show (if inV S i then 0 else 1) = 1 ∧ E = eIA from ⟨by rw [hu.1]; rfl, hu.2⟩)
    subst hE0
    refine xch1 (x := ({ startPc := 0, endPc := 8, handlerPc := 11, catchType := 13 } : ExceptionTableEntry)) (suf := []) hown (by rw [htab]; rfl) rfl (by decide) (hg _ mK_L_13) hT.2.1.1 hce hcv hcl ?_
    refine xpc (q := 11) rfl ?_
    refine lv_astore_n (lv' := [(3, .ref q9), (0, .ref (A 0)), (1, .int i), (2, .ref o)]) hx hb dL_at_11 rfl hl (by decide) rfl (fun ls hl => ?_)
    refine lv_iconst (v := nI 1) hx hb dL_at_12 (by decide) ?_
    refine xeqi (y := nI ((if inV S i then 0 else 1))) (by rw [hk0]) ?_
    exact W.iret hx hb hr (fun tS hTS hWS => ⟨f, rfl, (fun q0 => by rw [hk0] at q0; exact absurd q0 (by decide)), by rw [hTS]; exact hP1.app hPo, hS.F hTS⟩) hS.2.2 dL_at_13
  · intro u0 H locs hu hP1 hPo hS
    have hk0 : (if inV S i then 0 else 1) = 0 := by rw [hu]; rfl
    refine xpc (q := 7) rfl ?_
    have hPw : va_P D vwCl (cW A rw cD cI cM (gσ S) S v ++ [(o, dA cD 1 f)]) H := hP1.app hPo
    refine xdast hx hb hI hPw hd rfl hS 35 0 rfl rfl (j := 0) (by decide) (by decide) (List.mem_append_right _ List.mem_cons_self) dL_at_7 (fun H locs hPw hS => ?_)
    have hPw : va_P D vwCl (cW A rw cD cI cM (gσ S) S v ++ [(o, dA cD 1 (vf_upd f 0 (gy S i.toNatClampNeg)))]) H := hPw
    have hP1 := hPw.l
    have hPo := hPw.r
    refine lv_goto (tgt := 14) hx hb dL_at_8 (by decide) ?_
    refine lv_iconst (v := nI 0) hx hb dL_at_14 (by decide) ?_
    refine xeqi (y := nI ((if inV S i then 0 else 1))) (by rw [hk0]) ?_
    exact W.iret hx hb hr (fun tS hTS hWS => ⟨vf_upd f 0 (gy S i.toNatClampNeg), rfl, (fun _ => by simp [vp_updL, vf_upd]), by rw [hTS]; exact hP1.app hPo, hS.F hTS⟩) hS.2.2 dL_at_15
set_option maxHeartbeats 4000000 in
set_option maxRecDepth 100000 in
theorem l_derivative (l : Launch) (htr : l.stackTraces = false) (D : va_G) (cD cI cM cL : ClassId) (A : Nat → Nat) (rw : Nat → Option Nat) (S : St) (v : Nat → Nat → UInt64) (i : Int32) (o : Nat) (f : Nat → UInt64) (B : Int) (E : Nat) (hv : Inv B E S) (hB : B ≤ BT) : Met l yL_derivative (Cond.codeWith yL_derivative cL_derivative 4 (some .int) [(0, 8, 11, 13)] :: lw_good) { frames := 7, cells := 1, slots := 6, locals := 103 } (xPw D (tyL cD cI cM cL) [.ref (A 0), .int i, .ref o] (cW A rw cD cI cM (gσ S) S v ++ [(o, dA cD 1 f)]) (cAd A ++ [o])) (xQ D (cAd A ++ [o]) (fun (u : (Nat → UInt64) × (Nat → UInt64)) => some (.int (nI ((if inV S i then 0 else 1))))) (fun (u : (Nat → UInt64) × (Nat → UInt64)) => ((if inV S i then 0 else 1) = 0 → u.2 0 = fs (gσ S) (gt S) (gy S) i.toNatClampNeg)) (fun (u : (Nat → UInt64) × (Nat → UInt64)) => cW A rw cD cI cM (gσ S) S (vset v 16 u.1) ++ [(o, dA cD 1 u.2)])) 1 6 (fun q => q ∈ cAd A ++ [o]) := by
  refine xofH (by decide) (Nat.le_of_ble_eq_true rfl) ?_
  intro p e s m below meth c ls hx hb hr hml hg hown hlk htab hI hP hd hT hNc hZ hS hl
  have hown : s.vm.findClass RL = some m.cls := hown
  have hl : lv_has ls 4 [(0, .ref (A 0)), (1, .int i), (2, .ref o)] := hl
  have hd : dj (cAd A ++ [o]) := hd
  have hPc := hP.l
  have hPo := hP.r
  have hZc : tZ (fun q => q ∈ cAd A) s s.heap := hZ.narrow (fun q hq => List.mem_append_left _ hq)
  have hdc : dj (cAd A) := hd.l
  have hdis : ∀ x ∈ ([(o, dA cD 1 f)] : va_W).map Prod.fst, x ∉ cAd A := hd.x
  refine lv_aload_n hx hb dL_derivative_0 rfl (lv_at hl 2 rfl) ?_
  refine lv_iconst (v := nI 0) hx hb dL_derivative_1 (by decide) ?_
  refine lv_aload_n hx hb dL_derivative_2 rfl (lv_at hl 0 rfl) ?_
  refine lv_iload_n hx hb dL_derivative_3 rfl (lv_at hl 1 rfl) ?_
  refine xpc (q := 4) rfl ?_
  refine xcT (xLT (As := [.int i]) (rest := [.int (nI 0), .ref o]) (C := RX6) hx hb hml hown hg (f_derivative l htr D cD cI cM cL A rw S v i B E hv hB) mM_L_50 ok_X6_derivative rfl rfl ⟨Nat.le_of_ble_eq_true rfl, Nat.le_of_ble_eq_true rfl⟩ hI hPc hdc hT hZc rfl rfl rfl hl.1 rfl (Nat.le_of_ble_eq_true rfl) dL_derivative_4 ⟨Nat.le_of_ble_eq_true rfl, Nat.le_of_ble_eq_true rfl⟩) hPo hdis hS (fun q hq => List.mem_append_left _ hq) ?_ ?_
  · intro E ce q9 u0 H locs hu hP1 hPo hS hce hcv hcl
    obtain ⟨hk0, hE0⟩ := (show (if inV S i then 0 else 1) = 1 ∧ E = eIA from ⟨by rw [hu.1]; rfl, hu.2⟩)
    subst hE0
    refine xch1 (x := ({ startPc := 0, endPc := 8, handlerPc := 11, catchType := 13 } : ExceptionTableEntry)) (suf := []) hown (by rw [htab]; rfl) rfl (by decide) (hg _ mK_L_13) hT.2.1.1 hce hcv hcl ?_
    refine xpc (q := 11) rfl ?_
    refine lv_astore_n (lv' := [(3, .ref q9), (0, .ref (A 0)), (1, .int i), (2, .ref o)]) hx hb dL_derivative_11 rfl hl (by decide) rfl (fun ls hl => ?_)
    refine lv_iconst (v := nI 1) hx hb dL_derivative_12 (by decide) ?_
    refine xeqi (y := nI ((if inV S i then 0 else 1))) (by rw [hk0]) ?_
    exact W.iret hx hb hr (fun tS hTS hWS => ⟨(u0, f), rfl, (fun q0 => by rw [hk0] at q0; exact absurd q0 (by decide)), by rw [hTS]; exact hP1.app hPo, hS.F hTS⟩) hS.2.2 dL_derivative_13
  · intro u0 H locs hu hP1 hPo hS
    have hk0 : (if inV S i then 0 else 1) = 0 := by rw [hu]; rfl
    refine xpc (q := 7) rfl ?_
    have hPw : va_P D vwCl (cW A rw cD cI cM (gσ S) S (vset v 16 u0) ++ [(o, dA cD 1 f)]) H := hP1.app hPo
    refine xdast hx hb hI hPw hd rfl hS 35 0 rfl rfl (j := 0) (by decide) (by decide) (List.mem_append_right _ List.mem_cons_self) dL_derivative_7 (fun H locs hPw hS => ?_)
    have hPw : va_P D vwCl (cW A rw cD cI cM (gσ S) S (vset v 16 u0) ++ [(o, dA cD 1 (vf_upd f 0 (fs (gσ S) (gt S) (gy S) i.toNatClampNeg)))]) H := hPw
    have hP1 := hPw.l
    have hPo := hPw.r
    refine lv_goto (tgt := 14) hx hb dL_derivative_8 (by decide) ?_
    refine lv_iconst (v := nI 0) hx hb dL_derivative_14 (by decide) ?_
    refine xeqi (y := nI ((if inV S i then 0 else 1))) (by rw [hk0]) ?_
    exact W.iret hx hb hr (fun tS hTS hWS => ⟨(u0, vf_upd f 0 (fs (gσ S) (gt S) (gy S) i.toNatClampNeg)), rfl, (fun _ => by simp [vp_updL, vf_upd]), by rw [hTS]; exact hP1.app hPo, hS.F hTS⟩) hS.2.2 dL_derivative_15
set_option maxHeartbeats 4000000 in
set_option maxRecDepth 100000 in
theorem l_between (l : Launch) (htr : l.stackTraces = false) (D : va_G) (cD cI cM cL : ClassId) (A : Nat → Nat) (rw : Nat → Option Nat) (S : St) (v : Nat → Nat → UInt64) (i : Int32) (x : UInt64) (o : Nat) (f : Nat → UInt64) (B : Int) (E : Nat) (hv : Inv B E S) (hB : B ≤ BT) (hxf : fin x) (hen : enK S (v 17)) : Met l yL_between (Cond.codeWith yL_between cL_between 6 (some .int) [(0, 10, 13, 13), (0, 10, 17, 45)] :: lw_good) { frames := 7, cells := 1, slots := 6, locals := 105 } (xPw D (tyL cD cI cM cL) [.ref (A 0), .int i, .double x, .ref o] (cW A rw cD cI cM (gσ S) S v ++ [(o, dA cD 1 f)]) (cAd A ++ [o])) (xQ D (cAd A ++ [o]) (fun (u : (Nat → UInt64)) => some (.int (nI (btK S i x)))) (fun (u : (Nat → UInt64)) => (btK S i x = 0 → u 0 = crv (gy0 S i.toNatClampNeg) (gg S i.toNatClampNeg) (gy S i.toNatClampNeg) (gq S i.toNatClampNeg) (gsp S) x)) (fun (u : (Nat → UInt64)) => cW A rw cD cI cM (gσ S) S v ++ [(o, dA cD 1 u)])) 1 6 (fun q => q ∈ cAd A ++ [o]) := by
  refine xofH (by decide) (Nat.le_of_ble_eq_true rfl) ?_
  intro p e s m below meth c ls hx hb hr hml hg hown hlk htab hI hP hd hT hNc hZ hS hl
  have hown : s.vm.findClass RL = some m.cls := hown
  have hl : lv_has ls 6 [(0, .ref (A 0)), (1, .int i), (2, .double x), (4, .ref o)] := hl
  have hd : dj (cAd A ++ [o]) := hd
  have hPc := hP.l
  have hPo := hP.r
  have hZc : tZ (fun q => q ∈ cAd A) s s.heap := hZ.narrow (fun q hq => List.mem_append_left _ hq)
  have hdc : dj (cAd A) := hd.l
  have hdis : ∀ x ∈ ([(o, dA cD 1 f)] : va_W).map Prod.fst, x ∉ cAd A := hd.x
  refine lv_aload hx hb dL_between_0 (lv_at hl 3 rfl) ?_
  refine lv_iconst (v := nI 0) hx hb dL_between_2 (by decide) ?_
  refine lv_aload_n hx hb dL_between_3 rfl (lv_at hl 0 rfl) ?_
  refine lv_iload_n hx hb dL_between_4 rfl (lv_at hl 1 rfl) ?_
  refine lv_dload_n hx hb dL_between_5 rfl (lv_at hl 2 rfl) ?_
  refine xpc (q := 6) rfl ?_
  refine xcT (xLT (As := [.int i, .double x]) (rest := [.int (nI 0), .ref o]) (C := RX6) hx hb hml hown hg (f_between l htr D cD cI cM cL A rw S v i x B E hv hB hxf hen) mM_L_53 ok_X6_between rfl rfl ⟨Nat.le_of_ble_eq_true rfl, Nat.le_of_ble_eq_true rfl⟩ hI hPc hdc hT hZc rfl rfl rfl hl.1 rfl (Nat.le_of_ble_eq_true rfl) dL_between_6 ⟨Nat.le_of_ble_eq_true rfl, Nat.le_of_ble_eq_true rfl⟩) hPo hdis hS (fun q hq => List.mem_append_left _ hq) ?_ ?_
  · intro E ce q9 u0 H locs hu hP1 hPo hS hce hcv hcl
    have hcs := hu
    rcases hcs with ⟨hk0, hE0⟩ | ⟨hk0, hE0⟩
    ·
      subst hE0
      refine xch1 (x := ({ startPc := 0, endPc := 10, handlerPc := 13, catchType := 13 } : ExceptionTableEntry)) (suf := [({ startPc := 0, endPc := 10, handlerPc := 17, catchType := 45 } : ExceptionTableEntry)]) hown (by rw [htab]; rfl) rfl (by decide) (hg _ mK_L_13) hT.2.1.1 hce hcv hcl ?_
      refine xpc (q := 13) rfl ?_
      refine lv_astore (lv' := [(5, .ref q9), (0, .ref (A 0)), (1, .int i), (2, .double x), (4, .ref o)]) hx hb dL_between_13 hl (by decide) rfl (fun ls hl => ?_)
      refine lv_iconst (v := nI 1) hx hb dL_between_15 (by decide) ?_
      refine xeqi (y := nI (btK S i x)) (by rw [hk0]) ?_
      exact W.iret hx hb hr (fun tS hTS hWS => ⟨f, rfl, (fun q0 => by rw [hk0] at q0; exact absurd q0 (by decide)), by rw [hTS]; exact hP1.app hPo, hS.F hTS⟩) hS.2.2 dL_between_16
    ·
      subst hE0
      refine xch2 (x1 := ({ startPc := 0, endPc := 10, handlerPc := 13, catchType := 13 } : ExceptionTableEntry)) (x := ({ startPc := 0, endPc := 10, handlerPc := 17, catchType := 45 } : ExceptionTableEntry)) (suf := []) hown (by rw [htab]; rfl) (by decide) (hg _ mK_L_13) hNc.2.2 rfl (by decide) (hg _ mK_L_45) hT.2.1.2.2.2 hce hcv hcl ?_
      refine xpc (q := 17) rfl ?_
      refine lv_astore (lv' := [(5, .ref q9), (0, .ref (A 0)), (1, .int i), (2, .double x), (4, .ref o)]) hx hb dL_between_17 hl (by decide) rfl (fun ls hl => ?_)
      refine lv_iconst (v := nI 2) hx hb dL_between_19 (by decide) ?_
      refine xeqi (y := nI (btK S i x)) (by rw [hk0]) ?_
      exact W.iret hx hb hr (fun tS hTS hWS => ⟨f, rfl, (fun q0 => by rw [hk0] at q0; exact absurd q0 (by decide)), by rw [hTS]; exact hP1.app hPo, hS.F hTS⟩) hS.2.2 dL_between_20
  · intro u0 H locs hu hP1 hPo hS
    have hk0 : btK S i x = 0 := hu
    refine xpc (q := 9) rfl ?_
    have hPw : va_P D vwCl (cW A rw cD cI cM (gσ S) S v ++ [(o, dA cD 1 f)]) H := hP1.app hPo
    refine xdast hx hb hI hPw hd rfl hS 35 0 rfl rfl (j := 0) (by decide) (by decide) (List.mem_append_right _ List.mem_cons_self) dL_between_9 (fun H locs hPw hS => ?_)
    have hPw : va_P D vwCl (cW A rw cD cI cM (gσ S) S v ++ [(o, dA cD 1 (vf_upd f 0 (crv (gy0 S i.toNatClampNeg) (gg S i.toNatClampNeg) (gy S i.toNatClampNeg) (gq S i.toNatClampNeg) (gsp S) x)))]) H := hPw
    have hP1 := hPw.l
    have hPo := hPw.r
    refine lv_goto (tgt := 21) hx hb dL_between_10 (by decide) ?_
    refine lv_iconst (v := nI 0) hx hb dL_between_21 (by decide) ?_
    refine xeqi (y := nI (btK S i x)) (by rw [hk0]) ?_
    exact W.iret hx hb hr (fun tS hTS hWS => ⟨vf_upd f 0 (crv (gy0 S i.toNatClampNeg) (gg S i.toNatClampNeg) (gy S i.toNatClampNeg) (gq S i.toNatClampNeg) (gsp S) x), rfl, (fun _ => by simp [vp_updL, vf_upd]), by rw [hTS]; exact hP1.app hPo, hS.F hTS⟩) hS.2.2 dL_between_22
