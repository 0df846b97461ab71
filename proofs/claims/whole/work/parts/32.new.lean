/-! rows of constructors: the heap's size is known, new cells lie behind it -/
set_option maxRecDepth 100000 in
theorem mO_I : Cond.instanceMethod Lib.objectInit ∈ lw_good := List.mem_filter.mpr ⟨by decide +kernel, by decide +kernel⟩
set_option maxRecDepth 100000 in
theorem mO_C : Cond.code Lib.objectInit ⟨#[0xb1]⟩ 1 none ∈ lw_good := List.mem_filter.mpr ⟨by decide +kernel, by decide +kernel⟩
theorem dj_push {as : List Nat} {h : Nat} (hd : dj as) (hl : ∀ a ∈ as, a < h) : dj (as ++ [h]) := by
  have key : ∀ (i : Nat) (a : Nat), (as ++ [h])[i]? = some a → (as[i]? = some a ∧ a < h) ∨ (i = as.length ∧ a = h) := by
    intro i a hi
    by_cases hlt : i < as.length
    · rw [List.getElem?_append_left hlt] at hi
      exact Or.inl ⟨hi, hl a (List.mem_of_getElem? hi)⟩
    · rw [List.getElem?_append_right (by omega)] at hi
      have hz : i - as.length < 1 := (List.getElem?_eq_some_iff.mp hi).1
      have e0 : i - as.length = 0 := by omega
      rw [e0] at hi
      cases hi
      exact Or.inr ⟨by omega, rfl⟩
  intro i j a hi hj
  rcases key i a hi with ⟨h1, h2⟩ | ⟨h1, h2⟩ <;> rcases key j a hj with ⟨h3, h4⟩ | ⟨h3, h4⟩
  · exact hd i j a h1 h3
  · omega
  · omega
  · omega
theorem va_P_lt {D : va_G} {ws : va_W} {H : Heap} {as : List Nat} (hP : va_P D vwCl ws H) (e1 : ws.map Prod.fst = as) : ∀ a ∈ as, a < H.size := by
  intro a ha
  rw [← e1] at ha
  obtain ⟨q, hq, rfl⟩ := List.mem_map.mp ha
  obtain ⟨k, hk⟩ := List.getElem?_of_mem hq
  exact (hP k q hk).lt
section XN
variable {p : Program} {l : Launch} {e : Env} {R : Room} {s : State} {m : MethodId} {args : Array Value} {below : List Frame} {meth : Method} {c : Code} {H : Heap} {locs : List Loc} {cells slots : Nat} {Q : State → Prop}
variable {cc : ByteArray} {pc : Nat} {ls : Array Slot} {rest : List Value} {D : va_G} {cD cI cM cL : ClassId} {ws : va_W} {as : List Nat} {A : Nat → Prop} {H0 : Heap}
theorem xnewD (hx : p.tables.exec = Jvm.exec) (hb : c.code = cc) (hg : ∀ w ∈ lw_good, w.before args s = true) (hI : xI D (tyL cD cI cM cL) s) (hP : va_P D vwCl ws H) (hd : dj as) (e1 : ws.map Prod.fst = as) (hS : va_S A H0 H locs) {h : Nat} (hH : H.size = h) {N : Nat} (hN : N ≤ 100) (hc : cells + 1 ≤ R.cells) (hs : slots + N ≤ R.slots) (hdg : decode cc pc = .ok (.newarray .double, 2))
    (kk : ∀ H1 : Heap, va_P D vwCl (ws ++ [(h, dA cD N (fun _ => FP.dconst0))]) H1 → dj (as ++ [h]) → H1.size = h + 1 → va_S A H0 H1 locs → W p l e R s m args below meth c H1 locs (cells + 1) (slots + N) Q (F0 m (pc + 2) ls (.ref h :: rest))) : W p l e R s m args below meth c H locs cells slots Q (F0 m pc ls (.int (nI N) :: rest)) := by
  have hcl : (nI N).toNatClampNeg = N := nI_clamp (by omega)
  have hin : vp_in (nI N) (N + 1) := vp_in_nI (Nat.lt_succ_self N) (by omega)
  refine va_newaK (atype := .double) hx hb (hg _ mA_double) rfl hdg rfl (fun q => hin (Or.inl q)) hcl (by show N * 8 ≤ _; omega) hc hs hH fun H1 cA a1 z1 o1 hAr hNm => ?_
  have hid : cA = cD := Option.some.inj (hNm.symm.trans (hI.1.2 0 _ rfl).2)
  subst hid
  have hlt := va_P_lt hP e1
  rw [hH] at hlt
  refine kk H1 ((hP.kept fun k x hk => o1 x.1 (by rw [← hH]; exact (hP k x hk).lt)).app (fun k x hk => ?_)) (dj_push hd hlt) z1 ⟨Nat.le_trans hS.1 (by omega), fun q h1 h2 => (o1 q (by rw [← hH]; exact Nat.lt_of_lt_of_le h1 hS.1)).trans (hS.2.1 q h1 h2), hS.2.2⟩
  have hz : k < 1 := (List.getElem?_eq_some_iff.mp hk).1
  rw [show k = 0 by omega] at hk
  cases hk
  show H1[h]? = some (vp_cell _ _)
  rw [vp_cell_d]
  exact a1
theorem xnewI (hx : p.tables.exec = Jvm.exec) (hb : c.code = cc) (hg : ∀ w ∈ lw_good, w.before args s = true) (hI : xI D (tyL cD cI cM cL) s) (hP : va_P D vwCl ws H) (hd : dj as) (e1 : ws.map Prod.fst = as) (hS : va_S A H0 H locs) {h : Nat} (hH : H.size = h) {N : Nat} (hN : N ≤ 100) (hc : cells + 1 ≤ R.cells) (hs : slots + N ≤ R.slots) (hdg : decode cc pc = .ok (.newarray .int, 2))
    (kk : ∀ H1 : Heap, va_P D vwCl (ws ++ [(h, iA cI N (fun _ => 0))]) H1 → dj (as ++ [h]) → H1.size = h + 1 → va_S A H0 H1 locs → W p l e R s m args below meth c H1 locs (cells + 1) (slots + N) Q (F0 m (pc + 2) ls (.ref h :: rest))) : W p l e R s m args below meth c H locs cells slots Q (F0 m pc ls (.int (nI N) :: rest)) := by
  have hcl : (nI N).toNatClampNeg = N := nI_clamp (by omega)
  have hin : vp_in (nI N) (N + 1) := vp_in_nI (Nat.lt_succ_self N) (by omega)
  refine va_newaK (atype := .int) hx hb (hg _ mA_int) rfl hdg rfl (fun q => hin (Or.inl q)) hcl (by show N * 4 ≤ _; omega) hc hs hH fun H1 cA a1 z1 o1 hAr hNm => ?_
  have hid : cA = cI := Option.some.inj (hNm.symm.trans (hI.1.2 1 _ rfl).2)
  subst hid
  have hlt := va_P_lt hP e1
  rw [hH] at hlt
  refine kk H1 ((hP.kept fun k x hk => o1 x.1 (by rw [← hH]; exact (hP k x hk).lt)).app (fun k x hk => ?_)) (dj_push hd hlt) z1 ⟨Nat.le_trans hS.1 (by omega), fun q h1 h2 => (o1 q (by rw [← hH]; exact Nat.lt_of_lt_of_le h1 hS.1)).trans (hS.2.1 q h1 h2), hS.2.2⟩
  have hz : k < 1 := (List.getElem?_eq_some_iff.mp hk).1
  rw [show k = 0 by omega] at hk
  cases hk
  show H1[h]? = some (vp_cell _ _)
  rw [vp_cell_i]
  exact a1
/-- a new object, all fields as they are born -/
theorem xnewO (hx : p.tables.exec = Jvm.exec) (hb : c.code = cc) {own C : String} {T : u_T} {N ci index : Nat} (hg : ∀ w ∈ lw_good, w.before args s = true) (hin : ∀ w ∈ u_ws C T N, w ∈ lw_good) (ty0 : Nat → FieldType) (hty : ∀ k, k < N → parseFieldDescriptor (T k).2.2.1 = some (ty0 k)) (hown : s.vm.findClass own = some m.cls) (hcl : Cond.classLink own index C ∈ lw_good) (hinst : Cond.instantiable C N ∈ lw_good) (hini : Cond.initialized C ∈ lw_good)
    (hI : xI D (tyL cD cI cM cL) s) (hP : va_P D vwCl ws H) (hd : dj as) (e1 : ws.map Prod.fst = as) (hS : va_S A H0 H locs) {h : Nat} (hH : H.size = h) (hc0 : vwCl[ci]? = some (C, T, N)) {fs : List Value} (hfs : ∀ j, j < N → defaultValue (ty0 j) = vp_V fs j) (hc : cells + 1 ≤ R.cells) (hs : slots + N ≤ R.slots) (hdg : decode cc pc = .ok (.new index, 3))
    (kk : ∀ H1 : Heap, va_P D vwCl (ws ++ [(h, .inr (ci, fs))]) H1 → dj (as ++ [h]) → H1.size = h + 1 → va_S A H0 H1 locs → W p l e R s m args below meth c H1 locs (cells + 1) (slots + N) Q (F0 m (pc + 3) ls (.ref h :: rest))) : W p l e R s m args below meth c H locs cells slots Q (F0 m pc ls rest) := by
  subst hH
  have hKn := hI.1.1 ci _ hc0
  refine W.newcK hx hb hown (hg _ hcl) (hg _ hinst) (hg _ hini) rfl hdg hc hs hKn.2.1 rfl fun H1 kC hkC a1 z1 o1 => ?_
  refine kk H1 ((hP.kept fun k x hk => o1 x.1 (hP k x hk).lt).app (fun k x hk => ?_)) (dj_push hd (va_P_lt hP e1)) z1 ⟨Nat.le_trans hS.1 (by omega), fun q h1 h2 => (o1 q (Nat.lt_of_lt_of_le h1 hS.1)).trans (hS.2.1 q h1 h2), hS.2.2⟩
  have hz : k < 1 := (List.getElem?_eq_some_iff.mp hk).1
  rw [show k = 0 by omega] at hk
  cases hk
  exact ⟨_, hc0, (u_born ty0 hg hin hKn hkC a1 hty).to hfs⟩
/-- the constructor of Object -/
theorem xobj (hx : p.tables.exec = Jvm.exec) (hb : c.code = cc) {own : String} {idx nL a : Nat} (hg : ∀ w ∈ lw_good, w.before args s = true) (hown : s.vm.findClass own = some m.cls) (hml : c.maxLocals = nL) (hsz : ls.size = nL) (hlink : Cond.methodLink own idx Lib.objectInit ∈ lw_good) (hR : 1 ≤ R.frames ∧ 12 ≤ R.locals) (hdg : decode cc pc = .ok (.invokespecial idx, 3))
    (kk : W p l e R s m args below meth c H locs cells slots Q (F0 m (pc + 3) ls [])) : W p l e R s m args below meth c H locs cells slots Q (F0 m pc ls [.ref a]) :=
  W.objInit hx hb hown (hg _ hlink) (hg _ mO_I) (hg _ mO_C) (g := F0 m pc ls [.ref a]) rfl (by show ls.size = _; rw [hml]; exact hsz) (rest := []) rfl hdg hR.1 (by show 0 + 0 + 12 ≤ _; exact hR.2) kk
end XN
