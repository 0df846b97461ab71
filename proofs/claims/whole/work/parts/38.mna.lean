/-! arrays of arrays in constructors; constructors that need the word of [[D -/
theorem va_AOA.warm {ty : FieldType} {s U : State} (hW : s.WarmedH U.vm) (h : va_AOA ty s) : va_AOA ty U := over_moved hW.alike h
def xPa (D : va_G) (tys : List (ClassId × FieldType)) (av : List Value) (w : va_W) (h0 : Nat) : Array Value → State → Prop := va_Pc av (fun U => (xI D tys U ∧ va_P D vwCl w U.heap ∧ dj (w.map Prod.fst) ∧ U.heap.size = h0) ∧ va_AOA .double U)
theorem xblindA {D : va_G} {tys : List (ClassId × FieldType)} {av : List Value} {w : va_W} {h0 : Nat} : FrameBlind (xPa D tys av w h0) := fun a U g mk q => ⟨q.1, ⟨⟨va_K.moved (u := U) (U := U.calling g mk a) (Vm.Alike.refl U.vm) q.2.1.1.1, nst.same (s := U) (U := U.calling g mk a) rfl q.2.1.1.2⟩, q.2.1.2.1, q.2.1.2.2.1, q.2.1.2.2.2⟩, over_moved (u := U) (E := U.calling g mk a) (Vm.Alike.refl U.vm) q.2.2⟩
theorem xofA {l : Launch} {y : MethodName} {cc : ByteArray} {maxL mc ms h0 : Nat} {rm : Room} {D : va_G} {tys : List (ClassId × FieldType)} {w : va_W} {Qc : Array Value → State → Outcome → State → Prop} {free : Addr → Prop} {av : List Value} (ad : List Nat) (hy : plainName y.cls = true) (hi : y.name = "<init>") (hlen : (lg_sl av).length ≤ maxL)
    (body : ∀ (p : Program) (e : Env) (s : State) (m : MethodId) (below : List Frame) (meth : Method) (c : Code) (ls : Array Slot), p.tables.exec = Jvm.exec → c.code = cc → meth.sig.returnType = none → c.maxLocals = maxL → (∀ w ∈ lw_good, w.before av.toArray s = true) → s.vm.findClass y.cls = some m.cls → meth.locks = false → meth.name = "<init>" → va_AOA .double s → xI D tys s → va_P D vwCl w s.heap → dj (w.map Prod.fst) → s.heap.size = h0 → va_S (zA ad h0) s.heap s.heap [] → lv_has ls maxL (lv_args 0 av) →
      W p l e rm s m av.toArray below meth c s.heap [] 0 0 (MQ below Qc av.toArray s mc ms free) (F0 m 0 ls [])) : Met l y (Cond.code y cc maxL none :: lw_good) rm (xPa D tys av w h0) Qc mc ms free := by
  refine Met.ofW (cc := cc) (maxL := maxL) (ret := none) hy rfl ?_
  intro p e s m args below meth c s₁ B hml hv
  obtain ⟨rfl, ⟨hI, hP, hd, hH⟩, hO⟩ := hv
  rw [lg_entry_eq]
  exact body p e s m below meth c _ B.exec B.bytes B.returns hml (fun w h => atoms_spec (ws := Cond.code y cc maxL none :: lw_good) B.pre w (List.mem_cons_of_mem _ h)) (findClass_of_methodNamed B.named) B.notSynchronized ((name_of_methodNamed B.named B.method).1.trans hi) hO hI hP hd hH va_S.rf (lv_entry av hlen)
section XMN
variable {p : Program} {l : Launch} {e : Env} {R : Room} {s : State} {m : MethodId} {args : Array Value} {below : List Frame} {meth : Method} {c : Code} {H : Heap} {locs : List Loc} {cells slots : Nat} {Q : State → Prop}
variable {cc bytes : ByteArray} {pc nL maxL index n mc ms b h0 : Nat} {ls : Array Slot} {rest st0 As : List Value} {own C : String} {y : MethodName} {rm : Room} {D : va_G} {cD cI cM cL : ClassId} {tys : List (ClassId × FieldType)} {w W₀ ws : va_W} {as : List Nat} {Qc : Array Value → State → Outcome → State → Prop} {free : Addr → Prop} {A : Nat → Prop} {H0 : Heap}
/-- a constructor's call, with the word of [[D -/
theorem xIrA (hx : p.tables.exec = Jvm.exec) (hb : c.code = cc) (hml : c.maxLocals = nL) (hown : s.vm.findClass own = some m.cls) (ht : ∀ w ∈ lw_good, w.before args s = true)
    (hM : Met l y (Cond.code y bytes maxL none :: lw_good) rm (xPa D tys (.ref b :: As) w h0) Qc mc ms free) (m1 : Cond.methodLink own index y ∈ lw_good) (ok : okI y C bytes maxL n) (hrc : rm.cells = mc) (hrs : rm.slots = ms) (hR : rm.frames + 1 ≤ R.frames ∧ 8 + (maxL + 11) + rm.locals ≤ R.locals)
    (hO : va_AOA .double s) (hI : xI D tys s) (hP : va_P D vwCl W₀ H) (hd : dj as) (e1 : W₀.map Prod.fst = as) (hH : H.size = h0) (is : List Nat) (hn : va_nd is = true) (hs : is.map (fun i => W₀[i]?) = w.map some)
    (hln : As.length = n) (hsize : ls.size = nL) (hst : st0 = As.reverse ++ .ref b :: rest) (hroom : (rest.map fun v => v.category).sum ≤ 8) (hdg : decode cc pc = .ok (.invokespecial index, 3)) (hf : cells + mc ≤ R.cells ∧ slots + ms ≤ R.slots) :
    va_Run p l e R s m args below meth c H locs cells slots mc ms (F0 m pc ls st0) rest (Qc (Value.ref b :: As).toArray) free := by
  have hpre := xpre (av := Value.ref b :: As) hI hP hd e1 is hn hs
  exact va_runI (b := b) (As := As) ⟨hx, hb, hml, hown, ht⟩ hM (xcwI ht m1 ok hrc hrs hR) ⟨xblindA, fun U hU hW => by
    obtain ⟨q1, q2, q3, q4⟩ := hpre U hU hW
    exact ⟨q1, ⟨q2, q3, q4, by rw [hU]; exact hH⟩, hO.warm hW⟩⟩ rfl hln hsize hst (lv_room hroom) hdg hf
/-- new double[3][3] -/
theorem xmna (hx : p.tables.exec = Jvm.exec) (hb : c.code = cc) (hg : ∀ w ∈ lw_good, w.before args s = true) (hown : s.vm.findClass own = some m.cls) (hclink : Cond.classLink own index "[[D" ∈ lw_good) (hO : va_AOA .double s) (hI : xI D (tyL cD cI cM cL) s) (hP : va_P D vwCl ws H) (hd : dj as) (e1 : ws.map Prod.fst = as) (hS : va_S A H0 H locs) {h : Nat} (hH : H.size = h) (hc : cells + 4 ≤ R.cells) (hs : slots + 12 ≤ R.slots) (hdg : decode cc pc = .ok (.multianewarray index 2, 4))
    (kk : ∀ H1 : Heap, va_P D vwCl (ws ++ [(h, rA cM 3 (fun i => if i < 3 then some (h + 1 + i) else none)), (h + 1, dA cD 3 (fun _ => FP.dconst0)), (h + 2, dA cD 3 (fun _ => FP.dconst0)), (h + 3, dA cD 3 (fun _ => FP.dconst0))]) H1 → dj (as ++ [h, h + 1, h + 2, h + 3]) → H1.size = h + 4 → va_S A H0 H1 locs → W p l e R s m args below meth c H1 locs (cells + 4) (slots + 12) Q (F0 m (pc + 4) ls (.ref h :: rest))) : W p l e R s m args below meth c H locs cells slots Q (F0 m pc ls (.int (nI 3) :: .int (nI 3) :: rest)) := by
  have hcl : (nI 3).toNatClampNeg = 3 := by decide
  intro T hT Xs
  obtain ⟨vm₁, cA, comp, -, fA, fC, -, -, X', step⟩ := Xs.multianewarray2F (ty := .double) hx hown (hg _ hclink) (va_AOA.use hO) (hg _ mA_double) (g := F0 m pc ls (.int (nI 3) :: .int (nI 3) :: rest)) rfl (by rw [hb]; exact hdg) rfl (by decide) (by decide) (by decide) (by decide) (by decide) rfl rfl (by rw [hcl]; exact hc) (by rw [hcl]; exact hs)
  have ec : some cD = some comp := (hI.1.2 0 _ rfl).2.symm.trans fC
  have eA : some cM = some cA := (hI.1.2 2 _ rfl).2.symm.trans fA
  cases ec
  cases eA
  rw [hcl] at X' step
  generalize hF : Jvm.Free.Multi.fill (T.setVm vm₁) cM cD 3 3 (defaultValue .double) 3 = F at X' step
  have hTh : (T.setVm vm₁).heap = H := hT
  obtain ⟨f1, f2, -, -⟩ := Jvm.Free.Multi.fill_facts (T.setVm vm₁) cM cD 3 3 (defaultValue .double) 3
  rw [hF, hTh] at f1 f2
  have hold : ∀ x : Nat, x < H.size → F.heap[x]? = H[x]? := fun x hx => by
    have := Jvm.Free.Multi.fill_old (T.setVm vm₁) cM cD 3 3 (defaultValue .double) (a := x) (by rw [hTh]; exact hx) 3
    rw [hF, hTh] at this
    exact this
  have hz : Jvm.Free.Multi.innerC cD 3 (defaultValue .double) = vp_cell cD (3, .inr (.inr (.inr (.inl (fun _ => FP.dconst0))))) := by
    show ({ cls := cD, slots := Array.replicate 3 (Value.double FP.dconst0), vm := .none } : Cell) = _
    rw [arrV_new]
    rfl
  have hrow : ∀ j : Nat, j < 3 → F.heap[H.size + 1 + j]? = some (vp_cell cD (3, .inr (.inr (.inr (.inl (fun _ => FP.dconst0)))))) := fun j hj => by
    have := Jvm.Free.Multi.fill_inner (T.setVm vm₁) cM cD 3 3 (defaultValue .double) 3 j hj
    rw [hF, hTh, hz] at this
    exact this
  have hout : Jvm.Free.Multi.outerC cM 3 H.size 3 = vp_cell cM (3, .inr (.inr (.inr (.inr (fun i => if i < 3 then some (H.size + 1 + i) else none))))) := by
    rw [vp_cell_q]
    exact vr_outer cM 3 H.size 3
  rw [hout] at f2
  subst hH
  have hlt := va_P_lt hP e1
  have hTs : T.heap.size = H.size := by rw [hT]
  have hP1 : va_P D vwCl (ws ++ [(H.size, rA cM 3 (fun i => if i < 3 then some (H.size + 1 + i) else none)), (H.size + 1, dA cD 3 (fun _ => FP.dconst0)), (H.size + 2, dA cD 3 (fun _ => FP.dconst0)), (H.size + 3, dA cD 3 (fun _ => FP.dconst0))]) F.heap := by
    refine (hP.kept fun k x hk => hold x.1 (hP k x hk).lt).app (fun k x hk => ?_)
    match k, hk with
    | 0, hk => cases hk; exact f2
    | 1, hk => cases hk; exact hrow 0 (by decide)
    | 2, hk => cases hk; exact hrow 1 (by decide)
    | 3, hk => cases hk; exact hrow 2 (by decide)
    | k + 4, hk => simp at hk
  have hd1 : dj (as ++ [H.size, H.size + 1, H.size + 2, H.size + 3]) := by
    have q1 : ∀ a ∈ as ++ [H.size], a < H.size + 1 := fun a ha => by
      rcases List.mem_append.mp ha with h | h
      · have := hlt a h; omega
      · rw [List.mem_singleton.mp h]; omega
    have q2 : ∀ a ∈ (as ++ [H.size]) ++ [H.size + 1], a < H.size + 2 := fun a ha => by
      rcases List.mem_append.mp ha with h | h
      · have := q1 a h; omega
      · rw [List.mem_singleton.mp h]; omega
    have q3 : ∀ a ∈ ((as ++ [H.size]) ++ [H.size + 1]) ++ [H.size + 2], a < H.size + 3 := fun a ha => by
      rcases List.mem_append.mp ha with h | h
      · have := q2 a h; omega
      · rw [List.mem_singleton.mp h]; omega
    have := dj_push (dj_push (dj_push (dj_push hd hlt) q1) q2) q3
    simpa [List.append_assoc] using this
  obtain ⟨t2, a1, b1⟩ := kk F.heap hP1 hd1 f1 ⟨Nat.le_trans hS.1 (by omega), fun q h1 h2 => (hold q (Nat.lt_of_lt_of_le h1 hS.1)).trans (hS.2.1 q h1 h2), hS.2.2⟩ F rfl X'
  refine ⟨t2, step t2 ?_, b1⟩
  rw [hTs]
  exact a1
end XMN
