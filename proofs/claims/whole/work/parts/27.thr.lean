abbrev nm2 : List String := ["java/lang/RuntimeException", "java/lang/Exception"]
abbrev eIA : String := "java/lang/IllegalArgumentException"
abbrev eIS : String := "java/lang/IllegalStateException"
abbrev eAR : String := "java/lang/ArithmeticException"
abbrev eNS : String := "java/util/NoSuchElementException"
def nB : ByteArray := ⟨#[0x2a, 0x2b, 0xb7, 0, 13, 0xb1]⟩
def vx_atX (own : String) (ic : Nat) (X : String) (ix : Nat) (rx : ByteArray) (names : List String) : List Cond := (Bundle.ownAtomsX own ic X ix rx names).filter vx_no
/-- the words of a throw that are no good words -/
abbrev bL (E : String) : List Cond := [.castable E E, .declares (Bundle.initS "java/lang/RuntimeException"), .declares (Bundle.initS "java/lang/Exception"), .declares (Bundle.initS Bundle.tN)]
set_option maxRecDepth 100000 in
theorem at_IA : ∀ w ∈ (vx_atS RX6 56 eIA nm2).filter goodWord, w ∈ lw_tbl := by decide +kernel
set_option maxRecDepth 100000 in
theorem at_IS : ∀ w ∈ (vx_atS RX6 84 eIS nm2).filter goodWord, w ∈ lw_tbl := by decide +kernel
set_option maxRecDepth 100000 in
theorem at_AR : ∀ w ∈ (vx_atS RX6 129 eAR nm2).filter goodWord, w ∈ lw_tbl := by decide +kernel
set_option maxRecDepth 100000 in
theorem at_NS : ∀ w ∈ (vx_atX RX6 164 eNS 13 nB nm2).filter goodWord, w ∈ lw_tbl := by decide +kernel
theorem bt_IA : ∀ w ∈ (vx_atS RX6 56 eIA nm2).filter (fun w => !goodWord w), w ∈ bL eIA := by decide +kernel
theorem bt_IS : ∀ w ∈ (vx_atS RX6 84 eIS nm2).filter (fun w => !goodWord w), w ∈ bL eIS := by decide +kernel
theorem bt_AR : ∀ w ∈ (vx_atS RX6 129 eAR nm2).filter (fun w => !goodWord w), w ∈ bL eAR := by decide +kernel
theorem bt_NS : ∀ w ∈ (vx_atX RX6 164 eNS 13 nB nm2).filter (fun w => !goodWord w), w ∈ bL eNS := by decide +kernel
theorem ot_IA : ∀ w ∈ Cond.classLink RX6 52 eIA :: Cond.initialized eIA :: vx_atS RX6 56 eIA nm2, vx_ot w = true := by decide +kernel
theorem ot_IS : ∀ w ∈ Cond.classLink RX6 80 eIS :: Cond.initialized eIS :: vx_atS RX6 84 eIS nm2, vx_ot w = true := by decide +kernel
theorem ot_AR : ∀ w ∈ Cond.classLink RX6 125 eAR :: Cond.initialized eAR :: vx_atS RX6 129 eAR nm2, vx_ot w = true := by decide +kernel
theorem ot_NS : ∀ w ∈ Cond.classLink RX6 160 eNS :: Cond.initialized eNS :: vx_atX RX6 164 eNS 13 nB nm2, vx_ot w = true := by decide +kernel
set_option maxRecDepth 100000 in
theorem in_IA : Cond.initialized eIA ∈ lw_tbl := by decide +kernel
set_option maxRecDepth 100000 in
theorem in_IS : Cond.initialized eIS ∈ lw_tbl := by decide +kernel
set_option maxRecDepth 100000 in
theorem in_AR : Cond.initialized eAR ∈ lw_tbl := by decide +kernel
set_option maxRecDepth 100000 in
theorem in_NS : Cond.initialized eNS ∈ lw_tbl := by decide +kernel
/-- the texts of the class -/
def strT : List (Nat × String) := [(54, "a system has 1 to 3 values"), (66, "no such value or factor"), (74, "c is not from -64.0 to 64.0"), (82, "there are 10 terms"), (98, "no such value, or it is not from -1000.0 to 1000.0"), (104, "not above 0.0, or above 4.0"), (116, "no such method"), (127, "the step fails"), (139, "no such method, or a time that can't be gone to"), (147, "a step fails"), (149, "the time is not reached in 100 steps"), (151, "no such value, or the level is not from -1000.0 to 1000.0"), (162, "no such event"), (169, "no such value"), (175, "no such value, or m is not from 0.0 to 1.0"), (181, "there is no last step")]
/-- what throws need of the tables beyond the good words -/
def tI (U : State) : Prop := (∀ q ∈ strT, ∃ sa, vk_R RX6 q.1 q.2 sa U) ∧ (va_Nw (.castable eIA eIA) U ∧ va_Nw (.castable eIS eIS) U ∧ va_Nw (.castable eAR eAR) U ∧ va_Nw (.castable eNS eNS) U) ∧ va_Nw (.declares (Bundle.initS "java/lang/RuntimeException")) U ∧ va_Nw (.declares (Bundle.initS "java/lang/Exception")) U ∧ va_Nw (.declares (Bundle.initS Bundle.tN)) U
theorem tI.warm {s U : State} (hW : s.WarmedH U.vm) (h : tI s) : tI U := ⟨fun q hq => (h.1 q hq).elim fun sa x => ⟨sa, vk_R.warm hW x⟩, ⟨va_Nw.warmC hW h.2.1.1, va_Nw.warmC hW h.2.1.2.1, va_Nw.warmC hW h.2.1.2.2.1, va_Nw.warmC hW h.2.1.2.2.2⟩, va_Nw.warmD hW h.2.2.1, va_Nw.warmD hW h.2.2.2.1, va_Nw.warmD hW h.2.2.2.2⟩
theorem tI.same {s U : State} (hv : s.vm = U.vm) (h : tI s) : tI U := ⟨fun q hq => (h.1 q hq).elim fun sa x => ⟨sa, vk_R.same hv.symm x⟩, ⟨va_Nw.same rfl hv h.2.1.1, va_Nw.same rfl hv h.2.1.2.1, va_Nw.same rfl hv h.2.1.2.2.1, va_Nw.same rfl hv h.2.1.2.2.2⟩, va_Nw.same rfl hv h.2.2.1, va_Nw.same rfl hv h.2.2.2.1, va_Nw.same rfl hv h.2.2.2.2⟩
theorem tI.b {E : String} {args : Array Value} {s : State} (h : tI s) (hE : va_Nw (.castable E E) s) : ∀ w ∈ bL E, w.before args s = true := vx_c (va_Nw.use rfl hE) (vx_c (va_Nw.use rfl h.2.2.1) (vx_c (va_Nw.use rfl h.2.2.2.1) (vx_c (va_Nw.use rfl h.2.2.2.2) vx_n)))
/-- the statics of Throwable -/
def tZ (A : Nat → Prop) (U : State) (H : Heap) : Prop := vx_Zq Bundle.tN "UNASSIGNED_STACK" Bundle.steD A U H ∧ vx_Zq Bundle.tN "SUPPRESSED_SENTINEL" Bundle.listD A U H
theorem tZ.moved {A : Nat → Prop} {u U : State} {H : Heap} (hvm : u.vm.Alike U.vm) (h : tZ A u H) : tZ A U H := ⟨vx_Zq.moved hvm h.1, vx_Zq.moved hvm h.2⟩
theorem tZ.kept {A : Nat → Prop} {U : State} {H H1 : Heap} (h : tZ A U H) (hq : ∀ a : Nat, a < H.size → ¬ A a → H1[a]? = H[a]?) : tZ A U H1 := ⟨vx_Zq.kept h.1 hq, vx_Zq.kept h.2 hq⟩
theorem tZ.narrow {A B : Nat → Prop} {U : State} {H : Heap} (h : tZ A U H) (hAB : ∀ q, B q → A q) : tZ B U H := ⟨vx_Zq.narrow h.1 hAB, vx_Zq.narrow h.2 hAB⟩
def xPt (D : va_G) (tys : List (ClassId × FieldType)) (av : List Value) (w : va_W) (ad : List Nat) : Array Value → State → Prop := va_Pc av (fun U => xI D tys U ∧ va_P D vwCl w U.heap ∧ dj (w.map Prod.fst) ∧ tI U ∧ tZ (fun q => q ∈ ad) U U.heap)
theorem xblindT {D : va_G} {tys : List (ClassId × FieldType)} {av : List Value} {w : va_W} {ad : List Nat} : FrameBlind (xPt D tys av w ad) := fun a U g mk q => ⟨q.1, ⟨va_K.moved (u := U) (U := U.calling g mk a) (Vm.Alike.refl U.vm) q.2.1.1, nst.same (s := U) (U := U.calling g mk a) rfl q.2.1.2⟩, q.2.2.1, q.2.2.2.1, tI.same (s := U) (U := U.calling g mk a) rfl q.2.2.2.2.1, tZ.moved (u := U) (U := U.calling g mk a) (Vm.Alike.refl U.vm) q.2.2.2.2.2⟩
/-- the end by a throw -/
def yX {S : Type} (D : va_G) (ad : List Nat) (pe : String → S → Prop) (w' : S → va_W) : String → State → State → Prop := fun E st t => ∃ u : S, pe E u ∧ va_P D vwCl (w' u) t.heap ∧ va_F (fun q => q ∈ ad) st t
section XT
variable {p : Program} {l : Launch} {e : Env} {R : Room} {s : State} {m : MethodId} {args : Array Value} {below : List Frame} {meth : Method} {c : Code} {H : Heap} {locs : List Loc}
variable {cc : ByteArray} {pc maxL mc ms : Nat} {ls : Array Slot} {D : va_G} {tys : List (ClassId × FieldType)} {ws w : va_W} {ad : List Nat} {Qc : Array Value → State → Outcome → State → Prop} {XC : String → State → State → Prop} {free : Addr → Prop} {y : MethodName} {ret : Option FieldType} {rm : Room}
theorem xofT {av : List Value} (hy : plainName y.cls = true) (hlen : (lg_sl av).length ≤ maxL)
    (body : ∀ (p : Program) (e : Env) (s : State) (m : MethodId) (below : List Frame) (meth : Method) (c : Code) (ls : Array Slot), p.tables.exec = Jvm.exec → c.code = cc → meth.sig.returnType = ret → c.maxLocals = maxL → (∀ w ∈ lw_good, w.before av.toArray s = true) → s.vm.findClass y.cls = some m.cls → meth.locks = false → (∀ x ∈ c.exceptionTable.toList, False) → xI D tys s → va_P D vwCl w s.heap → dj (w.map Prod.fst) → tI s → tZ (fun q => q ∈ ad) s s.heap → va_S (fun q => q ∈ ad) s.heap s.heap [] → lv_has ls maxL (lv_args 0 av) →
      W p l e rm s m av.toArray below meth c s.heap [] 0 0 (vx_MQ below Qc XC av.toArray s mc ms free) (F0 m 0 ls [])) : vx_Met l y (Cond.code y cc maxL ret :: lw_good) rm (xPt D tys av w ad) Qc XC mc ms free := by
  refine vx_ofW (cc := cc) (maxL := maxL) (ret := ret) hy rfl ?_
  intro p e s m args below meth c s₁ B hml hex hv
  obtain ⟨rfl, hI, hP, hd, hT, hZ⟩ := hv
  rw [lg_entry_eq]
  exact body p e s m below meth c _ B.exec B.bytes B.returns hml (fun w h => atoms_spec (ws := Cond.code y cc maxL ret :: lw_good) B.pre w (List.mem_cons_of_mem _ h)) (findClass_of_methodNamed B.named) B.notSynchronized hex hI hP hd hT hZ va_S.rf (lv_entry av hlen)
/-- 'throw new E("text")' of the class -/
theorem xthrow {E text : String} {ik is ic : Nat} (hx : p.tables.exec = Jvm.exec) (hb : c.code = cc) (htr : l.stackTraces = false) (hown : s.vm.findClass RX6 = some m.cls) (hg : ∀ w ∈ lw_good, w.before args s = true) (hT : tI s) (hZ : tZ (fun q => q ∈ ad) s s.heap)
    (hE : va_Nw (.castable E E) s) (hfit : Bundle.fit E = true) (hk : Cond.classLink RX6 ik E ∈ lw_good) (hin : Cond.initialized E ∈ lw_tbl) (hat : ∀ w ∈ (vx_atS RX6 ic E nm2).filter goodWord, w ∈ lw_tbl) (hbt : ∀ w ∈ (vx_atS RX6 ic E nm2).filter (fun w => !goodWord w), w ∈ bL E) (hot : ∀ w ∈ Cond.classLink RX6 ik E :: Cond.initialized E :: vx_atS RX6 ic E nm2, vx_ot w = true)
    (hstr : (is, text) ∈ strT) (hP : va_P D vwCl ws H) (hS : va_S (fun q => q ∈ ad) s.heap H locs) (hsize : ls.size = c.maxLocals) (hex : ∀ x ∈ c.exceptionTable.toList, False) (hlk : meth.locks = false)
    (hR : 5 < R.frames ∧ 82 ≤ R.locals ∧ 1 ≤ R.cells ∧ 6 ≤ R.slots)
    (hq : ∀ t : State, va_P D vwCl ws t.heap → va_F (fun q => q ∈ ad) s t → XC E s t)
    (d0 : decode cc pc = .ok (.new ik, 3)) (d3 : decode cc (pc + 3) = .ok (.dup, 1)) (d4 : decode cc (pc + 4) = .ok (.ldc is, 2)) (d6 : decode cc (pc + 6) = .ok (.invokespecial ic, 3)) (d9 : decode cc (pc + 9) = .ok (.athrow, 1)) :
    W p l e R s m args below meth c H locs 0 0 (vx_MQ below Qc XC args s 1 6 (fun q => q ∈ ad)) (F0 m pc ls []) := by
  obtain ⟨sa, hsa⟩ := hT.1 _ hstr
  have hini : (Cond.initialized E).before args s = true := hg _ (List.mem_filter.mpr ⟨hin, rfl⟩)
  refine vx_throwS (text := text) (sa := sa) (names := nm2) (A := fun q => q ∈ ad) hx hb htr hown hfit (by decide) (hg _ hk) hini hsa (vx_hat (fun w h => hg _ (List.mem_filter.mpr ⟨hat w h, (List.mem_filter.mp h).2⟩)) hbt (hT.b hE)) hot hZ.1 hZ.2 hS hsize d0 d3 d4 d6 d9 (fun x h => (hex x h).elim) hR.1 hR.2.1 hR.2.2.1 hR.2.2.2 hlk (fun t _ hz hh => ?_) hS.2.2 (Nat.le_refl _) (Nat.le_refl _)
  refine hq t (fun k q hk => (hP k q hk).kept (hh q.1 (hP k q hk).lt)) ⟨Nat.le_trans hS.1 hz, fun q hq hn => ?_⟩
  rw [hh q (Nat.lt_of_lt_of_le hq hS.1)]
  exact hS.2.1 q hq hn
end XT
