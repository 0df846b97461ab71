def R_law : String := "OdeBenchLaw"
def lw_P (b : Addr) (xs : List Int32) (args : Array Value) (s : State) : Prop := args = #[.ref b] ∧ s.IntsAt b xs ∧ xs.length ≤ 2560 ∧ (Jvm.Cond.and given_1 narrow_1).before args s = true
def lw_Q (_ : Array Value) (s : State) (o : Outcome) (t : State) : Prop := o = .returned (some (.int 1)) ∧ Framed s o t [] 662564 7108413
def lw_Z (below : List Frame) (a : Array Value) (s : State) : State → Prop := fun t => ∃ o, t.status = .running ∧ Ended t below o ∧ lw_Q a s o t
/-- the law's own end, with 1 on the stack, nothing written that was there before, its room as the claim has it -/
theorem lw_ret {p : Program} {l : Launch} {e : Env} {s : State} {m : MethodId} {below : List Frame} {meth : Method} {c : Code} {b : Nat} (hx : p.tables.exec = Jvm.exec) (hb : c.code = code) (hr : meth.sig.returnType = ret) (hlocks : meth.locks = false) {pc : Nat} {H : Heap} {ls : Array Slot} (hdg : decode code pc = .ok (.ireturn, 1)) : W p l e room_1 s m #[Value.ref b] below meth c H [] 662564 7108413 (lw_Z below #[Value.ref b] s) (F0 m pc ls [.int 1]) := by
  intro T hT X
  obtain ⟨fs, hret, hrun, hended, hW, hframe⟩ := X.leave (v := some (.int 1)) (hlocks := hlocks) (fun h => by rw [hr] at h; cases h)
  have hmeth' : T.vm.method? m = some meth := X.method'
  refine ⟨T.setFrames fs, ?_, .returned (some (.int 1)), hrun, hended, rfl, ⟨_, rfl⟩, hW, hframe⟩
  jvm_step X.here [X.here.top, hx, hb, hdg, hmeth', hr, ret, narrow_b1]
  (try refine ⟨rfl, ?_⟩); (try refine ⟨rfl, ?_⟩)
  first | (intro acts; rw [hret _ acts rfl rfl rfl]) | rw [hret _ _ rfl rfl rfl]
  exact Steps.refl _
/-- what holds at the law's entry: the machine, the code, the tables' words (any of lw_tbl by 'hts w (by decide +kernel)'), the script of L ints xs at the cell b, what the Statement gives of the start (any of its parts by flat_of_before) -/
def lw_At (p : Program) (s : State) (m : MethodId) (meth : Method) (c : Code) (b L : Nat) (xs : Nat → Int32) : Prop :=
  p.tables.exec = Jvm.exec ∧ c.code = code ∧ meth.sig.returnType = ret ∧ c.maxLocals = 10 ∧ s.vm.findClass R_law = some m.cls ∧ (∀ w ∈ lw_tbl, w.before #[Value.ref b] s = true) ∧ va_X b L xs s s.heap ∧ b < s.heap.size ∧ meth.locks = false ∧ (Jvm.Cond.and given_1 narrow_1).before #[Value.ref b] s = true

theorem lgc {x y : Int64} (h : x = y) : lg_cmp x y = 0 := by
  subst h
  unfold lg_cmp
  rw [if_neg (fun q => by have := Int64.lt_iff_toInt_lt.mp q; omega), if_pos rfl]
theorem and15 (x : Int32) : ∃ t : Nat, t < 16 ∧ x &&& nI 15 = nI t := by
  refine ⟨(x.toBitVec &&& 15#32).toNat, ?_, ?_⟩
  · rw [BitVec.toNat_and]
    exact Nat.lt_of_le_of_lt Nat.and_le_right (by decide)
  · apply Int32.toBitVec_inj.mp
    show x.toBitVec &&& 15#32 = BitVec.ofNat 32 _
    rw [BitVec.ofNat_toNat, BitVec.setWidth_eq]
section XL
variable {p : Program} {l : Launch} {e : Env} {R : Room} {s : State} {m : MethodId} {args : Array Value} {below : List Frame} {meth : Method} {c : Code} {H : Heap} {locs : List Loc} {cells slots : Nat} {Q : State → Prop}
variable {cc bytes : ByteArray} {pc nL maxL index n mc ms b : Nat} {ls : Array Slot} {rest st0 As : List Value} {own C : String} {y : MethodName} {ret : Option FieldType} {rm : Room} {D : va_G} {tys : List (ClassId × FieldType)} {W₀ : va_W} {ad : List Nat} {Qc : Array Value → State → Outcome → State → Prop} {free : Addr → Prop} {A : Nat → Prop} {H0 : Heap} {hh : List (Nat × Nat × Nat × Nat)}
theorem xsld (hx : p.tables.exec = Jvm.exec) (hb : c.code = cc) {L : Nat} {xs : Nat → Int32} (hX : va_X b L xs s H0) (hbl : b < H0.size) (hbA : ¬ A b) (hS : va_S A H0 H locs) {j : Nat} (hj : j < L) (hL : L < 2 ^ 31) (hdg : decode cc pc = .ok (.iaload, 1))
    (kk : W p l e R s m args below meth c H locs cells slots Q (F0 m (pc + 1) ls (.int (xs j) :: rest))) : W p l e R s m args below meth c H locs cells slots Q (F0 m pc ls (.int (nI j) :: .ref b :: rest)) :=
  va_sld hx hb hX hbl hbA hS (vp_in_nI hj hL) hdg (by rw [nI_clamp (Nat.lt_trans hj hL)]; exact kk)
theorem xlald (hx : p.tables.exec = Jvm.exec) (hb : c.code = cc) (hI : xI D tys s) {ws : va_W} {a : Nat} (hP : va_P D vwCl ws H) (q0 t0 : Nat) {cA : ClassId} {n : Nat} {f : Nat → Int64} (ha : ws[q0]? = some (a, lA cA n f)) (ht : tys[t0]? = some (cA, .long)) {j : Nat} (hj : j < n) (hn : n < 2 ^ 31) (hdg : decode cc pc = .ok (.laload, 1))
    (kk : W p l e R s m args below meth c H locs cells slots Q (F0 m (pc + 1) ls (.long (f j) :: rest))) : W p l e R s m args below meth c H locs cells slots Q (F0 m pc ls (.int (nI j) :: .ref a :: rest)) :=
  va_lald hx hb hI.1 hP q0 t0 ha ht (vp_in_nI hj hn) hdg (by rw [nI_clamp (Nat.lt_trans hj hn)]; exact kk)
theorem xeql {x y : Int64} (h : x = y) (k : W p l e R s m args below meth c H locs cells slots Q (F0 m pc ls (.long y :: rest))) : W p l e R s m args below meth c H locs cells slots Q (F0 m pc ls (.long x :: rest)) := h ▸ k
/-- a call of a method that returns; its world is the callee's -/
theorem xLV {T : u_T} {N ci : Nat} {fs : List Value} (hx : p.tables.exec = Jvm.exec) (hb : c.code = cc) (hml : c.maxLocals = nL) (hown : s.vm.findClass own = some m.cls) (ht : ∀ w ∈ lw_good, w.before args s = true)
    (hM : Met l y (Cond.code y bytes maxL ret :: lw_good) rm (xPc D tys (.ref b :: As) W₀) Qc mc ms free) (m1 : Cond.methodLink own index y ∈ lw_good) (ok : okV y C bytes maxL ret n) (hrc : rm.cells = mc) (hrs : rm.slots = ms) (hR : rm.frames + 1 ≤ R.frames ∧ 8 + (maxL + 11) + rm.locals ≤ R.locals)
    (hI : xI D tys s) (hP : va_P D vwCl W₀ H) (hd : dj (W₀.map Prod.fst)) (hw0 : W₀[0]? = some (b, .inr (ci, fs))) (hc : vwCl[ci]? = some (C, T, N))
    (hln : As.length = n) (hsize : ls.size = nL) (hst : st0 = As.reverse ++ .ref b :: rest) (hroom : (rest.map fun v => v.category).sum ≤ 8) (hdg : decode cc pc = .ok (.invokevirtual index, 3)) (hf : cells + mc ≤ R.cells ∧ slots + ms ≤ R.slots) :
    va_Run p l e R s m args below meth c H locs cells slots mc ms (F0 m pc ls st0) rest (Qc (Value.ref b :: As).toArray) free :=
  va_runV (C := C) (b := b) (As := As) ⟨hx, hb, hml, hown, ht⟩ hM (xcwV ht m1 ok hrc hrs hR) ⟨xblind, va_recv hI.1 hP (q := (C, T, N)) hc hw0, fun U hU hW => ⟨rfl, hI.warm hW, by rw [hU]; exact hP, hd⟩⟩ rfl hln hsize hst (lv_room hroom) hdg hf
/-- a call of one of the law's own methods -/
theorem xLS (hx : p.tables.exec = Jvm.exec) (hb : c.code = cc) (hml : c.maxLocals = nL) (hown : s.vm.findClass own = some m.cls) (ht : ∀ w ∈ lw_good, w.before args s = true)
    (hM : Met l y (Cond.codeWith y bytes maxL ret hh :: lw_good) rm (xPw D tys As W₀ ad) Qc mc ms free) (m1 : Cond.methodLink own index y ∈ lw_good) (m2 : Cond.static y ∈ lw_good) (m3 : Cond.codeWith y bytes maxL ret hh ∈ lw_good) (m4 : Cond.initialized y.cls ∈ lw_good) (hrc : rm.cells = mc) (hrs : rm.slots = ms) (hy : y.cls ≠ "java/lang/invoke/MethodHandle" ∧ y.cls ≠ "java/lang/invoke/VarHandle" ∧ (parseMethodDescriptor y.desc).map (fun d => d.parameters.length) = some n) (hR : rm.frames + 1 ≤ R.frames ∧ 8 + (maxL + 11) + rm.locals ≤ R.locals)
    (hI : xI D tys s) (hP : va_P D vwCl W₀ H) (hd : dj (W₀.map Prod.fst)) (hT : tI s) (hNc : nC s) (hZ : tZ (fun q => q ∈ ad) s H)
    (hln : As.length = n) (hsize : ls.size = nL) (hst : st0 = As.reverse ++ rest) (hroom : (rest.map fun v => v.category).sum ≤ 8) (hdg : decode cc pc = .ok (.invokestatic index, 3)) (hf : cells + mc ≤ R.cells ∧ slots + ms ≤ R.slots) :
    va_Run p l e R s m args below meth c H locs cells slots mc ms (F0 m pc ls st0) rest (Qc As.toArray) free := by
  refine vx_runSW (As := As) ⟨hx, hb, hml, hown, ht⟩ hM (vx_cwSW n ht (xgood ?_) rfl hrc hrs hy hR) ⟨xblindW, fun U hU hW => ⟨rfl, hI.warm hW, by rw [hU]; exact hP, hd, hT.warm hW, hNc.moved hW.alike, by rw [hU]; exact hZ.moved hW.alike⟩⟩ rfl hln hsize hst (lv_room hroom) hdg hf
  intro w hw
  unfold va_wsS at hw
  simp only [List.cons_append, List.nil_append, List.mem_cons] at hw
  rcases hw with rfl | rfl | rfl | rfl | hw
  · exact m1
  · exact m2
  · exact m4
  · exact m3
  · exact hw
section XR
variable {S : Type} {post : S → Prop} {W' : S → va_W} {a : Array Value} {wo : va_W}
theorem xcRv (hr : va_Run p l e R s m args below meth c H locs cells slots mc ms (F0 m pc ls st0) rest (xQ D ad (fun _ => none) post W' a) (fun q => q ∈ ad)) (hPo : va_P D vwCl wo H) (hdis : ∀ x ∈ wo.map Prod.fst, x ∉ ad) (hS : va_S A H0 H locs) (hA : ∀ q ∈ ad, A q)
    (kk : ∀ (u : S) (H1 : Heap) (locs1 : List Loc), post u → va_P D vwCl (W' u) H1 → va_P D vwCl wo H1 → va_S A H0 H1 locs1 → (∀ q : Nat, q < H.size → ¬ q ∈ ad → H1[q]? = H[q]?) → W p l e R s m args below meth c H1 locs1 (cells + mc) (slots + ms) Q (F0 m (pc + 3) ls rest)) : W p l e R s m args below meth c H locs cells slots Q (F0 m pc ls st0) := xcR hr hPo hdis hS hA kk
theorem xcRi {r : S → Int32} (hr : va_Run p l e R s m args below meth c H locs cells slots mc ms (F0 m pc ls st0) rest (xQ D ad (fun u => some (.int (r u))) post W' a) (fun q => q ∈ ad)) (hPo : va_P D vwCl wo H) (hdis : ∀ x ∈ wo.map Prod.fst, x ∉ ad) (hS : va_S A H0 H locs) (hA : ∀ q ∈ ad, A q)
    (kk : ∀ (u : S) (H1 : Heap) (locs1 : List Loc), post u → va_P D vwCl (W' u) H1 → va_P D vwCl wo H1 → va_S A H0 H1 locs1 → (∀ q : Nat, q < H.size → ¬ q ∈ ad → H1[q]? = H[q]?) → W p l e R s m args below meth c H1 locs1 (cells + mc) (slots + ms) Q (F0 m (pc + 3) ls (.int (r u) :: rest))) : W p l e R s m args below meth c H locs cells slots Q (F0 m pc ls st0) := xcR hr hPo hdis hS hA kk
theorem xcRd {r : S → UInt64} (hr : va_Run p l e R s m args below meth c H locs cells slots mc ms (F0 m pc ls st0) rest (xQ D ad (fun u => some (.double (r u))) post W' a) (fun q => q ∈ ad)) (hPo : va_P D vwCl wo H) (hdis : ∀ x ∈ wo.map Prod.fst, x ∉ ad) (hS : va_S A H0 H locs) (hA : ∀ q ∈ ad, A q)
    (kk : ∀ (u : S) (H1 : Heap) (locs1 : List Loc), post u → va_P D vwCl (W' u) H1 → va_P D vwCl wo H1 → va_S A H0 H1 locs1 → (∀ q : Nat, q < H.size → ¬ q ∈ ad → H1[q]? = H[q]?) → W p l e R s m args below meth c H1 locs1 (cells + mc) (slots + ms) Q (F0 m (pc + 3) ls (.double (r u) :: rest))) : W p l e R s m args below meth c H locs cells slots Q (F0 m pc ls st0) := xcR hr hPo hdis hS hA kk
end XR
end XL
/-- the heap in the law's loop -/
def LH (D : va_G) (cD cI cM cL : ClassId) (A B : Nat → Nat) (rw : Nat → Option Nat) (oL oD N E : Nat) (S : St) (v w : Nat → Nat → UInt64) (th fl : Int32) (fL : Nat → Int64) (fD : Nat → UInt64) (H : Heap) : Prop :=
  Inv ((N * 2 ^ 1074 : Nat) : Int) E S ∧ enK S (v 17) ∧ kpK S w ∧ va_P D vwCl (cW A rw cD cI cM (gσ S) S v) H ∧ va_P D vwCl (mW B cD cI (gσ S) S th fl w) H ∧ va_P D vwCl [(oL, lA cL 1 fL)] H ∧ va_P D vwCl [(oD, dA cD 1 fD)] H
/-- what the law's loop has of the start, and of the addresses -/
def LX (D : va_G) (cD cI cM cL : ClassId) (A B : Nat → Nat) (rw : Nat → Option Nat) (oL oD : Nat) (s : State) : Prop :=
  (xI D (tyL cD cI cM cL) s ∧ tI s ∧ nC s ∧ tZ (fun q => s.heap.size ≤ q) s s.heap) ∧ (∀ i, i < 3 → rw i = some (A (17 + i))) ∧ (dj (cAd A) ∧ dj (cAd A ++ [oL]) ∧ dj (cAd A ++ [oD]) ∧ dj (mAd B)) ∧ (∀ q, q ∈ cAd A ∨ q ∈ mAd B ∨ q = oL ∨ q = oD → s.heap.size ≤ q) ∧
  (∀ q ∈ mAd B, q ∉ cAd A ∧ q ≠ oL ∧ q ≠ oD) ∧ (oL ∉ cAd A ∧ oD ∉ cAd A ∧ oL ≠ oD)
theorem trm_le {S : St} {i : Int32} {x : UInt64} {a b : Int32} : (trmP S i x a b).1 ≤ 2 := by
  unfold trmP
  split
  · split
    · exact Nat.le_refl 2
    · exact Nat.zero_le 2
  · exact Nat.le_succ 1
theorem go_le {S : St} {i : Int32} {x : UInt64} : (goP S i x).1 ≤ 2 := by
  unfold goP
  split
  · unfold goR
    split
    · exact Nat.zero_le 2
    · exact Nat.le_refl 2
  · exact Nat.le_succ 1
theorem btK_le {S : St} {i : Int32} {x : UInt64} : btK S i x ≤ 2 := by
  unfold btK
  split
  · split
    · exact Nat.zero_le 2
    · exact Nat.le_refl 2
  · exact Nat.le_succ 1
theorem if_le {b : Bool} : (if b then 0 else 1) ≤ 2 := by cases b <;> decide
theorem k0_of {k : Nat} (h : k ≤ 2) (c : nI k = 0) : k = 0 := (nI_eq (by omega) (by decide)).mp (show nI k = nI 0 from c)
theorem if0 {b : Bool} (h : (if b then 0 else 1) = 0) : b = true := by cases b with | true => rfl | false => exact absurd h (by decide)
