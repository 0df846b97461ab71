/-! the rows that the walks use: addresses apart by a list, a common list of words, contracts that make nothing new -/
def dj (as : List Nat) : Prop := ∀ (i j a : Nat), as[i]? = some a → as[j]? = some a → i = j
theorem dj.D {ws : va_W} {as : List Nat} (h : dj as) (e : ws.map Prod.fst = as) : va_D (fun _ => True) ws := by
  subst e
  refine ⟨fun i j p q hi hj hpq => h i j p.1 ?_ ?_, fun _ _ _ => trivial⟩
  · rw [List.getElem?_map, hi]; rfl
  · rw [List.getElem?_map, hj, hpq]; rfl
theorem dj.of {ws : va_W} {A : Nat → Prop} (h : va_D A ws) : dj (ws.map Prod.fst) := by
  intro i j a hi hj
  rw [List.getElem?_map] at hi hj
  cases e1 : ws[i]? with
  | none => rw [e1] at hi; cases hi
  | some p =>
    cases e2 : ws[j]? with
    | none => rw [e2] at hj; cases hj
    | some q =>
      rw [e1] at hi
      rw [e2] at hj
      have a1 : p.1 = a := Option.some.inj hi
      have a2 : q.1 = a := Option.some.inj hj
      exact h.1 i j p q e1 e2 (a1.trans a2.symm)
theorem dj.sub {as bs : List Nat} (h : dj as) (is : List Nat) (hn : va_nd is = true) (hs : is.map (fun i => as[i]?) = bs.map some) : dj bs := by
  have key : ∀ (k : Nat) (q : Nat), bs[k]? = some q → ∃ i, is[k]? = some i ∧ as[i]? = some q := by
    intro k q hk
    have h1 : (is.map (fun i => as[i]?))[k]? = some (some q) := by rw [hs, List.getElem?_map, hk]; rfl
    rw [List.getElem?_map] at h1
    cases hi : is[k]? with
    | none => rw [hi] at h1; cases h1
    | some i => rw [hi] at h1; exact ⟨i, rfl, Option.some.inj h1⟩
  intro i j a hi hj
  obtain ⟨x, h1, h2⟩ := key i a hi
  obtain ⟨y, h3, h4⟩ := key j a hj
  have hxy := h x y a h2 h4
  subst hxy
  exact va_nd_inj is hn i j x h1 h3
/-- the links to private members of nest mates -/
def nst (U : State) : Prop := va_Nw (.methodLinkNest RX6 18 yX0_init RX6) U ∧ va_Nw (.methodLinkNest RX6 43 yX5_init RX6) U ∧ va_Nw (.methodLinkNest RX4 92 yX6_greatest RX6) U ∧ va_Nw (.methodLinkNest RX1 73 yX6_sizeOf RX6) U ∧ va_Nw (.methodLinkNest RX1 49 yX6_greatest RX6) U
theorem nst.warm {s U : State} (hW : s.WarmedH U.vm) (h : nst s) : nst U := ⟨va_Nw.warmM hW h.1, va_Nw.warmM hW h.2.1, va_Nw.warmM hW h.2.2.1, va_Nw.warmM hW h.2.2.2.1, va_Nw.warmM hW h.2.2.2.2⟩
theorem nst.same {s U : State} (hW : s.vm = U.vm) (h : nst s) : nst U := ⟨va_Nw.same rfl hW h.1, va_Nw.same rfl hW h.2.1, va_Nw.same rfl hW h.2.2.1, va_Nw.same rfl hW h.2.2.2.1, va_Nw.same rfl hW h.2.2.2.2⟩
def xI (D : va_G) (tys : List (ClassId × FieldType)) (U : State) : Prop := va_K D vwCl tys U ∧ nst U
theorem xI.warm {D : va_G} {tys : List (ClassId × FieldType)} {s U : State} (hW : s.WarmedH U.vm) (h : xI D tys s) : xI D tys U := ⟨va_K.moved hW.alike h.1, h.2.warm hW⟩
/-- the array classes: double, int, double[], long -/
abbrev tyL (cD cI cM cL : ClassId) : List (ClassId × FieldType) := [(cD, .double), (cI, .int), (cM, .array .double), (cL, .long)]
abbrev dA (c : ClassId) (n : Nat) (f : Nat → UInt64) : va_E := .inl (c, n, .inr (.inr (.inr (.inl f))))
abbrev iA (c : ClassId) (n : Nat) (f : Nat → Int32) : va_E := .inl (c, n, .inl f)
abbrev lA (c : ClassId) (n : Nat) (f : Nat → Int64) : va_E := .inl (c, n, .inr (.inl f))
abbrev rA (c : ClassId) (n : Nat) (f : Nat → Option Nat) : va_E := .inl (c, n, .inr (.inr (.inr (.inr f))))
def xPc (D : va_G) (tys : List (ClassId × FieldType)) (av : List Value) (w : va_W) : Array Value → State → Prop := va_Pc av (fun U => xI D tys U ∧ va_P D vwCl w U.heap ∧ dj (w.map Prod.fst))
def xQ {S : Type} (D : va_G) (ad : List Nat) (ret : S → Option Value) (post : S → Prop) (w' : S → va_W) : Array Value → State → Outcome → State → Prop := fun _ st oc t =>
  ∃ u : S, oc = .returned (ret u) ∧ post u ∧ va_P D vwCl (w' u) t.heap ∧ va_F (fun q => q ∈ ad) st t
theorem xblind {D : va_G} {tys : List (ClassId × FieldType)} {av : List Value} {w : va_W} : FrameBlind (xPc D tys av w) := fun a U g mk q => ⟨q.1, ⟨va_K.moved (u := U) (U := U.calling g mk a) (Vm.Alike.refl U.vm) q.2.1.1, nst.same (s := U) (U := U.calling g mk a) rfl q.2.1.2⟩, q.2.2.1, q.2.2.2⟩
def xset : va_W → List Nat → va_W → va_W
  | W, i :: is, x :: w => xset (W.set i x) is w
  | W, _, _ => W
theorem xset_spec : ∀ (is : List Nat) (w W : va_W) (k : Nat) (q : Nat × va_E), is.length = w.length → (xset W is w)[k]? = some q → (∃ j : Nat, is[j]? = some k ∧ w[j]? = some q) ∨ (W[k]? = some q ∧ ∀ j : Nat, is[j]? ≠ some k) := by
  intro is
  induction is with
  | nil =>
    intro w W k q hl h
    cases w with
    | nil => exact Or.inr ⟨h, fun j e => by simp at e⟩
    | cons => cases hl
  | cons i is ih =>
    intro w W k q hl h
    cases w with
    | nil => cases hl
    | cons x w =>
      rcases ih w (W.set i x) k q (by simpa using hl) h with ⟨j, h1, h2⟩ | ⟨h1, h2⟩
      · exact Or.inl ⟨j + 1, by simpa using h1, by simpa using h2⟩
      · by_cases hk : i = k
        · subst hk
          have hlt : i < W.length := by
            have := (List.getElem?_eq_some_iff.mp h1).1
            simpa using this
          rw [List.getElem?_set_self hlt] at h1
          exact Or.inl ⟨0, rfl, by simpa using h1⟩
        · rw [List.getElem?_set_ne hk] at h1
          refine Or.inr ⟨h1, fun j e => ?_⟩
          cases j with
          | zero => exact hk (by simpa using e)
          | succ j => exact h2 j (by simpa using e)
theorem xjoin {D : va_G} {W w1 : va_W} {is as ad : List Nat} {H H1 : Heap} (hP : va_P D vwCl W H) (hd : dj as) (e1 : W.map Prod.fst = as) (e2 : is.map (fun i => as[i]?) = ad.map some) (e3 : w1.map Prod.fst = ad) (hF : ∀ q : Nat, q < H.size → ¬ q ∈ ad → H1[q]? = H[q]?) (hP1 : va_P D vwCl w1 H1) : va_P D vwCl (xset W is w1) H1 := by
  intro k q hk
  have hlen : is.length = w1.length := by
    have h1 : is.length = ad.length := by simpa using congrArg List.length e2
    have h2 : w1.length = ad.length := by simpa using congrArg List.length e3
    omega
  rcases xset_spec is w1 W k q hlen hk with ⟨j, -, h2⟩ | ⟨h1, h2⟩
  · exact hP1 j q h2
  · refine (hP k q h1).kept (hF q.1 (hP k q h1).lt (fun hm => ?_))
    obtain ⟨j, hj⟩ := List.getElem?_of_mem hm
    have h3 : (is.map (fun i => as[i]?))[j]? = some (some q.1) := by rw [e2, List.getElem?_map, hj]; rfl
    rw [List.getElem?_map] at h3
    cases hi : is[j]? with
    | none => rw [hi] at h3; cases h3
    | some i =>
      rw [hi] at h3
      have h4 : as[i]? = some q.1 := Option.some.inj h3
      have h5 : as[k]? = some q.1 := by rw [← e1, List.getElem?_map, h1]; rfl
      have h6 := hd i k q.1 h4 h5
      subst h6
      exact h2 j hi
theorem xgood {ws : List Cond} (h : ∀ w ∈ ws, w ∈ lw_good) : GoodIn lw_good ws := fun w hw => ⟨h w hw, lw_gw (h w hw)⟩
theorem fa0 {P : Nat → Prop} : ∀ q ∈ ([] : List Nat), P q := fun _ h => nomatch h
theorem fa1 {P : Nat → Prop} {a : Nat} {l : List Nat} (h : P a) (t : ∀ q ∈ l, P q) : ∀ q ∈ a :: l, P q := fun q hq => (List.mem_cons.mp hq).elim (fun e => e ▸ h) (t q)
theorem pm0 {a : Nat} {l : List Nat} : a ∈ a :: l := List.mem_cons_self
theorem pmS {a b : Nat} {l : List Nat} (h : a ∈ l) : a ∈ b :: l := List.mem_cons_of_mem _ h
/-- what a callee must have among the words -/
def okV (y : MethodName) (C : String) (bytes : ByteArray) (maxL : Nat) (ret : Option FieldType) (n : Nat) : Prop :=
  Cond.instanceMethod y ∈ lw_good ∧ Cond.selects C y y ∈ lw_good ∧ Cond.initialized C ∈ lw_good ∧ Cond.code y bytes maxL ret ∈ lw_good ∧ (y.cls = C ∧ y.cls ≠ "java/lang/invoke/MethodHandle" ∧ y.cls ≠ "java/lang/invoke/VarHandle" ∧ (parseMethodDescriptor y.desc).map (fun d => d.parameters.length) = some n)
def okS (y : MethodName) (C : String) (bytes : ByteArray) (maxL : Nat) (ret : Option FieldType) (n : Nat) : Prop :=
  Cond.static y ∈ lw_good ∧ Cond.initialized C ∈ lw_good ∧ Cond.code y bytes maxL ret ∈ lw_good ∧ (y.cls = C ∧ y.cls ≠ "java/lang/invoke/MethodHandle" ∧ y.cls ≠ "java/lang/invoke/VarHandle" ∧ (parseMethodDescriptor y.desc).map (fun d => d.parameters.length) = some n)
def okI (y : MethodName) (C : String) (bytes : ByteArray) (maxL : Nat) (n : Nat) : Prop :=
  Cond.instanceMethod y ∈ lw_good ∧ Cond.initialized C ∈ lw_good ∧ Cond.code y bytes maxL none ∈ lw_good ∧ y.name = "<init>" ∧ (y.cls = C ∧ y.cls ≠ "java/lang/invoke/MethodHandle" ∧ y.cls ≠ "java/lang/invoke/VarHandle" ∧ (parseMethodDescriptor y.desc).map (fun d => d.parameters.length) = some n)
section XC
variable {p : Program} {l : Launch} {e : Env} {R : Room} {s : State} {m : MethodId} {args : Array Value} {below : List Frame} {meth : Method} {c : Code} {H : Heap} {locs : List Loc} {cells slots : Nat} {Q : State → Prop}
variable {cc bytes : ByteArray} {pc nL maxL index n : Nat} {ls : Array Slot} {rest st0 : List Value} {own C : String} {y : MethodName} {ret : Option FieldType} {rm : Room} {mc ms : Nat}
theorem xcwV (ht : ∀ w ∈ lw_good, w.before args s = true) (m1 : Cond.methodLink own index y ∈ lw_good) (ok : okV y C bytes maxL ret n) (hrc : rm.cells = mc) (hrs : rm.slots = ms) (hR : rm.frames + 1 ≤ R.frames ∧ 8 + (maxL + 11) + rm.locals ≤ R.locals) :
    CallW R s args own C index y bytes maxL ret (Cond.code y bytes maxL ret :: lw_good) rm mc ms n := by
  obtain ⟨o1, o2, o3, o4, o5⟩ := ok
  refine cwV n ht (xgood ?_) rfl hrc hrs o5 hR
  intro w hw
  unfold wsV at hw
  simp only [List.cons_append, List.nil_append, List.mem_cons] at hw
  rcases hw with rfl | rfl | rfl | rfl | rfl | hw
  · exact m1
  · exact o1
  · exact o2
  · exact o3
  · exact o4
  · exact hw
theorem xcwS (ht : ∀ w ∈ lw_good, w.before args s = true) (m1 : Cond.methodLink own index y ∈ lw_good) (ok : okS y C bytes maxL ret n) (hrc : rm.cells = mc) (hrs : rm.slots = ms) (hR : rm.frames + 1 ≤ R.frames ∧ 8 + (maxL + 11) + rm.locals ≤ R.locals) :
    CallB R s args own index y bytes maxL ret (Cond.code y bytes maxL ret :: lw_good) rm mc ms n ∧ (Cond.static y).before args s = true := by
  obtain ⟨o1, o2, o3, o4, o5⟩ := ok
  refine ⟨callB_of n ht (xgood ?_) rfl hrc hrs (ht _ (o4.symm ▸ o2)) (ht _ m1) o5 hR, ht _ o1⟩
  intro w hw
  rcases List.mem_cons.mp hw with rfl | hw
  · exact o3
  · exact hw
theorem xcwN {host : String} (ht : ∀ w ∈ lw_good, w.before args s = true) (hl : va_Nw (.methodLinkNest own index y host) s) (ok : okS y C bytes maxL ret n) (hrc : rm.cells = mc) (hrs : rm.slots = ms) (hR : rm.frames + 1 ≤ R.frames ∧ 8 + (maxL + 11) + rm.locals ≤ R.locals) :
    va_CN R s args own index y host bytes maxL ret (Cond.code y bytes maxL ret :: lw_good) rm mc ms n ∧ (Cond.static y).before args s = true ∧ True := by
  obtain ⟨o1, o2, o3, o4, o5⟩ := ok
  refine ⟨va_cnB n ht (xgood ?_) rfl hrc hrs hl (ht _ (o4.symm ▸ o2)) o5 hR, ht _ o1, trivial⟩
  intro w hw
  rcases List.mem_cons.mp hw with rfl | hw
  · exact o3
  · exact hw
theorem xcwI (ht : ∀ w ∈ lw_good, w.before args s = true) (m1 : Cond.methodLink own index y ∈ lw_good) (ok : okI y C bytes maxL n) (hrc : rm.cells = mc) (hrs : rm.slots = ms) (hR : rm.frames + 1 ≤ R.frames ∧ 8 + (maxL + 11) + rm.locals ≤ R.locals) :
    CallB R s args own index y bytes maxL none (Cond.code y bytes maxL none :: lw_good) rm mc ms n ∧ y.name = "<init>" ∧ (Cond.instanceMethod y).before args s = true := by
  obtain ⟨o1, o2, o3, o4, o5, o6⟩ := ok
  refine ⟨callB_of n ht (xgood ?_) rfl hrc hrs (ht _ (o5.symm ▸ o2)) (ht _ m1) o6 hR, o4, ht _ o1⟩
  intro w hw
  rcases List.mem_cons.mp hw with rfl | hw
  · exact o3
  · exact hw
theorem xcwIN {host : String} (ht : ∀ w ∈ lw_good, w.before args s = true) (hl : va_Nw (.methodLinkNest own index y host) s) (ok : okI y C bytes maxL n) (hrc : rm.cells = mc) (hrs : rm.slots = ms) (hR : rm.frames + 1 ≤ R.frames ∧ 8 + (maxL + 11) + rm.locals ≤ R.locals) :
    va_CN R s args own index y host bytes maxL none (Cond.code y bytes maxL none :: lw_good) rm mc ms n ∧ y.name = "<init>" ∧ (Cond.instanceMethod y).before args s = true := by
  obtain ⟨o1, o2, o3, o4, o5, o6⟩ := ok
  refine ⟨va_cnB n ht (xgood ?_) rfl hrc hrs hl (ht _ (o5.symm ▸ o2)) o6 hR, o4, ht _ o1⟩
  intro w hw
  rcases List.mem_cons.mp hw with rfl | hw
  · exact o3
  · exact hw
variable {D : va_G} {tys : List (ClassId × FieldType)} {As : List Value} {w W₀ : va_W} {as : List Nat} {Qc : Array Value → State → Outcome → State → Prop} {free : Addr → Prop} {b : Nat}
theorem xpre {av : List Value} (hI : xI D tys s) (hP : va_P D vwCl W₀ H) (hd : dj as) (e1 : W₀.map Prod.fst = as) (is : List Nat) (hn : va_nd is = true) (hs : is.map (fun i => W₀[i]?) = w.map some) : ∀ U : State, U.heap = H → s.WarmedH U.vm → xPc D tys av w av.toArray U := by
  intro U hU hW
  have hD : va_D (fun _ => True) w := (hd.D e1).sub is hn hs
  refine ⟨rfl, hI.warm hW, ?_, dj.of hD⟩
  rw [hU]
  intro k q hk
  have h1 : (is.map (fun i => W₀[i]?))[k]? = some (some q) := by rw [hs, List.getElem?_map, hk]; rfl
  rw [List.getElem?_map] at h1
  cases hi : is[k]? with
  | none => rw [hi] at h1; cases h1
  | some i => rw [hi] at h1; exact hP i q (Option.some.inj h1)
theorem xV {T : u_T} {N ci : Nat} {fs : List Value} (hx : p.tables.exec = Jvm.exec) (hb : c.code = cc) (hml : c.maxLocals = nL) (hown : s.vm.findClass own = some m.cls) (ht : ∀ w ∈ lw_good, w.before args s = true)
    (hM : Met l y (Cond.code y bytes maxL ret :: lw_good) rm (xPc D tys (.ref b :: As) w) Qc mc ms free) (m1 : Cond.methodLink own index y ∈ lw_good) (ok : okV y C bytes maxL ret n) (hrc : rm.cells = mc) (hrs : rm.slots = ms) (hR : rm.frames + 1 ≤ R.frames ∧ 8 + (maxL + 11) + rm.locals ≤ R.locals)
    (hI : xI D tys s) (hP : va_P D vwCl W₀ H) (hd : dj as) (e1 : W₀.map Prod.fst = as) (is : List Nat) (hn : va_nd is = true) (hs : is.map (fun i => W₀[i]?) = w.map some) (hw0 : w[0]? = some (b, .inr (ci, fs))) (hc : vwCl[ci]? = some (C, T, N))
    (hln : As.length = n) (hsize : ls.size = nL) (hst : st0 = As.reverse ++ .ref b :: rest) (hroom : (rest.map fun v => v.category).sum ≤ 8) (hdg : decode cc pc = .ok (.invokevirtual index, 3)) (hf : cells + mc ≤ R.cells ∧ slots + ms ≤ R.slots) :
    va_Run p l e R s m args below meth c H locs cells slots mc ms (F0 m pc ls st0) rest (Qc (Value.ref b :: As).toArray) free := by
  have hpre := xpre (av := Value.ref b :: As) hI hP hd e1 is hn hs
  refine va_runV (C := C) (b := b) (As := As) ⟨hx, hb, hml, hown, ht⟩ hM (xcwV ht m1 ok hrc hrs hR) ⟨xblind, ?_, hpre⟩ rfl hln hsize hst (lv_room hroom) hdg hf
  have hPw : va_P D vwCl w H := by
    intro k q hk
    have h1 : (is.map (fun i => W₀[i]?))[k]? = some (some q) := by rw [hs, List.getElem?_map, hk]; rfl
    rw [List.getElem?_map] at h1
    cases hi : is[k]? with
    | none => rw [hi] at h1; cases h1
    | some i => rw [hi] at h1; exact hP i q (Option.some.inj h1)
  exact va_recv hI.1 hPw (q := (C, T, N)) hc hw0
theorem xS (hx : p.tables.exec = Jvm.exec) (hb : c.code = cc) (hml : c.maxLocals = nL) (hown : s.vm.findClass own = some m.cls) (ht : ∀ w ∈ lw_good, w.before args s = true)
    (hM : Met l y (Cond.code y bytes maxL ret :: lw_good) rm (xPc D tys As w) Qc mc ms free) (m1 : Cond.methodLink own index y ∈ lw_good) (ok : okS y C bytes maxL ret n) (hrc : rm.cells = mc) (hrs : rm.slots = ms) (hR : rm.frames + 1 ≤ R.frames ∧ 8 + (maxL + 11) + rm.locals ≤ R.locals)
    (hI : xI D tys s) (hP : va_P D vwCl W₀ H) (hd : dj as) (e1 : W₀.map Prod.fst = as) (is : List Nat) (hn : va_nd is = true) (hs : is.map (fun i => W₀[i]?) = w.map some)
    (hln : As.length = n) (hsize : ls.size = nL) (hst : st0 = As.reverse ++ rest) (hroom : (rest.map fun v => v.category).sum ≤ 8) (hdg : decode cc pc = .ok (.invokestatic index, 3)) (hf : cells + mc ≤ R.cells ∧ slots + ms ≤ R.slots) :
    va_Run p l e R s m args below meth c H locs cells slots mc ms (F0 m pc ls st0) rest (Qc As.toArray) free :=
  va_runS (As := As) ⟨hx, hb, hml, hown, ht⟩ hM (xcwS ht m1 ok hrc hrs hR) ⟨xblind, xpre hI hP hd e1 is hn hs⟩ rfl hln hsize hst (lv_room hroom) hdg hf
theorem xN {host : String} (hx : p.tables.exec = Jvm.exec) (hb : c.code = cc) (hml : c.maxLocals = nL) (hown : s.vm.findClass own = some m.cls) (ht : ∀ w ∈ lw_good, w.before args s = true)
    (hM : Met l y (Cond.code y bytes maxL ret :: lw_good) rm (xPc D tys As w) Qc mc ms free) (m1 : va_Nw (.methodLinkNest own index y host) s) (ok : okS y C bytes maxL ret n) (hrc : rm.cells = mc) (hrs : rm.slots = ms) (hR : rm.frames + 1 ≤ R.frames ∧ 8 + (maxL + 11) + rm.locals ≤ R.locals)
    (hI : xI D tys s) (hP : va_P D vwCl W₀ H) (hd : dj as) (e1 : W₀.map Prod.fst = as) (is : List Nat) (hn : va_nd is = true) (hs : is.map (fun i => W₀[i]?) = w.map some)
    (hln : As.length = n) (hsize : ls.size = nL) (hst : st0 = As.reverse ++ rest) (hroom : (rest.map fun v => v.category).sum ≤ 8) (hdg : decode cc pc = .ok (.invokestatic index, 3)) (hf : cells + mc ≤ R.cells ∧ slots + ms ≤ R.slots) :
    va_Run p l e R s m args below meth c H locs cells slots mc ms (F0 m pc ls st0) rest (Qc As.toArray) free :=
  va_runSN (As := As) ⟨hx, hb, hml, hown, ht⟩ hM (xcwN ht m1 ok hrc hrs hR) ⟨xblind, xpre hI hP hd e1 is hn hs⟩ rfl hln hsize hst (lv_room hroom) hdg hf
variable {S : Type} {post : S → Prop} {w' : S → va_W} {ad : List Nat} {a : Array Value} {A : Nat → Prop} {H0 : Heap}
theorem xback {rv : S → Option Value} {g : JFrame} (hr : va_Run p l e R s m args below meth c H locs cells slots 0 0 g rest (xQ D ad rv post w' a) (fun q => q ∈ ad)) (hP : va_P D vwCl W₀ H) (hd : dj as) (hS : va_S A H0 H locs) (hA : ∀ q ∈ ad, A q) (is : List Nat) (e1 : W₀.map Prod.fst = as) (e2 : is.map (fun i => as[i]?) = ad.map some) (e3 : ∀ u, (w' u).map Prod.fst = ad)
    (kk : ∀ (u : S) (H1 : Heap) (locs1 : List Loc), post u → va_P D vwCl (xset W₀ is (w' u)) H1 → va_S A H0 H1 locs1 → W p l e R s m args below meth c H1 locs1 cells slots Q { g with pc := g.pc + 3, stack := (rv u).toList ++ rest }) : W p l e R s m args below meth c H locs cells slots Q g := by
  intro T hT X
  obtain ⟨v, st₀, t, T', L, h0, X', hL, e4, e5, ⟨u, hv, hp, hPu, hF⟩, st⟩ := hr T hT X
  cases hv
  obtain ⟨hz, hk⟩ := hF
  rw [h0] at hz hk
  have hj : va_P D vwCl (xset W₀ is (w' u)) T'.heap := by
    rw [e4]
    exact xjoin hP hd e1 e2 (e3 u) hk hPu
  obtain ⟨t2, a1, b1⟩ := kk u T'.heap (locs ++ L) hp hj ⟨Nat.le_trans hS.1 (by rw [e4]; exact hz), fun q h1 h2 => by rw [e4, hk q (Nat.lt_of_lt_of_le h1 hS.1) (fun z => h2 (hA q z))]; exact hS.2.1 q h1 h2, fun q hq => by
      rcases List.mem_append.mp hq with h | h
      · exact hS.2.2 q h
      · exact hA _ (hL q h)⟩ T' rfl X'
  exact ⟨t2, st t2 a1, b1⟩
theorem xcv (hr : va_Run p l e R s m args below meth c H locs cells slots 0 0 (F0 m pc ls st0) rest (xQ D ad (fun _ => none) post w' a) (fun q => q ∈ ad)) (hP : va_P D vwCl W₀ H) (hd : dj as) (hS : va_S A H0 H locs) (hA : ∀ q ∈ ad, A q) (is : List Nat) (e1 : W₀.map Prod.fst = as) (e2 : is.map (fun i => as[i]?) = ad.map some) (e3 : ∀ u, (w' u).map Prod.fst = ad)
    (kk : ∀ (u : S) (H1 : Heap) (locs1 : List Loc), post u → va_P D vwCl (xset W₀ is (w' u)) H1 → va_S A H0 H1 locs1 → W p l e R s m args below meth c H1 locs1 cells slots Q (F0 m (pc + 3) ls rest)) : W p l e R s m args below meth c H locs cells slots Q (F0 m pc ls st0) := xback hr hP hd hS hA is e1 e2 e3 kk
theorem xcd {r : S → UInt64} (hr : va_Run p l e R s m args below meth c H locs cells slots 0 0 (F0 m pc ls st0) rest (xQ D ad (fun u => some (.double (r u))) post w' a) (fun q => q ∈ ad)) (hP : va_P D vwCl W₀ H) (hd : dj as) (hS : va_S A H0 H locs) (hA : ∀ q ∈ ad, A q) (is : List Nat) (e1 : W₀.map Prod.fst = as) (e2 : is.map (fun i => as[i]?) = ad.map some) (e3 : ∀ u, (w' u).map Prod.fst = ad)
    (kk : ∀ (u : S) (H1 : Heap) (locs1 : List Loc), post u → va_P D vwCl (xset W₀ is (w' u)) H1 → va_S A H0 H1 locs1 → W p l e R s m args below meth c H1 locs1 cells slots Q (F0 m (pc + 3) ls (.double (r u) :: rest))) : W p l e R s m args below meth c H locs cells slots Q (F0 m pc ls st0) := xback hr hP hd hS hA is e1 e2 e3 kk
theorem xci {r : S → Int32} (hr : va_Run p l e R s m args below meth c H locs cells slots 0 0 (F0 m pc ls st0) rest (xQ D ad (fun u => some (.int (r u))) post w' a) (fun q => q ∈ ad)) (hP : va_P D vwCl W₀ H) (hd : dj as) (hS : va_S A H0 H locs) (hA : ∀ q ∈ ad, A q) (is : List Nat) (e1 : W₀.map Prod.fst = as) (e2 : is.map (fun i => as[i]?) = ad.map some) (e3 : ∀ u, (w' u).map Prod.fst = ad)
    (kk : ∀ (u : S) (H1 : Heap) (locs1 : List Loc), post u → va_P D vwCl (xset W₀ is (w' u)) H1 → va_S A H0 H1 locs1 → W p l e R s m args below meth c H1 locs1 cells slots Q (F0 m (pc + 3) ls (.int (r u) :: rest))) : W p l e R s m args below meth c H locs cells slots Q (F0 m pc ls st0) := xback hr hP hd hS hA is e1 e2 e3 kk
/-- the start of a walk -/
theorem xofW {av : List Value} {adr : List Nat} (hy : plainName y.cls = true) (hlen : (lg_sl av).length ≤ maxL)
    (body : ∀ (p : Program) (e : Env) (s : State) (m : MethodId) (below : List Frame) (meth : Method) (c : Code) (ls : Array Slot), p.tables.exec = Jvm.exec → c.code = cc → meth.sig.returnType = ret → c.maxLocals = maxL → (∀ w ∈ lw_good, w.before av.toArray s = true) → s.vm.findClass y.cls = some m.cls → meth.locks = false → xI D tys s → va_P D vwCl w s.heap → dj (w.map Prod.fst) → va_S (fun q => q ∈ adr) s.heap s.heap [] → lv_has ls maxL (lv_args 0 av) →
      W p l e rm s m av.toArray below meth c s.heap [] 0 0 (MQ below Qc av.toArray s mc ms free) (F0 m 0 ls [])) : Met l y (Cond.code y cc maxL ret :: lw_good) rm (xPc D tys av w) Qc mc ms free := by
  refine Met.ofW (cc := cc) (maxL := maxL) (ret := ret) hy rfl ?_
  intro p e s m args below meth c s₁ B hml hv
  obtain ⟨rfl, hI, hP, hd⟩ := hv
  rw [lg_entry_eq]
  exact body p e s m below meth c _ B.exec B.bytes B.returns hml (fun w h => atoms_spec (ws := Cond.code y cc maxL ret :: lw_good) B.pre w (List.mem_cons_of_mem _ h)) (findClass_of_methodNamed B.named) B.notSynchronized hI hP hd va_S.rf (lv_entry av hlen)
end XC
section XM
variable {p : Program} {l : Launch} {e : Env} {R : Room} {s : State} {m : MethodId} {args : Array Value} {below : List Frame} {meth : Method} {c : Code} {H : Heap} {locs : List Loc} {cells slots : Nat} {Q : State → Prop}
variable {cc : ByteArray} {pc : Nat} {ls : Array Slot} {rest : List Value} {D : va_G} {A : Nat → Prop} {a : Nat} {tys : List (ClassId × FieldType)} {ws : va_W} {H0 : Heap} {as : List Nat}
theorem xdald (hx : p.tables.exec = Jvm.exec) (hb : c.code = cc) (hI : xI D tys s) (hP : va_P D vwCl ws H) (q0 t0 : Nat) {cA : ClassId} {n : Nat} {f : Nat → UInt64} (ha : ws[q0]? = some (a, dA cA n f)) (ht : tys[t0]? = some (cA, .double)) {j : Nat} (hj : j < n) (hn : n < 2 ^ 31) (hdg : decode cc pc = .ok (.daload, 1))
    (kk : W p l e R s m args below meth c H locs cells slots Q (F0 m (pc + 1) ls (.double (f j) :: rest))) : W p l e R s m args below meth c H locs cells slots Q (F0 m pc ls (.int (nI j) :: .ref a :: rest)) :=
  va_dald hx hb hI.1 hP q0 t0 ha ht (vp_in_nI hj hn) hdg (by rw [nI_clamp (Nat.lt_trans hj hn)]; exact kk)
theorem xiald (hx : p.tables.exec = Jvm.exec) (hb : c.code = cc) (hI : xI D tys s) (hP : va_P D vwCl ws H) (q0 t0 : Nat) {cA : ClassId} {n : Nat} {f : Nat → Int32} (ha : ws[q0]? = some (a, iA cA n f)) (ht : tys[t0]? = some (cA, .int)) {j : Nat} (hj : j < n) (hn : n < 2 ^ 31) (hdg : decode cc pc = .ok (.iaload, 1))
    (kk : W p l e R s m args below meth c H locs cells slots Q (F0 m (pc + 1) ls (.int (f j) :: rest))) : W p l e R s m args below meth c H locs cells slots Q (F0 m pc ls (.int (nI j) :: .ref a :: rest)) :=
  va_iald hx hb hI.1 hP q0 t0 ha ht (vp_in_nI hj hn) hdg (by rw [nI_clamp (Nat.lt_trans hj hn)]; exact kk)
theorem xdast (hx : p.tables.exec = Jvm.exec) (hb : c.code = cc) (hI : xI D tys s) (hP : va_P D vwCl ws H) (hd : dj as) (e1 : ws.map Prod.fst = as) (hS : va_S A H0 H locs) (q0 t0 : Nat) {cA : ClassId} {n : Nat} {f : Nat → UInt64} (ha : ws[q0]? = some (a, dA cA n f)) (ht : tys[t0]? = some (cA, .double)) {j : Nat} {x : UInt64} (hj : j < n) (hn : n < 2 ^ 31) (hA : A a) (hdg : decode cc pc = .ok (.dastore, 1))
    (kk : ∀ (H1 : Heap) (locs1 : List Loc), va_P D vwCl (ws.set q0 (a, dA cA n (vf_upd f j x))) H1 → va_S A H0 H1 locs1 → W p l e R s m args below meth c H1 locs1 cells slots Q (F0 m (pc + 1) ls rest)) : W p l e R s m args below meth c H locs cells slots Q (F0 m pc ls (.double x :: .int (nI j) :: .ref a :: rest)) := by
  have hcl : (nI j).toNatClampNeg = j := nI_clamp (Nat.lt_trans hj hn)
  have hin : vp_in (nI j) n := vp_in_nI hj hn
  refine W.dast hx hb (hP q0 _ ha) ((hI.1.2 t0 _ ht).1 n (fun j => .double (f j))) (fun q => by cases q) (by show ¬ (nI j < 0 ∨ (arrV _ _ _).slots.size ≤ _); rw [arrV_size]; exact hin) rfl rfl hdg fun H1 e2 z oq => ?_
  rw [hcl] at e2
  refine kk H1 _ (hP.set (hd.D e1) ha ?_ oq) (hS.put z oq hA)
  show H1[a]? = some (vp_cell _ _)
  rw [e2]
  rw [vp_cell_d, vp_cell_d, arrV_store]
  congr 2
  funext q
  by_cases hq : q = j
  · subst hq
    simp [updV, vf_upd]
  · simp [updV, vf_upd, hq]
theorem xiast (hx : p.tables.exec = Jvm.exec) (hb : c.code = cc) (hI : xI D tys s) (hP : va_P D vwCl ws H) (hd : dj as) (e1 : ws.map Prod.fst = as) (hS : va_S A H0 H locs) (q0 t0 : Nat) {cA : ClassId} {n : Nat} {f : Nat → Int32} (ha : ws[q0]? = some (a, iA cA n f)) (ht : tys[t0]? = some (cA, .int)) {j : Nat} {x : Int32} (hj : j < n) (hn : n < 2 ^ 31) (hA : A a) (hdg : decode cc pc = .ok (.iastore, 1))
    (kk : ∀ (H1 : Heap) (locs1 : List Loc), va_P D vwCl (ws.set q0 (a, iA cA n (upd f j x))) H1 → va_S A H0 H1 locs1 → W p l e R s m args below meth c H1 locs1 cells slots Q (F0 m (pc + 1) ls rest)) : W p l e R s m args below meth c H locs cells slots Q (F0 m pc ls (.int x :: .int (nI j) :: .ref a :: rest)) := by
  have hcl : (nI j).toNatClampNeg = j := nI_clamp (Nat.lt_trans hj hn)
  have hin : vp_in (nI j) n := vp_in_nI hj hn
  refine W.iast hx hb (hP q0 _ ha) ((hI.1.2 t0 _ ht).1 n (fun j => .int (f j))) (fun q => by cases q) (by show ¬ (nI j < 0 ∨ (arrV _ _ _).slots.size ≤ _); rw [arrV_size]; exact hin) rfl rfl hdg fun H1 e2 z oq => ?_
  rw [hcl] at e2
  refine kk H1 _ (hP.set (hd.D e1) ha ?_ oq) (hS.put z oq hA)
  show H1[a]? = some (vp_cell _ _)
  rw [e2]
  rw [vp_cell_i, vp_cell_i, arrV_store]
  congr 2
  funext q
  by_cases hq : q = j
  · subst hq
    simp [updV, upd]
  · simp [updV, upd, hq]
/-- a row of an array of arrays -/
theorem xaald (hx : p.tables.exec = Jvm.exec) (hb : c.code = cc) (hI : xI D tys s) (hP : va_P D vwCl ws H) (q0 t0 : Nat) {cA : ClassId} {n : Nat} {f : Nat → Option Nat} (ha : ws[q0]? = some (a, rA cA n f)) (ht : tys[t0]? = some (cA, .array .double)) {j r : Nat} (hj : j < n) (hn : n < 2 ^ 31) (hr : f j = some r) (hdg : decode cc pc = .ok (.aaload, 1))
    (kk : W p l e R s m args below meth c H locs cells slots Q (F0 m (pc + 1) ls (.ref r :: rest))) : W p l e R s m args below meth c H locs cells slots Q (F0 m pc ls (.int (nI j) :: .ref a :: rest)) := by
  have hcl : (nI j).toNatClampNeg = j := nI_clamp (Nat.lt_trans hj hn)
  have hin : vp_in (nI j) n := vp_in_nI hj hn
  refine W.aald (v := .ref r) (ty := .array .double) hx hb (hP q0 _ ha) ((hI.1.2 t0 _ ht).1 n (fun j => va_rf (f j))) rfl (fun q => by cases q) (by show ¬ (nI j < 0 ∨ (arrV _ _ _).slots.size ≤ _); rw [arrV_size]; exact hin) ?_ rfl rfl hdg kk
  show (arrV _ _ _).slots[_]? = _
  rw [hcl, arrV_read _ _ hj, hr]
  rfl
theorem xput (hx : p.tables.exec = Jvm.exec) (hb : c.code = cc) {own ref C : String} {T : u_T} {N ci index : Nat} (hts : ∀ w ∈ lw_good, w.before args s = true) (hin : ∀ w ∈ u_ws C T N, w ∈ lw_good) (ty0 : Nat → FieldType) (hty : ∀ k, k < N → parseFieldDescriptor (T k).2.2.1 = some (ty0 k)) (hnm : ∀ a, a < N → ∀ b, b < N → a ≠ b → (T a).2.1 ≠ (T b).2.1) (hown : s.vm.findClass own = some m.cls) (hI : xI D tys s) (hP : va_P D vwCl ws H) (hd : dj as) (e1 : ws.map Prod.fst = as) (hS0 : va_S A H0 H locs) (q0 : Nat) {fs : List Value} (he : ws[q0]? = some (a, .inr (ci, fs))) (hc : vwCl[ci]? = some (C, T, N)) (k : Nat) (hk : k < N) (hlink : Cond.fieldLink own index ref (T k).2.1 (T k).2.2.1 ∈ lw_good) (hsame : ∀ x, s.fieldFound? (T k).1 (T k).2.1 (T k).2.2.1 = some x → s.fieldFound? ref (T k).2.1 (T k).2.2.1 = some x) (hfin : (T k).2.2.2 = false) {v : Value} (hn : narrow (ty0 k) v = v) (hfit : fits (ty0 k) v = true) (hl : k < fs.length) (hA : A a)
    (hdg : decode cc pc = .ok (.putfield index, 3)) (kk : ∀ (H1 : Heap) (locs1 : List Loc), va_P D vwCl (ws.set q0 (a, .inr (ci, fs.set k v))) H1 → va_S A H0 H1 locs1 → W p l e R s m args below meth c H1 locs1 cells slots Q (F0 m (pc + 3) ls rest)) : W p l e R s m args below meth c H locs cells slots Q (F0 m pc ls (v :: .ref a :: rest)) := by
  have hK := hI.1
  have hap := va_apart (own := own) hts hin ty0 hty hnm hK hc
  obtain ⟨r, h1, cell, q1, q2, q3, q4⟩ := hP q0 _ he
  have hr : r = (C, T, N) := Option.some.inj (h1.symm.trans hc)
  subst hr
  obtain ⟨hS, hfc, kC, hkC, hkind⟩ := hK.1 ci _ hc
  obtain ⟨cf, kf, fi, f, hi, hsl⟩ := hS k hk
  have hlay := hts _ (hin _ (u_in_lay hk))
  unfold u_lay at hlay
  rw [if_neg (by rw [hfin]; decide)] at hlay
  have hst := (u_facts hfc hkC (u_lays hts hin hk) hi).1
  have h6 := u_store hfc hkC hkind hlay hi (hty k hk) hn hfit
  refine W.putK hx hb (f := f) ⟨hown, hts _ hlink, ⟨_, _, _, hsame _ hi⟩, hst⟩ (by rw [q2]; exact h6) q1 q3 (by rw [hsl]; exact k2_hasslot (q4 k hk)) rfl rfl hdg fun H' e3 e4 e5 => ?_
  rw [hsl] at e3 ⊢
  exact kk H' _ (hP.set (hd.D e1) he ⟨_, hc, t_OB.to (V := updV (vp_V fs) k v) ⟨_, e3, q2, q3, t_set q4 hap hk v⟩ (fun j _ => vp_updV_set hl v j)⟩ e5) (hS0.put e4 e5 hA)
theorem xget (hx : p.tables.exec = Jvm.exec) (hb : c.code = cc) {own ref C : String} {T : u_T} {N ci index : Nat} (hts : ∀ w ∈ lw_good, w.before args s = true) (hin : ∀ w ∈ u_ws C T N, w ∈ lw_good) (hown : s.vm.findClass own = some m.cls) (hI : xI D tys s) (hP : va_P D vwCl ws H) (q0 : Nat) {fs : List Value} (he : ws[q0]? = some (a, .inr (ci, fs))) (hc : vwCl[ci]? = some (C, T, N)) (k : Nat) (hk : k < N) (hlink : Cond.fieldLink own index ref (T k).2.1 (T k).2.2.1 ∈ lw_good) (hsame : ∀ x, s.fieldFound? (T k).1 (T k).2.1 (T k).2.2.1 = some x → s.fieldFound? ref (T k).2.1 (T k).2.2.1 = some x) {v : Value} (hv : fs[k]? = some v) (hdg : decode cc pc = .ok (.getfield index, 3))
    (kk : W p l e R s m args below meth c H locs cells slots Q (F0 m (pc + 3) ls (v :: rest))) : W p l e R s m args below meth c H locs cells slots Q (F0 m pc ls (.ref a :: rest)) :=
  va_get hx hb hts hin hown hI.1 hP q0 he hc k hk (hts _ hlink) hsame hv hdg kk
end XM
section XF
variable {p : Program} {l : Launch} {e : Env} {R : Room} {s : State} {m : MethodId} {args : Array Value} {below : List Frame} {meth : Method} {c : Code} {H : Heap} {locs : List Loc} {cells slots : Nat} {Q : State → Prop}
variable {cc : ByteArray} {pc : Nat} {ls : Array Slot} {rest : List Value} {D : va_G} {A : Nat → Prop} {a : Nat} {tys : List (ClassId × FieldType)} {ws : va_W} {H0 : Heap} {as : List Nat}
theorem gX0 (hx : p.tables.exec = Jvm.exec) (hb : c.code = cc) {own : String} {index : Nat} (hts : ∀ w ∈ lw_good, w.before args s = true) (hown : s.vm.findClass own = some m.cls) (hI : xI D tys s) (hP : va_P D vwCl ws H) (q0 : Nat) {fs : List Value} (he : ws[q0]? = some (a, .inr (0, fs))) (k : Nat) (hk : Nat.blt k 6 = true) (hlink : Cond.fieldLink own index (TX0 k).1 (TX0 k).2.1 (TX0 k).2.2.1 ∈ lw_good) {v : Value} (hv : fs[k]? = some v) (hdg : decode cc pc = .ok (.getfield index, 3))
    (kk : W p l e R s m args below meth c H locs cells slots Q (F0 m (pc + 3) ls (v :: rest))) : W p l e R s m args below meth c H locs cells slots Q (F0 m pc ls (.ref a :: rest)) :=
  xget hx hb hts iX0 hown hI hP q0 he rfl k (Nat.le_of_ble_eq_true hk) hlink (fun _ h => h) hv hdg kk
theorem pX0 (hx : p.tables.exec = Jvm.exec) (hb : c.code = cc) {own : String} {index : Nat} (hts : ∀ w ∈ lw_good, w.before args s = true) (hown : s.vm.findClass own = some m.cls) (hI : xI D tys s) (hP : va_P D vwCl ws H) (hd : dj as) (e1 : ws.map Prod.fst = as) (hS0 : va_S A H0 H locs) (q0 : Nat) {fs : List Value} (he : ws[q0]? = some (a, .inr (0, fs))) (k : Nat) (hk : Nat.blt k 6 = true) (hlink : Cond.fieldLink own index (TX0 k).1 (TX0 k).2.1 (TX0 k).2.2.1 ∈ lw_good) (hfin : (TX0 k).2.2.2 = false) {v : Value} (hn : narrow (tyX0 k) v = v) (hfit : fits (tyX0 k) v = true) (hl : k < fs.length) (hA : A a)
    (hdg : decode cc pc = .ok (.putfield index, 3)) (kk : ∀ (H1 : Heap) (locs1 : List Loc), va_P D vwCl (ws.set q0 (a, .inr (0, fs.set k v))) H1 → va_S A H0 H1 locs1 → W p l e R s m args below meth c H1 locs1 cells slots Q (F0 m (pc + 3) ls rest)) : W p l e R s m args below meth c H locs cells slots Q (F0 m pc ls (v :: .ref a :: rest)) :=
  xput hx hb hts iX0 tyX0 tyX0_ok nmX0 hown hI hP hd e1 hS0 q0 he rfl k (Nat.le_of_ble_eq_true hk) hlink (fun _ h => h) hfin hn hfit hl hA hdg kk
theorem gX1 (hx : p.tables.exec = Jvm.exec) (hb : c.code = cc) {own : String} {index : Nat} (hts : ∀ w ∈ lw_good, w.before args s = true) (hown : s.vm.findClass own = some m.cls) (hI : xI D tys s) (hP : va_P D vwCl ws H) (q0 : Nat) {fs : List Value} (he : ws[q0]? = some (a, .inr (1, fs))) (k : Nat) (hk : Nat.blt k 4 = true) (hlink : Cond.fieldLink own index (TX1 k).1 (TX1 k).2.1 (TX1 k).2.2.1 ∈ lw_good) {v : Value} (hv : fs[k]? = some v) (hdg : decode cc pc = .ok (.getfield index, 3))
    (kk : W p l e R s m args below meth c H locs cells slots Q (F0 m (pc + 3) ls (v :: rest))) : W p l e R s m args below meth c H locs cells slots Q (F0 m pc ls (.ref a :: rest)) :=
  xget hx hb hts iX1 hown hI hP q0 he rfl k (Nat.le_of_ble_eq_true hk) hlink (fun _ h => h) hv hdg kk
theorem pX1 (hx : p.tables.exec = Jvm.exec) (hb : c.code = cc) {own : String} {index : Nat} (hts : ∀ w ∈ lw_good, w.before args s = true) (hown : s.vm.findClass own = some m.cls) (hI : xI D tys s) (hP : va_P D vwCl ws H) (hd : dj as) (e1 : ws.map Prod.fst = as) (hS0 : va_S A H0 H locs) (q0 : Nat) {fs : List Value} (he : ws[q0]? = some (a, .inr (1, fs))) (k : Nat) (hk : Nat.blt k 4 = true) (hlink : Cond.fieldLink own index (TX1 k).1 (TX1 k).2.1 (TX1 k).2.2.1 ∈ lw_good) (hfin : (TX1 k).2.2.2 = false) {v : Value} (hn : narrow (tyX1 k) v = v) (hfit : fits (tyX1 k) v = true) (hl : k < fs.length) (hA : A a)
    (hdg : decode cc pc = .ok (.putfield index, 3)) (kk : ∀ (H1 : Heap) (locs1 : List Loc), va_P D vwCl (ws.set q0 (a, .inr (1, fs.set k v))) H1 → va_S A H0 H1 locs1 → W p l e R s m args below meth c H1 locs1 cells slots Q (F0 m (pc + 3) ls rest)) : W p l e R s m args below meth c H locs cells slots Q (F0 m pc ls (v :: .ref a :: rest)) :=
  xput hx hb hts iX1 tyX1 tyX1_ok nmX1 hown hI hP hd e1 hS0 q0 he rfl k (Nat.le_of_ble_eq_true hk) hlink (fun _ h => h) hfin hn hfit hl hA hdg kk
theorem gX2 (hx : p.tables.exec = Jvm.exec) (hb : c.code = cc) {own : String} {index : Nat} (hts : ∀ w ∈ lw_good, w.before args s = true) (hown : s.vm.findClass own = some m.cls) (hI : xI D tys s) (hP : va_P D vwCl ws H) (q0 : Nat) {fs : List Value} (he : ws[q0]? = some (a, .inr (2, fs))) (k : Nat) (hk : Nat.blt k 8 = true) (hlink : Cond.fieldLink own index (TX2 k).1 (TX2 k).2.1 (TX2 k).2.2.1 ∈ lw_good) {v : Value} (hv : fs[k]? = some v) (hdg : decode cc pc = .ok (.getfield index, 3))
    (kk : W p l e R s m args below meth c H locs cells slots Q (F0 m (pc + 3) ls (v :: rest))) : W p l e R s m args below meth c H locs cells slots Q (F0 m pc ls (.ref a :: rest)) :=
  xget hx hb hts iX2 hown hI hP q0 he rfl k (Nat.le_of_ble_eq_true hk) hlink (fun _ h => h) hv hdg kk
theorem pX2 (hx : p.tables.exec = Jvm.exec) (hb : c.code = cc) {own : String} {index : Nat} (hts : ∀ w ∈ lw_good, w.before args s = true) (hown : s.vm.findClass own = some m.cls) (hI : xI D tys s) (hP : va_P D vwCl ws H) (hd : dj as) (e1 : ws.map Prod.fst = as) (hS0 : va_S A H0 H locs) (q0 : Nat) {fs : List Value} (he : ws[q0]? = some (a, .inr (2, fs))) (k : Nat) (hk : Nat.blt k 8 = true) (hlink : Cond.fieldLink own index (TX2 k).1 (TX2 k).2.1 (TX2 k).2.2.1 ∈ lw_good) (hfin : (TX2 k).2.2.2 = false) {v : Value} (hn : narrow (tyX2 k) v = v) (hfit : fits (tyX2 k) v = true) (hl : k < fs.length) (hA : A a)
    (hdg : decode cc pc = .ok (.putfield index, 3)) (kk : ∀ (H1 : Heap) (locs1 : List Loc), va_P D vwCl (ws.set q0 (a, .inr (2, fs.set k v))) H1 → va_S A H0 H1 locs1 → W p l e R s m args below meth c H1 locs1 cells slots Q (F0 m (pc + 3) ls rest)) : W p l e R s m args below meth c H locs cells slots Q (F0 m pc ls (v :: .ref a :: rest)) :=
  xput hx hb hts iX2 tyX2 tyX2_ok nmX2 hown hI hP hd e1 hS0 q0 he rfl k (Nat.le_of_ble_eq_true hk) hlink (fun _ h => h) hfin hn hfit hl hA hdg kk
theorem gX3 (hx : p.tables.exec = Jvm.exec) (hb : c.code = cc) {own : String} {index : Nat} (hts : ∀ w ∈ lw_good, w.before args s = true) (hown : s.vm.findClass own = some m.cls) (hI : xI D tys s) (hP : va_P D vwCl ws H) (q0 : Nat) {fs : List Value} (he : ws[q0]? = some (a, .inr (3, fs))) (k : Nat) (hk : Nat.blt k 6 = true) (hlink : Cond.fieldLink own index (TX3 k).1 (TX3 k).2.1 (TX3 k).2.2.1 ∈ lw_good) {v : Value} (hv : fs[k]? = some v) (hdg : decode cc pc = .ok (.getfield index, 3))
    (kk : W p l e R s m args below meth c H locs cells slots Q (F0 m (pc + 3) ls (v :: rest))) : W p l e R s m args below meth c H locs cells slots Q (F0 m pc ls (.ref a :: rest)) :=
  xget hx hb hts iX3 hown hI hP q0 he rfl k (Nat.le_of_ble_eq_true hk) hlink (fun _ h => h) hv hdg kk
theorem pX3 (hx : p.tables.exec = Jvm.exec) (hb : c.code = cc) {own : String} {index : Nat} (hts : ∀ w ∈ lw_good, w.before args s = true) (hown : s.vm.findClass own = some m.cls) (hI : xI D tys s) (hP : va_P D vwCl ws H) (hd : dj as) (e1 : ws.map Prod.fst = as) (hS0 : va_S A H0 H locs) (q0 : Nat) {fs : List Value} (he : ws[q0]? = some (a, .inr (3, fs))) (k : Nat) (hk : Nat.blt k 6 = true) (hlink : Cond.fieldLink own index (TX3 k).1 (TX3 k).2.1 (TX3 k).2.2.1 ∈ lw_good) (hfin : (TX3 k).2.2.2 = false) {v : Value} (hn : narrow (tyX3 k) v = v) (hfit : fits (tyX3 k) v = true) (hl : k < fs.length) (hA : A a)
    (hdg : decode cc pc = .ok (.putfield index, 3)) (kk : ∀ (H1 : Heap) (locs1 : List Loc), va_P D vwCl (ws.set q0 (a, .inr (3, fs.set k v))) H1 → va_S A H0 H1 locs1 → W p l e R s m args below meth c H1 locs1 cells slots Q (F0 m (pc + 3) ls rest)) : W p l e R s m args below meth c H locs cells slots Q (F0 m pc ls (v :: .ref a :: rest)) :=
  xput hx hb hts iX3 tyX3 tyX3_ok nmX3 hown hI hP hd e1 hS0 q0 he rfl k (Nat.le_of_ble_eq_true hk) hlink (fun _ h => h) hfin hn hfit hl hA hdg kk
theorem gX4 (hx : p.tables.exec = Jvm.exec) (hb : c.code = cc) {own : String} {index : Nat} (hts : ∀ w ∈ lw_good, w.before args s = true) (hown : s.vm.findClass own = some m.cls) (hI : xI D tys s) (hP : va_P D vwCl ws H) (q0 : Nat) {fs : List Value} (he : ws[q0]? = some (a, .inr (4, fs))) (k : Nat) (hk : Nat.blt k 13 = true) (hlink : Cond.fieldLink own index (TX4 k).1 (TX4 k).2.1 (TX4 k).2.2.1 ∈ lw_good) {v : Value} (hv : fs[k]? = some v) (hdg : decode cc pc = .ok (.getfield index, 3))
    (kk : W p l e R s m args below meth c H locs cells slots Q (F0 m (pc + 3) ls (v :: rest))) : W p l e R s m args below meth c H locs cells slots Q (F0 m pc ls (.ref a :: rest)) :=
  xget hx hb hts iX4 hown hI hP q0 he rfl k (Nat.le_of_ble_eq_true hk) hlink (fun _ h => h) hv hdg kk
theorem pX4 (hx : p.tables.exec = Jvm.exec) (hb : c.code = cc) {own : String} {index : Nat} (hts : ∀ w ∈ lw_good, w.before args s = true) (hown : s.vm.findClass own = some m.cls) (hI : xI D tys s) (hP : va_P D vwCl ws H) (hd : dj as) (e1 : ws.map Prod.fst = as) (hS0 : va_S A H0 H locs) (q0 : Nat) {fs : List Value} (he : ws[q0]? = some (a, .inr (4, fs))) (k : Nat) (hk : Nat.blt k 13 = true) (hlink : Cond.fieldLink own index (TX4 k).1 (TX4 k).2.1 (TX4 k).2.2.1 ∈ lw_good) (hfin : (TX4 k).2.2.2 = false) {v : Value} (hn : narrow (tyX4 k) v = v) (hfit : fits (tyX4 k) v = true) (hl : k < fs.length) (hA : A a)
    (hdg : decode cc pc = .ok (.putfield index, 3)) (kk : ∀ (H1 : Heap) (locs1 : List Loc), va_P D vwCl (ws.set q0 (a, .inr (4, fs.set k v))) H1 → va_S A H0 H1 locs1 → W p l e R s m args below meth c H1 locs1 cells slots Q (F0 m (pc + 3) ls rest)) : W p l e R s m args below meth c H locs cells slots Q (F0 m pc ls (v :: .ref a :: rest)) :=
  xput hx hb hts iX4 tyX4 tyX4_ok nmX4 hown hI hP hd e1 hS0 q0 he rfl k (Nat.le_of_ble_eq_true hk) hlink (fun _ h => h) hfin hn hfit hl hA hdg kk
theorem gX5 (hx : p.tables.exec = Jvm.exec) (hb : c.code = cc) {own : String} {index : Nat} (hts : ∀ w ∈ lw_good, w.before args s = true) (hown : s.vm.findClass own = some m.cls) (hI : xI D tys s) (hP : va_P D vwCl ws H) (q0 : Nat) {fs : List Value} (he : ws[q0]? = some (a, .inr (5, fs))) (k : Nat) (hk : Nat.blt k 5 = true) (hlink : Cond.fieldLink own index (TX5 k).1 (TX5 k).2.1 (TX5 k).2.2.1 ∈ lw_good) {v : Value} (hv : fs[k]? = some v) (hdg : decode cc pc = .ok (.getfield index, 3))
    (kk : W p l e R s m args below meth c H locs cells slots Q (F0 m (pc + 3) ls (v :: rest))) : W p l e R s m args below meth c H locs cells slots Q (F0 m pc ls (.ref a :: rest)) :=
  xget hx hb hts iX5 hown hI hP q0 he rfl k (Nat.le_of_ble_eq_true hk) hlink (fun _ h => h) hv hdg kk
theorem pX5 (hx : p.tables.exec = Jvm.exec) (hb : c.code = cc) {own : String} {index : Nat} (hts : ∀ w ∈ lw_good, w.before args s = true) (hown : s.vm.findClass own = some m.cls) (hI : xI D tys s) (hP : va_P D vwCl ws H) (hd : dj as) (e1 : ws.map Prod.fst = as) (hS0 : va_S A H0 H locs) (q0 : Nat) {fs : List Value} (he : ws[q0]? = some (a, .inr (5, fs))) (k : Nat) (hk : Nat.blt k 5 = true) (hlink : Cond.fieldLink own index (TX5 k).1 (TX5 k).2.1 (TX5 k).2.2.1 ∈ lw_good) (hfin : (TX5 k).2.2.2 = false) {v : Value} (hn : narrow (tyX5 k) v = v) (hfit : fits (tyX5 k) v = true) (hl : k < fs.length) (hA : A a)
    (hdg : decode cc pc = .ok (.putfield index, 3)) (kk : ∀ (H1 : Heap) (locs1 : List Loc), va_P D vwCl (ws.set q0 (a, .inr (5, fs.set k v))) H1 → va_S A H0 H1 locs1 → W p l e R s m args below meth c H1 locs1 cells slots Q (F0 m (pc + 3) ls rest)) : W p l e R s m args below meth c H locs cells slots Q (F0 m pc ls (v :: .ref a :: rest)) :=
  xput hx hb hts iX5 tyX5 tyX5_ok nmX5 hown hI hP hd e1 hS0 q0 he rfl k (Nat.le_of_ble_eq_true hk) hlink (fun _ h => h) hfin hn hfit hl hA hdg kk
theorem gX6 (hx : p.tables.exec = Jvm.exec) (hb : c.code = cc) {own : String} {index : Nat} (hts : ∀ w ∈ lw_good, w.before args s = true) (hown : s.vm.findClass own = some m.cls) (hI : xI D tys s) (hP : va_P D vwCl ws H) (q0 : Nat) {fs : List Value} (he : ws[q0]? = some (a, .inr (6, fs))) (k : Nat) (hk : Nat.blt k 12 = true) (hlink : Cond.fieldLink own index (TX6 k).1 (TX6 k).2.1 (TX6 k).2.2.1 ∈ lw_good) {v : Value} (hv : fs[k]? = some v) (hdg : decode cc pc = .ok (.getfield index, 3))
    (kk : W p l e R s m args below meth c H locs cells slots Q (F0 m (pc + 3) ls (v :: rest))) : W p l e R s m args below meth c H locs cells slots Q (F0 m pc ls (.ref a :: rest)) :=
  xget hx hb hts iX6 hown hI hP q0 he rfl k (Nat.le_of_ble_eq_true hk) hlink (fun _ h => h) hv hdg kk
theorem pX6 (hx : p.tables.exec = Jvm.exec) (hb : c.code = cc) {own : String} {index : Nat} (hts : ∀ w ∈ lw_good, w.before args s = true) (hown : s.vm.findClass own = some m.cls) (hI : xI D tys s) (hP : va_P D vwCl ws H) (hd : dj as) (e1 : ws.map Prod.fst = as) (hS0 : va_S A H0 H locs) (q0 : Nat) {fs : List Value} (he : ws[q0]? = some (a, .inr (6, fs))) (k : Nat) (hk : Nat.blt k 12 = true) (hlink : Cond.fieldLink own index (TX6 k).1 (TX6 k).2.1 (TX6 k).2.2.1 ∈ lw_good) (hfin : (TX6 k).2.2.2 = false) {v : Value} (hn : narrow (tyX6 k) v = v) (hfit : fits (tyX6 k) v = true) (hl : k < fs.length) (hA : A a)
    (hdg : decode cc pc = .ok (.putfield index, 3)) (kk : ∀ (H1 : Heap) (locs1 : List Loc), va_P D vwCl (ws.set q0 (a, .inr (6, fs.set k v))) H1 → va_S A H0 H1 locs1 → W p l e R s m args below meth c H1 locs1 cells slots Q (F0 m (pc + 3) ls rest)) : W p l e R s m args below meth c H locs cells slots Q (F0 m pc ls (v :: .ref a :: rest)) :=
  xput hx hb hts iX6 tyX6 tyX6_ok nmX6 hown hI hP hd e1 hS0 q0 he rfl k (Nat.le_of_ble_eq_true hk) hlink (fun _ h => h) hfin hn hfit hl hA hdg kk
theorem gX7 (hx : p.tables.exec = Jvm.exec) (hb : c.code = cc) {own : String} {index : Nat} (hts : ∀ w ∈ lw_good, w.before args s = true) (hown : s.vm.findClass own = some m.cls) (hI : xI D tys s) (hP : va_P D vwCl ws H) (q0 : Nat) {fs : List Value} (he : ws[q0]? = some (a, .inr (7, fs))) (k : Nat) (hk : Nat.blt k 37 = true) (hlink : Cond.fieldLink own index (TX7 k).1 (TX7 k).2.1 (TX7 k).2.2.1 ∈ lw_good) {v : Value} (hv : fs[k]? = some v) (hdg : decode cc pc = .ok (.getfield index, 3))
    (kk : W p l e R s m args below meth c H locs cells slots Q (F0 m (pc + 3) ls (v :: rest))) : W p l e R s m args below meth c H locs cells slots Q (F0 m pc ls (.ref a :: rest)) :=
  xget hx hb hts iX7 hown hI hP q0 he rfl k (Nat.le_of_ble_eq_true hk) hlink (fun _ h => h) hv hdg kk
theorem pX7 (hx : p.tables.exec = Jvm.exec) (hb : c.code = cc) {own : String} {index : Nat} (hts : ∀ w ∈ lw_good, w.before args s = true) (hown : s.vm.findClass own = some m.cls) (hI : xI D tys s) (hP : va_P D vwCl ws H) (hd : dj as) (e1 : ws.map Prod.fst = as) (hS0 : va_S A H0 H locs) (q0 : Nat) {fs : List Value} (he : ws[q0]? = some (a, .inr (7, fs))) (k : Nat) (hk : Nat.blt k 37 = true) (hlink : Cond.fieldLink own index (TX7 k).1 (TX7 k).2.1 (TX7 k).2.2.1 ∈ lw_good) (hfin : (TX7 k).2.2.2 = false) {v : Value} (hn : narrow (tyX7 k) v = v) (hfit : fits (tyX7 k) v = true) (hl : k < fs.length) (hA : A a)
    (hdg : decode cc pc = .ok (.putfield index, 3)) (kk : ∀ (H1 : Heap) (locs1 : List Loc), va_P D vwCl (ws.set q0 (a, .inr (7, fs.set k v))) H1 → va_S A H0 H1 locs1 → W p l e R s m args below meth c H1 locs1 cells slots Q (F0 m (pc + 3) ls rest)) : W p l e R s m args below meth c H locs cells slots Q (F0 m pc ls (v :: .ref a :: rest)) :=
  xput hx hb hts iX7 tyX7 tyX7_ok nmX7 hown hI hP hd e1 hS0 q0 he rfl k (Nat.le_of_ble_eq_true hk) hlink (fun _ h => h) hfin hn hfit hl hA hdg kk
end XF
