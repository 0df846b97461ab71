/-! the whole world of an OdeBench, of its reference -/
def cW (A : Nat → Nat) (rw : Nat → Option Nat) (cD cI cM : ClassId) (σ : Sys) (S : St) (v : Nat → Nat → UInt64) : va_W := [(A 0, .inr (6, [.ref (A 1), .ref (A 2), .ref (A 3), .ref (A 8), .ref (A 28), .ref (A 33), .double (gt S), .double (gh S), .double (gtol S), .int (gtk S), .int (grf S), .int (bI (ggo S))])), (A 1, dA cD 3 (gy S)), (A 2, dA cD 3 (v 16)), (A 3, .inr (0, [.ref (A 4), .ref (A 5), .ref (A 6), .ref (A 7), .int (nI (sn σ)), .int (nI (sc σ))])), (A 4, iA cI 10 (so σ)), (A 5, dA cD 10 (sk σ)), (A 6, iA cI 10 (sl σ)), (A 7, iA cI 10 (sr σ)), (A 8, .inr (4, [.ref (A 3), .ref (A 15), .ref (A 22), .ref (A 9), .ref (A 10), .ref (A 11), .ref (A 12), .ref (A 1), .ref (A 13), .ref (A 14), .double (v 18 0), .double (v 18 1), .double (v 18 2)])), (A 9, dA cD 3 (v 0)), (A 10, dA cD 3 (v 1)), (A 11, dA cD 3 (v 2)), (A 12, dA cD 3 (v 3)), (A 13, dA cD 3 (v 4)), (A 14, dA cD 3 (v 5)), (A 15, .inr (1, [.ref (A 3), .ref (A 16), .ref (A 20), .ref (A 21)])), (A 16, rA cM 3 rw), (A 17, dA cD 3 (v 6)), (A 18, dA cD 3 (v 7)), (A 19, dA cD 3 (v 8)), (A 20, dA cD 3 (v 9)), (A 21, dA cD 3 (v 10)), (A 22, .inr (3, [.ref (A 3), .ref (A 23), .ref (A 24), .ref (A 25), .ref (A 26), .ref (A 27)])), (A 23, dA cD 3 (v 11)), (A 24, dA cD 3 (v 12)), (A 25, dA cD 3 (v 13)), (A 26, dA cD 3 (v 14)), (A 27, dA cD 3 (v 15)), (A 28, .inr (2, [.ref (A 3), .ref (A 29), .ref (A 30), .ref (A 31), .ref (A 32), .int (bI (gkn S)), .double (gt0 S), .double (gsp S)])), (A 29, dA cD 3 (gq S)), (A 30, dA cD 3 (gy0 S)), (A 31, dA cD 3 (gg S)), (A 32, dA cD 3 (v 17)), (A 33, .inr (5, [.ref (A 34), .int (bI (gon S)), .int (nI (gwh S)), .double (glv S), .int (nI (gev S))])), (A 34, dA cD 8 (gtm S))]
def mW (A : Nat → Nat) (cD cI : ClassId) (σ : Sys) (S : St) (th fl : Int32) (v : Nat → Nat → UInt64) : va_W := [(A 0, mO A th (nI (sn σ)) (nI (sc σ)) (gt S) (gh S) (gtol S) (v 10 0) fl (bI (ggo S)) (v 10 1) (bI (gkn S)) (gt0 S) (gsp S) (wdI S) (glv S) (gtk S) (grf S) (nI (gev S))), (A 1, iA cI 10 (so σ)), (A 2, iA cI 10 (sl σ)), (A 3, iA cI 10 (sr σ)), (A 4, dA cD 10 (sk σ)), (A 5, dA cD 3 (gy S)), (A 6, dA cD 3 (v 0)), (A 7, dA cD 3 (v 1)), (A 8, dA cD 3 (v 2)), (A 9, dA cD 3 (v 3)), (A 10, dA cD 3 (v 4)), (A 11, dA cD 3 (v 5)), (A 12, dA cD 3 (v 6)), (A 13, dA cD 9 (v 7)), (A 14, dA cD 3 (v 8)), (A 15, dA cD 3 (v 9)), (A 16, dA cD 3 (gy0 S)), (A 17, dA cD 3 (gg S)), (A 18, dA cD 3 (gq S)), (A 19, dA cD 8 (gtm S))]
def cAd (A : Nat → Nat) : List Nat := (List.range 35).map A
def mAd (A : Nat → Nat) : List Nat := (List.range 20).map A
theorem cAd_m {A : Nat → Nat} {k : Nat} (h : Nat.blt k 35 = true) : A k ∈ cAd A := List.mem_map.mpr ⟨k, List.mem_range.mpr (Nat.le_of_ble_eq_true h), rfl⟩
theorem mAd_m {A : Nat → Nat} {k : Nat} (h : Nat.blt k 20 = true) : A k ∈ mAd A := List.mem_map.mpr ⟨k, List.mem_range.mpr (Nat.le_of_ble_eq_true h), rfl⟩
def vset (v : Nat → Nat → UInt64) (j : Nat) (f : Nat → UInt64) : Nat → Nat → UInt64 := fun k => bif Nat.beq k j then f else v k
theorem psub {D : va_G} {w W : va_W} {H : Heap} {is : List Nat} (hP : va_P D vwCl W H) (hs : is.map (fun i => W[i]?) = w.map some) : va_P D vwCl w H := by
  intro k q hk
  have h1 : (is.map (fun i => W[i]?))[k]? = some (some q) := by rw [hs, List.getElem?_map, hk]; rfl
  rw [List.getElem?_map] at h1
  cases hi : is[k]? with
  | none => rw [hi] at h1; cases h1
  | some i => rw [hi] at h1; exact hP i q (Option.some.inj h1)
theorem fmono {ad ad' : List Nat} {s t : State} (h : va_F (fun q => q ∈ ad) s t) (hsub : ∀ q ∈ ad, q ∈ ad') : va_F (fun q => q ∈ ad') s t := ⟨h.1, fun q h1 h2 => h.2 q h1 (fun z => h2 (hsub q z))⟩
section FULL
variable {S : Type} {l : Launch} {y : MethodName} {ws : List Cond} {rm : Room} {D : va_G} {tys : List (ClassId × FieldType)} {av : List Value} {w W w0 wk : va_W} {ad ad' : List Nat} {rv : S → Option Value} {post : S → Prop} {w' : S → va_W} {mc ms : Nat} {pe : String → S → Prop}
theorem met_full (hM : Met l y ws rm (xPc D tys av w) (xQ D ad rv post w') mc ms (fun q => q ∈ ad)) (W' : S → va_W) (hsub : ∀ q ∈ ad, q ∈ ad') (is : List Nat) (hn : va_nd is = true) (hs : is.map (fun i => W[i]?) = w.map some)
    (pm : List Nat) (hpn : va_nd pm = true) (hp : pm.map (fun i => W[i]?) = (w0 ++ wk).map some) (e0 : w0.map Prod.fst = ad) (e3 : ∀ u, (w' u).map Prod.fst = ad) (pb : List Nat) (hb : ∀ u, pb.map (fun i => (w' u ++ wk)[i]?) = (W' u).map some) : Met l y ws rm (xPc D tys av W) (xQ D ad' rv post W') mc ms (fun q => q ∈ ad') := by
  refine Jvm.Free.MetFree.mono hM ?_ (fun _ _ _ _ _ h => h) ?_
  · intro a s h
    obtain ⟨h1, hI, hP, hd⟩ := h
    exact ⟨h1, hI, psub hP hs, dj.of ((hd.D rfl).sub is hn hs)⟩
  · intro a s o t hpre h
    obtain ⟨⟨u, ho, hp1, hPu, hF⟩, L, hL1, hL2⟩ := h
    obtain ⟨h1, hI, hP, hd⟩ := hpre
    refine ⟨⟨u, ho, hp1, psub (xjoinP (psub hP hp) (dj.of ((hd.D rfl).sub pm hpn hp)) rfl e0 (e3 u) hF.2 hPu) (hb u), fmono hF hsub⟩, L, hL1, fun q hq => hsub _ (hL2 q hq)⟩
theorem vx_full (hM : vx_Met l y ws rm (xPt D tys av w ad) (xQ D ad rv post w') (yX D ad pe w') mc ms (fun q => q ∈ ad)) (W' : S → va_W) (hsub : ∀ q ∈ ad, q ∈ ad') (is : List Nat) (hn : va_nd is = true) (hs : is.map (fun i => W[i]?) = w.map some)
    (pm : List Nat) (hpn : va_nd pm = true) (hp : pm.map (fun i => W[i]?) = (w0 ++ wk).map some) (e0 : w0.map Prod.fst = ad) (e3 : ∀ u, (w' u).map Prod.fst = ad) (pb : List Nat) (hb : ∀ u, pb.map (fun i => (w' u ++ wk)[i]?) = (W' u).map some) : vx_Met l y ws rm (xPt D tys av W ad') (xQ D ad' rv post W') (yX D ad' pe W') mc ms (fun q => q ∈ ad') := by
  refine Jvm.Free.MetFree.mono hM ?_ (fun _ _ _ _ _ h => h) ?_
  · intro a s h
    obtain ⟨h1, hI, hP, hd, hT, hZ⟩ := h
    exact ⟨h1, hI, psub hP hs, dj.of ((hd.D rfl).sub is hn hs), hT, hZ.narrow hsub⟩
  · intro a s o t hpre h
    obtain ⟨h1, hI, hP, hd, -, -⟩ := hpre
    have hW : ∀ u, va_P D vwCl (w' u) t.heap → va_F (fun q => q ∈ ad) s t → va_P D vwCl (W' u) t.heap := fun u hPu hF => psub (xjoinP (psub hP hp) (dj.of ((hd.D rfl).sub pm hpn hp)) rfl e0 (e3 u) hF.2 hPu) (hb u)
    rcases h with ⟨⟨u, ho, hp1, hPu, hF⟩, L, hL1, hL2⟩ | ⟨q, ho, E, ce, L, ⟨u, hpe, hPu, hF⟩, b1, b2, b3, b4, b5, b6⟩
    · exact Or.inl ⟨⟨u, ho, hp1, hW u hPu hF, fmono hF hsub⟩, L, hL1, fun q hq => hsub _ (hL2 q hq)⟩
    · exact Or.inr ⟨q, ho, E, ce, L, ⟨u, hpe, hW u hPu hF, fmono hF hsub⟩, b1, b2, b3, b4, b5, fun z hz => hsub _ (b6 z hz)⟩
end FULL
/-! the law's own methods: they catch what the class throws -/
def nC (U : State) : Prop := va_Nc eIS eIA U ∧ va_Nc eAR eIA U ∧ va_Nc eNS eIA U
theorem nC.moved {u U : State} (hvm : u.vm.Alike U.vm) (h : nC u) : nC U := ⟨h.1.moved hvm, h.2.1.moved hvm, h.2.2.moved hvm⟩
def xPw (D : va_G) (tys : List (ClassId × FieldType)) (av : List Value) (w : va_W) (ad : List Nat) : Array Value → State → Prop := va_Pc av (fun U => xI D tys U ∧ va_P D vwCl w U.heap ∧ dj (w.map Prod.fst) ∧ tI U ∧ nC U ∧ tZ (fun q => q ∈ ad) U U.heap)
theorem xblindW {D : va_G} {tys : List (ClassId × FieldType)} {av : List Value} {w : va_W} {ad : List Nat} : FrameBlind (xPw D tys av w ad) := fun a U g mk q => ⟨q.1, ⟨va_K.moved (u := U) (U := U.calling g mk a) (Vm.Alike.refl U.vm) q.2.1.1, nst.same (s := U) (U := U.calling g mk a) rfl q.2.1.2⟩, q.2.2.1, q.2.2.2.1, tI.same (s := U) (U := U.calling g mk a) rfl q.2.2.2.2.1, nC.moved (u := U) (U := U.calling g mk a) (Vm.Alike.refl U.vm) q.2.2.2.2.2.1, tZ.moved (u := U) (U := U.calling g mk a) (Vm.Alike.refl U.vm) q.2.2.2.2.2.2⟩
theorem met_ofWH {l : Launch} {y : MethodName} {ws ws' : List Cond} {rm : Room} {Pc : Array Value → State → Prop} {Qc : Array Value → State → Outcome → State → Prop} {mc ms : Nat} {free : Addr → Prop} {cc : ByteArray} {maxL : Nat} {ret : Option FieldType} {hh : List (Nat × Nat × Nat × Nat)}
    (hy : plainName y.cls = true) (hw : ws = Cond.codeWith y cc maxL ret hh :: ws')
    (body : ∀ p e s m args below meth c s₁, BodyLoose p l y (headSpec ws rm) cc maxL ret e s m args below meth c s₁ → c.maxLocals = maxL → Pc args s →
      W p l e (headSpec ws rm).room s m args below meth c s.heap [] 0 0 (MQ below Qc args s mc ms free) (entryFrame m args maxL)) : Met l y ws rm Pc Qc mc ms free := by
  refine MetFree.of_bodyS (code := cc) (maxLocals := maxL) (ret := ret) hy ?_ ?_
  · intro args s m h hn
    obtain ⟨m9, meth, c, hn9, h1, h2, h3, h4, -, h5, h6, -⟩ := Cond.codeWith_spec (atoms_spec (ws := ws) h _ (by rw [hw]; exact List.mem_cons_self))
    cases hn.symm.trans hn9
    exact ⟨meth, c, h1, h2, h3, h4, h5, h6⟩
  · intro p e s m args below meth c s₁ B hml hP _
    have hh0 : s₁.heap = s.heap := by rw [B.state]; rfl
    obtain ⟨t, a1, o, b1, b2, b3⟩ := body p e s m args below meth c s₁ B hml hP s₁ hh0 (Stand.of_body B)
    exact ⟨t, o, a1, b1, b2, b3⟩
theorem xofH {l : Launch} {rm : Room} {cc : ByteArray} {maxL : Nat} {y : MethodName} {ret : Option FieldType} {mc ms : Nat} {D : va_G} {tys : List (ClassId × FieldType)} {w : va_W} {ad : List Nat} {Qc : Array Value → State → Outcome → State → Prop} {free : Addr → Prop} {av : List Value} {hh : List (Nat × Nat × Nat × Nat)} (hy : plainName y.cls = true) (hlen : (lg_sl av).length ≤ maxL)
    (body : ∀ (p : Program) (e : Env) (s : State) (m : MethodId) (below : List Frame) (meth : Method) (c : Code) (ls : Array Slot), p.tables.exec = Jvm.exec → c.code = cc → meth.sig.returnType = ret → c.maxLocals = maxL → (∀ w ∈ lw_good, w.before av.toArray s = true) → s.vm.findClass y.cls = some m.cls → meth.locks = false → c.exceptionTable.toList = tableOf hh → xI D tys s → va_P D vwCl w s.heap → dj (w.map Prod.fst) → tI s → nC s → tZ (fun q => q ∈ ad) s s.heap → va_S (fun q => q ∈ ad) s.heap s.heap [] → lv_has ls maxL (lv_args 0 av) →
      W p l e rm s m av.toArray below meth c s.heap [] 0 0 (MQ below Qc av.toArray s mc ms free) (F0 m 0 ls [])) : Met l y (Cond.codeWith y cc maxL ret hh :: lw_good) rm (xPw D tys av w ad) Qc mc ms free := by
  refine met_ofWH (cc := cc) (maxL := maxL) (ret := ret) (hh := hh) hy rfl ?_
  intro p e s m args below meth c s₁ B hml hv
  obtain ⟨rfl, hI, hP, hd, hT, hN, hZ⟩ := hv
  have hall := atoms_spec (ws := Cond.codeWith y cc maxL ret hh :: lw_good) B.pre
  rw [lg_entry_eq]
  exact body p e s m below meth c _ B.exec B.bytes B.returns hml (fun w h => hall w (List.mem_cons_of_mem _ h)) (findClass_of_methodNamed B.named) B.notSynchronized (vx_table (x := y) B (hall _ List.mem_cons_self)) hI hP hd hT hN hZ va_S.rf (lv_entry av hlen)
theorem va_P.l {D : va_G} {w1 w2 : va_W} {H : Heap} (h : va_P D vwCl (w1 ++ w2) H) : va_P D vwCl w1 H := fun k q hk => h k q (by rw [List.getElem?_append_left (List.getElem?_eq_some_iff.mp hk).1]; exact hk)
theorem va_P.r {D : va_G} {w1 w2 : va_W} {H : Heap} (h : va_P D vwCl (w1 ++ w2) H) : va_P D vwCl w2 H := fun k q hk => h (w1.length + k) q (by rw [List.getElem?_append_right (Nat.le_add_right _ _), Nat.add_sub_cancel_left]; exact hk)
theorem dj.l {a b : List Nat} (h : dj (a ++ b)) : dj a := fun i j x hi hj => h i j x (by rw [List.getElem?_append_left (List.getElem?_eq_some_iff.mp hi).1]; exact hi) (by rw [List.getElem?_append_left (List.getElem?_eq_some_iff.mp hj).1]; exact hj)
theorem dj.r {a b : List Nat} (h : dj (a ++ b)) : dj b := fun i j x hi hj => by
  have := h (a.length + i) (a.length + j) x (by rw [List.getElem?_append_right (Nat.le_add_right _ _), Nat.add_sub_cancel_left]; exact hi) (by rw [List.getElem?_append_right (Nat.le_add_right _ _), Nat.add_sub_cancel_left]; exact hj)
  omega
theorem dj.x {a b : List Nat} (h : dj (a ++ b)) : ∀ x ∈ b, x ∉ a := fun x hb ha => by
  obtain ⟨i, hi⟩ := List.getElem?_of_mem ha
  obtain ⟨j, hj⟩ := List.getElem?_of_mem hb
  have hil := (List.getElem?_eq_some_iff.mp hi).1
  have := h i (a.length + j) x (by rw [List.getElem?_append_left hil]; exact hi) (by rw [List.getElem?_append_right (Nat.le_add_right _ _), Nat.add_sub_cancel_left]; exact hj)
  omega
theorem cW_ad {A : Nat → Nat} {rw : Nat → Option Nat} {cD cI cM : ClassId} {σ : Sys} {S : St} {v : Nat → Nat → UInt64} : (cW A rw cD cI cM σ S v).map Prod.fst = cAd A := rfl
theorem mW_ad {A : Nat → Nat} {cD cI : ClassId} {σ : Sys} {S : St} {th fl : Int32} {v : Nat → Nat → UInt64} : (mW A cD cI σ S th fl v).map Prod.fst = mAd A := rfl
section XCT
variable {p : Program} {l : Launch} {e : Env} {R : Room} {s : State} {m : MethodId} {args : Array Value} {below : List Frame} {meth : Method} {c : Code} {H : Heap} {locs : List Loc} {cells slots : Nat} {Q : State → Prop}
variable {pc mc ms : Nat} {ls : Array Slot} {rest st0 : List Value} {D : va_G} {S : Type} {ad : List Nat} {post : S → Prop} {W' : S → va_W} {A : Nat → Prop} {H0 : Heap} {a : Array Value} {wo : va_W} {rv : S → Option Value} {pe : String → S → Prop}
/-- a call that may throw; its world is the callee's, and other cells wo -/
theorem xcT {g : JFrame} (hr : vx_Run p l e R s m args below meth c H locs cells slots mc ms g rest (xQ D ad rv post W' a) (yX D ad pe W') (fun q => q ∈ ad)) (hPo : va_P D vwCl wo H) (hdis : ∀ x ∈ wo.map Prod.fst, x ∉ ad) (hS : va_S A H0 H locs) (hA : ∀ q ∈ ad, A q)
    (kx : ∀ (E : String) (ce : Cell) (q9 : Addr) (u : S) (H1 : Heap) (locs1 : List Loc), pe E u → va_P D vwCl (W' u) H1 → va_P D vwCl wo H1 → va_S A H0 H1 locs1 → H1[q9]? = some ce → ce.vm = .none → s.vm.findClass E = some ce.cls → vx_W p l e R s m args below meth c H1 locs1 (cells + mc) (slots + ms) Q { g with stack := rest } q9)
    (kk : ∀ (u : S) (H1 : Heap) (locs1 : List Loc), post u → va_P D vwCl (W' u) H1 → va_P D vwCl wo H1 → va_S A H0 H1 locs1 → W p l e R s m args below meth c H1 locs1 (cells + mc) (slots + ms) Q { g with pc := g.pc + 3, stack := (rv u).toList ++ rest }) : W p l e R s m args below meth c H locs cells slots Q g := by
  intro T hT X
  have ho : ∀ (T' t st₀ : State), T'.heap = t.heap → st₀.heap = H → va_F (fun q => q ∈ ad) st₀ t → va_P D vwCl wo T'.heap := fun T' t st₀ e4 h0 hF => by
    rw [e4]
    obtain ⟨hz, hk⟩ := hF
    rw [h0] at hz hk
    intro k q hq
    exact (hPo k q hq).kept (hk q.1 (hPo k q hq).lt (hdis q.1 (List.mem_map.mpr ⟨q, List.mem_of_getElem? hq, rfl⟩)))
  have hs1 : ∀ (T' t st₀ : State) (L : List Loc), T'.heap = t.heap → st₀.heap = H → va_F (fun q => q ∈ ad) st₀ t → (∀ q ∈ L, q.base ∈ ad) → va_S A H0 T'.heap (locs ++ L) := fun T' t st₀ L e4 h0 hF hL => by
    obtain ⟨hz, hk⟩ := hF
    rw [h0] at hz hk
    exact ⟨Nat.le_trans hS.1 (by rw [e4]; exact hz), fun q h1 h2 => by rw [e4, hk q (Nat.lt_of_lt_of_le h1 hS.1) (fun z => h2 (hA q z))]; exact hS.2.1 q h1 h2, fun q hq => by
      rcases List.mem_append.mp hq with h | h
      · exact hS.2.2 q h
      · exact hA _ (hL q h)⟩
  rcases hr T hT X with ⟨v, st₀, t, T', L, h0, X', hL, e4, e5, ⟨u, hv, hp, hPu, hF⟩, st⟩ | ⟨q, st₀, t, T', L, E, ce, h0, X', hL, e4, e5, ⟨u, hpe, hPu, hF⟩, hce, hcv, hcl, st⟩
  · cases hv
    obtain ⟨t2, a1, b1⟩ := kk u T'.heap (locs ++ L) hp (by rw [e4]; exact hPu) (ho T' t st₀ e4 h0 hF) (hs1 T' t st₀ L e4 h0 hF hL) T' rfl X'
    exact ⟨t2, st t2 a1, b1⟩
  · obtain ⟨t2, a1, b1⟩ := kx E ce q u T'.heap (locs ++ L) hpe (by rw [e4]; exact hPu) (ho T' t st₀ e4 h0 hF) (hs1 T' t st₀ L e4 h0 hF hL) (by rw [e4]; exact hce) hcv hcl T' rfl X'
    exact ⟨t2, st.trans a1, b1⟩
/-- a call that returns; its world is the callee's, and other cells wo -/
theorem xcR {g : JFrame} (hr : va_Run p l e R s m args below meth c H locs cells slots mc ms g rest (xQ D ad rv post W' a) (fun q => q ∈ ad)) (hPo : va_P D vwCl wo H) (hdis : ∀ x ∈ wo.map Prod.fst, x ∉ ad) (hS : va_S A H0 H locs) (hA : ∀ q ∈ ad, A q)
    (kk : ∀ (u : S) (H1 : Heap) (locs1 : List Loc), post u → va_P D vwCl (W' u) H1 → va_P D vwCl wo H1 → va_S A H0 H1 locs1 → (∀ q : Nat, q < H.size → ¬ q ∈ ad → H1[q]? = H[q]?) → W p l e R s m args below meth c H1 locs1 (cells + mc) (slots + ms) Q { g with pc := g.pc + 3, stack := (rv u).toList ++ rest }) : W p l e R s m args below meth c H locs cells slots Q g := by
  intro T hT X
  obtain ⟨v, st₀, t, T', L, h0, X', hL, e4, e5, ⟨u, hv, hp, hPu, hF⟩, st⟩ := hr T hT X
  cases hv
  obtain ⟨hz, hk⟩ := hF
  rw [h0] at hz hk
  obtain ⟨t2, a1, b1⟩ := kk u T'.heap (locs ++ L) hp (by rw [e4]; exact hPu) (by
      rw [e4]
      intro k q hq
      exact (hPo k q hq).kept (hk q.1 (hPo k q hq).lt (hdis q.1 (List.mem_map.mpr ⟨q, List.mem_of_getElem? hq, rfl⟩)))) ⟨Nat.le_trans hS.1 (by rw [e4]; exact hz), fun q h1 h2 => by rw [e4, hk q (Nat.lt_of_lt_of_le h1 hS.1) (fun z => h2 (hA q z))]; exact hS.2.1 q h1 h2, fun q hq => by
      rcases List.mem_append.mp hq with h | h
      · exact hS.2.2 q h
      · exact hA _ (hL q h)⟩ (by rw [e4]; exact hk) T' rfl X'
  exact ⟨t2, st t2 a1, b1⟩
end XCT
