/-! contracts of constructors: h0 is the heap's size at the call -/
def xPn (D : va_G) (tys : List (ClassId × FieldType)) (av : List Value) (w : va_W) (h0 : Nat) : Array Value → State → Prop := va_Pc av (fun U => xI D tys U ∧ va_P D vwCl w U.heap ∧ dj (w.map Prod.fst) ∧ U.heap.size = h0)
abbrev zA (ad : List Nat) (h0 : Nat) : Nat → Prop := fun q => q ∈ ad ∨ h0 ≤ q
def zQ (D : va_G) (ad : List Nat) (h0 K : Nat) (w' : va_W) : Array Value → State → Outcome → State → Prop := fun _ st oc t => oc = .returned none ∧ t.heap.size = h0 + K ∧ va_P D vwCl w' t.heap ∧ va_F (zA ad h0) st t
theorem xblindN {D : va_G} {tys : List (ClassId × FieldType)} {av : List Value} {w : va_W} {h0 : Nat} : FrameBlind (xPn D tys av w h0) := fun a U g mk q => ⟨q.1, ⟨va_K.moved (u := U) (U := U.calling g mk a) (Vm.Alike.refl U.vm) q.2.1.1, nst.same (s := U) (U := U.calling g mk a) rfl q.2.1.2⟩, q.2.2.1, q.2.2.2.1, q.2.2.2.2⟩
theorem xofN {l : Launch} {y : MethodName} {cc : ByteArray} {maxL mc ms h0 : Nat} {rm : Room} {D : va_G} {tys : List (ClassId × FieldType)} {w : va_W} {Qc : Array Value → State → Outcome → State → Prop} {free : Addr → Prop} {av : List Value} (ad : List Nat) (hy : plainName y.cls = true) (hi : y.name = "<init>") (hlen : (lg_sl av).length ≤ maxL)
    (body : ∀ (p : Program) (e : Env) (s : State) (m : MethodId) (below : List Frame) (meth : Method) (c : Code) (ls : Array Slot), p.tables.exec = Jvm.exec → c.code = cc → meth.sig.returnType = none → c.maxLocals = maxL → (∀ w ∈ lw_good, w.before av.toArray s = true) → s.vm.findClass y.cls = some m.cls → meth.locks = false → meth.name = "<init>" → xI D tys s → va_P D vwCl w s.heap → dj (w.map Prod.fst) → s.heap.size = h0 → va_S (zA ad h0) s.heap s.heap [] → lv_has ls maxL (lv_args 0 av) →
      W p l e rm s m av.toArray below meth c s.heap [] 0 0 (MQ below Qc av.toArray s mc ms free) (F0 m 0 ls [])) : Met l y (Cond.code y cc maxL none :: lw_good) rm (xPn D tys av w h0) Qc mc ms free := by
  refine Met.ofW (cc := cc) (maxL := maxL) (ret := none) hy rfl ?_
  intro p e s m args below meth c s₁ B hml hv
  obtain ⟨rfl, hI, hP, hd, hH⟩ := hv
  rw [lg_entry_eq]
  exact body p e s m below meth c _ B.exec B.bytes B.returns hml (fun w h => atoms_spec (ws := Cond.code y cc maxL none :: lw_good) B.pre w (List.mem_cons_of_mem _ h)) (findClass_of_methodNamed B.named) B.notSynchronized ((name_of_methodNamed B.named B.method).1.trans hi) hI hP hd hH va_S.rf (lv_entry av hlen)
section XB
variable {p : Program} {l : Launch} {e : Env} {R : Room} {s : State} {m : MethodId} {args : Array Value} {below : List Frame} {meth : Method} {c : Code} {H : Heap} {locs : List Loc} {cells slots : Nat} {Q : State → Prop}
variable {pc : Nat} {ls : Array Slot} {rest st0 : List Value} {D : va_G} {ad : List Nat} {A : Nat → Prop} {H0 : Heap} {a : Array Value} {w0 wk w1 : va_W} {as : List Nat} {h K mc ms ad0 : Nat} {x0 : va_E}
/-- back from a constructor whose object is the last cell of the world: its cells and what it made come behind the others -/
theorem xbackN (hr : va_Run p l e R s m args below meth c H locs cells slots mc ms (F0 m pc ls st0) rest (zQ D [ad0] h K w1 a) (zA [ad0] h)) (hH : H.size = h) (hP : va_P D vwCl (wk ++ [(ad0, x0)]) H) (hd : dj as) (e1 : (wk ++ [(ad0, x0)]).map Prod.fst = as) (hS : va_S A H0 H locs) (hA0 : A ad0) (hA : ∀ q, h ≤ q → A q)
    (kk : ∀ (H1 : Heap) (locs1 : List Loc), va_P D vwCl (wk ++ w1) H1 → H1.size = h + K → va_S A H0 H1 locs1 → W p l e R s m args below meth c H1 locs1 (cells + mc) (slots + ms) Q (F0 m (pc + 3) ls rest)) : W p l e R s m args below meth c H locs cells slots Q (F0 m pc ls st0) := by
  intro T hT X
  obtain ⟨v, st₀, t, T', L, h0, X', hL, e4, e5, ⟨hv, hz1, hPu, hF⟩, st⟩ := hr T hT X
  cases hv
  obtain ⟨hz, hk⟩ := hF
  rw [h0] at hz hk
  have hAll : ∀ q, zA [ad0] h q → A q := fun q hq => hq.elim (fun x => by rw [List.mem_singleton.mp x]; exact hA0) (hA q)
  have hj : va_P D vwCl (wk ++ w1) T'.heap := by
    rw [e4]
    intro k q hk2
    by_cases hlt : k < wk.length
    · rw [List.getElem?_append_left hlt] at hk2
      have h3 : (wk ++ [(ad0, x0)])[k]? = some q := by rw [List.getElem?_append_left hlt]; exact hk2
      have h4 := (hP k q h3).lt
      refine (hP k q h3).kept (hk q.1 h4 (fun hm => ?_))
      rcases hm with hm | hm
      · have a1 : as[k]? = some ad0 := by rw [← e1, List.getElem?_map, h3, ← List.mem_singleton.mp hm]; rfl
        have a2 : as[wk.length]? = some ad0 := by rw [← e1, List.getElem?_map, List.getElem?_append_right (Nat.le_refl _), Nat.sub_self]; rfl
        have := hd k wk.length ad0 a1 a2
        omega
      · omega
    · rw [List.getElem?_append_right (by omega)] at hk2
      exact hPu _ q hk2
  obtain ⟨t2, a1, b1⟩ := kk T'.heap (locs ++ L) hj (by rw [e4]; exact hz1) ⟨Nat.le_trans hS.1 (by rw [e4]; exact hz), fun q h1 h2 => by rw [e4, hk q (Nat.lt_of_lt_of_le h1 hS.1) (fun z => h2 (hAll q z))]; exact hS.2.1 q h1 h2, fun q hq => by
      rcases List.mem_append.mp hq with h | h
      · exact hS.2.2 q h
      · exact hAll _ (hL q h)⟩ T' rfl X'
  exact ⟨t2, st t2 a1, b1⟩
end XB
