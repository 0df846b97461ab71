section XIR
variable {p : Program} {l : Launch} {e : Env} {R : Room} {s : State} {m : MethodId} {args : Array Value} {below : List Frame} {meth : Method} {c : Code} {H : Heap} {locs : List Loc} {cells slots : Nat}
variable {cc bytes : ByteArray} {pc nL maxL index n mc ms b h0 : Nat} {ls : Array Slot} {rest st0 As : List Value} {own C : String} {y : MethodName} {rm : Room} {D : va_G} {tys : List (ClassId × FieldType)} {w W₀ : va_W} {as : List Nat} {Qc : Array Value → State → Outcome → State → Prop} {free : Addr → Prop}
/-- a constructor's call -/
theorem xIr (hx : p.tables.exec = Jvm.exec) (hb : c.code = cc) (hml : c.maxLocals = nL) (hown : s.vm.findClass own = some m.cls) (ht : ∀ w ∈ lw_good, w.before args s = true)
    (hM : Met l y (Cond.code y bytes maxL none :: lw_good) rm (xPn D tys (.ref b :: As) w h0) Qc mc ms free) (m1 : Cond.methodLink own index y ∈ lw_good) (ok : okI y C bytes maxL n) (hrc : rm.cells = mc) (hrs : rm.slots = ms) (hR : rm.frames + 1 ≤ R.frames ∧ 8 + (maxL + 11) + rm.locals ≤ R.locals)
    (hI : xI D tys s) (hP : va_P D vwCl W₀ H) (hd : dj as) (e1 : W₀.map Prod.fst = as) (hH : H.size = h0) (is : List Nat) (hn : va_nd is = true) (hs : is.map (fun i => W₀[i]?) = w.map some)
    (hln : As.length = n) (hsize : ls.size = nL) (hst : st0 = As.reverse ++ .ref b :: rest) (hroom : (rest.map fun v => v.category).sum ≤ 8) (hdg : decode cc pc = .ok (.invokespecial index, 3)) (hf : cells + mc ≤ R.cells ∧ slots + ms ≤ R.slots) :
    va_Run p l e R s m args below meth c H locs cells slots mc ms (F0 m pc ls st0) rest (Qc (Value.ref b :: As).toArray) free := by
  have hpre := xpre (av := Value.ref b :: As) hI hP hd e1 is hn hs
  exact va_runI (b := b) (As := As) ⟨hx, hb, hml, hown, ht⟩ hM (xcwI ht m1 ok hrc hrs hR) ⟨xblindN, fun U hU hW => by
    obtain ⟨q1, q2, q3, q4⟩ := hpre U hU hW
    exact ⟨q1, q2, q3, q4, by rw [hU]; exact hH⟩⟩ rfl hln hsize hst (lv_room hroom) hdg hf
/-- a constructor's call by a nest link -/
theorem xIrN (hx : p.tables.exec = Jvm.exec) (hb : c.code = cc) (hml : c.maxLocals = nL) (hown : s.vm.findClass own = some m.cls) (ht : ∀ w ∈ lw_good, w.before args s = true)
    (hM : Met l y (Cond.code y bytes maxL none :: lw_good) rm (xPn D tys (.ref b :: As) w h0) Qc mc ms free) {host : String} (m1 : va_Nw (.methodLinkNest own index y host) s) (ok : okI y C bytes maxL n) (hrc : rm.cells = mc) (hrs : rm.slots = ms) (hR : rm.frames + 1 ≤ R.frames ∧ 8 + (maxL + 11) + rm.locals ≤ R.locals)
    (hI : xI D tys s) (hP : va_P D vwCl W₀ H) (hd : dj as) (e1 : W₀.map Prod.fst = as) (hH : H.size = h0) (is : List Nat) (hn : va_nd is = true) (hs : is.map (fun i => W₀[i]?) = w.map some)
    (hln : As.length = n) (hsize : ls.size = nL) (hst : st0 = As.reverse ++ .ref b :: rest) (hroom : (rest.map fun v => v.category).sum ≤ 8) (hdg : decode cc pc = .ok (.invokespecial index, 3)) (hf : cells + mc ≤ R.cells ∧ slots + ms ≤ R.slots) :
    va_Run p l e R s m args below meth c H locs cells slots mc ms (F0 m pc ls st0) rest (Qc (Value.ref b :: As).toArray) free := by
  have hpre := xpre (av := Value.ref b :: As) hI hP hd e1 is hn hs
  exact va_runIN (b := b) (As := As) ⟨hx, hb, hml, hown, ht⟩ hM (xcwIN ht m1 ok hrc hrs hR) ⟨xblindN, fun U hU hW => by
    obtain ⟨q1, q2, q3, q4⟩ := hpre U hU hW
    exact ⟨q1, q2, q3, q4, by rw [hU]; exact hH⟩⟩ rfl hln hsize hst (lv_room hroom) hdg hf
end XIR
