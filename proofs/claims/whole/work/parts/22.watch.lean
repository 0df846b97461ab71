/-! values between, the watch -/
def crv (a b c d s m : UInt64) : UInt64 := FP.dadd (FP.dadd (FP.dadd (FP.dmul (FP.dmul (FP.dmul (FP.dadd FP.dconst1 (FP.dmul k2 m)) (FP.dsub FP.dconst1 m)) (FP.dsub FP.dconst1 m)) a) (FP.dmul (FP.dmul (FP.dmul (FP.dmul m (FP.dsub FP.dconst1 m)) (FP.dsub FP.dconst1 m)) s) b)) (FP.dmul (FP.dmul (FP.dmul m m) (FP.dsub k3 (FP.dmul k2 m))) c)) (FP.dmul (FP.dmul (FP.dmul (FP.dmul m m) (FP.dsub m FP.dconst1)) s) d)
def okc (a b c d s t0 lv : UInt64) : Prop := bd 1 20 a ∧ bd 1 50 b ∧ bd 1 20 c ∧ bd 1 50 d ∧ bd 1 2 s ∧ bd 1 16 t0 ∧ bd 1 10 lv
theorem crv_bd {a b c d s m : UInt64} (ha : bd 1 20 a) (hb : bd 1 50 b) (hc : bd 1 20 c) (hd : bd 1 50 d) (hs : bd 1 2 s) (hm : bd 1 0 m) : bd 1 60 (crv a b c d s m) := by
  have e1 : bd 1 1 (FP.dmul k2 m) := bd_mul b_k2 hm (by decide) (by decide)
  have e2 : bd 1 1 (FP.dsub FP.dconst1 m) := bd_sub b_1 hm (by decide) (by decide) (by decide)
  have e3 : bd 1 2 (FP.dadd FP.dconst1 (FP.dmul k2 m)) := bd_add b_1 e1 (by decide) (by decide) (by decide)
  have e4 : bd 1 3 (FP.dsub k3 (FP.dmul k2 m)) := bd_sub b_k3 e1 (by decide) (by decide) (by decide)
  have e5 : bd 1 1 (FP.dsub m FP.dconst1) := bd_sub hm b_1 (by decide) (by decide) (by decide)
  have f1 : bd 1 24 (FP.dmul (FP.dmul (FP.dmul (FP.dadd FP.dconst1 (FP.dmul k2 m)) (FP.dsub FP.dconst1 m)) (FP.dsub FP.dconst1 m)) a) := bd_mul (k := 24) (bd_mul (k := 4) (bd_mul (k := 3) e3 e2 (by decide) (by decide)) e2 (by decide) (by decide)) ha (by decide) (by decide)
  have f2 : bd 1 54 (FP.dmul (FP.dmul (FP.dmul (FP.dmul m (FP.dsub FP.dconst1 m)) (FP.dsub FP.dconst1 m)) s) b) := bd_mul (k := 54) (bd_mul (k := 4) (bd_mul (k := 2) (bd_mul (k := 1) hm e2 (by decide) (by decide)) e2 (by decide) (by decide)) hs (by decide) (by decide)) hb (by decide) (by decide)
  have f3 : bd 1 23 (FP.dmul (FP.dmul (FP.dmul m m) (FP.dsub k3 (FP.dmul k2 m))) c) := bd_mul (k := 23) (bd_mul (k := 3) (bd_mul (k := 0) hm hm (by decide) (by decide)) e4 (by decide) (by decide)) hc (by decide) (by decide)
  have f4 : bd 1 53 (FP.dmul (FP.dmul (FP.dmul (FP.dmul m m) (FP.dsub m FP.dconst1)) s) d) := bd_mul (k := 53) (bd_mul (k := 3) (bd_mul (k := 1) (bd_mul (k := 0) hm hm (by decide) (by decide)) e5 (by decide) (by decide)) hs (by decide) (by decide)) hd (by decide) (by decide)
  exact bd_add (bd_add (k := 56) (bd_add (k := 55) f1 f2 (by decide) (by decide) (by decide)) f3 (by decide) (by decide) (by decide)) f4 (by decide) (by decide) (by decide)
def abv (lv v : UInt64) : Bool := !decide (dlt (FP.dsub v lv) FP.dconst0)
theorem abv_iff {lv v : UInt64} (h : fin (FP.dsub v lv)) : (dgt (FP.dsub v lv) FP.dconst0 ∨ deq (FP.dsub v lv) FP.dconst0) ↔ abv lv v = true := by
  unfold abv
  rw [Bool.not_eq_true', decide_eq_false_iff_not, dgt_iff h b_0.1, deq_iff h b_0.1, dlt_iff h b_0.1]
  omega
theorem bd_half {x : UInt64} (h : bd 1 1 x) : bd 1 0 (FP.dmul k0_5 x) := by
  obtain ⟨⟨t, d, r, hyv⟩, hyz⟩ := h
  have hz := FP.Core.val64_dmul k0_5 x
  have hxf := FP.Core.val64_fits k0_5
  have hyf := FP.Core.val64_fits x
  obtain ⟨s, c, q, hxv⟩ := b_k0_5.1
  have hxz : FP.Core.zmag FP.Core.b64 (FP.Core.val64 k0_5) = 2 ^ 1073 := by decide +kernel
  unfold zm at hyz
  rw [hxv] at hz hxf hxz
  rw [hyv] at hz hyf hyz
  obtain ⟨h1, h2, h3⟩ := FP.Core.product_units hxf hyf
  rw [h1] at hz
  refine bd_round (by decide) (by decide) (by rw [log2_1]; decide) (B := 1) (e0 := 2 * FP.Core.b64.qmin) (by decide) hz (by rw [FP.Core.qmin_b64]; decide) h2 ?_
  rw [h3, Nat.mul_one, FP.Core.qmin_b64, show (-1074 - 2 * -1074 : Int).toNat = 1074 by decide, hxz, Nat.one_mul]
  refine Nat.le_trans (Nat.mul_le_mul_left _ hyz) ?_
  rw [Nat.one_mul, ← Nat.pow_add, ← Nat.pow_add]
  exact Nat.pow_le_pow_right (by decide) (by decide)
def bis (f : UInt64 → UInt64) (lv : UInt64) (bg : Bool) : Nat → UInt64 × UInt64 × UInt64
  | 0 => (FP.dconst0, FP.dconst1, k0_5)
  | k + 1 => if abv lv (f (FP.dmul k0_5 (FP.dadd (bis f lv bg k).1 (bis f lv bg k).2.1))) = bg then (FP.dmul k0_5 (FP.dadd (bis f lv bg k).1 (bis f lv bg k).2.1), (bis f lv bg k).2.1, FP.dmul k0_5 (FP.dadd (bis f lv bg k).1 (bis f lv bg k).2.1)) else ((bis f lv bg k).1, FP.dmul k0_5 (FP.dadd (bis f lv bg k).1 (bis f lv bg k).2.1), FP.dmul k0_5 (FP.dadd (bis f lv bg k).1 (bis f lv bg k).2.1))
theorem bis_bd {f : UInt64 → UInt64} {lv : UInt64} {bg : Bool} : ∀ k, bd 1 0 (bis f lv bg k).1 ∧ bd 1 0 (bis f lv bg k).2.1 ∧ bd 1 0 (bis f lv bg k).2.2
  | 0 => ⟨b_0, b_1, b_k0_5⟩
  | k + 1 => by
    obtain ⟨h1, h2, h3⟩ := bis_bd (f := f) (lv := lv) (bg := bg) k
    have hm := bd_half (bd_add (k := 1) h1 h2 (by decide) (by decide) (by decide))
    unfold bis
    split
    · exact ⟨hm, h2, hm⟩
    · exact ⟨h1, hm, hm⟩
def evt (t0 sp : UInt64) (f : UInt64 → UInt64) (lv : UInt64) (bg : Bool) : UInt64 := FP.dadd t0 (FP.dmul (bis f lv bg 20).2.2 sp)
/-- the watch looks at a step: does an event come -/
def fire (on : Bool) (lv a c : UInt64) : Bool := on && (abv lv c != abv lv a)
def lookT (on : Bool) (lv a b c d sp t0 : UInt64) (ev : Nat) (tm : Nat → UInt64) : Nat → UInt64 := if fire on lv a c then vf_upd tm (ev % 8) (evt t0 sp (crv a b c d sp) lv (abv lv a)) else tm
def lookN (on : Bool) (lv a c : UInt64) (ev : Nat) : Nat := if fire on lv a c then ev + 1 else ev
theorem x8 {a : Nat} (h : a < 2 ^ 31) : (0 : Int32) ≤ nI a ^^^ nI 8 := by
  have h1 : (nI a).toBitVec.msb = false := by
    rw [BitVec.msb_eq_toInt]
    have h2 : (nI a).toBitVec.toInt = (a : Int) := nI_toInt h
    rw [h2]
    exact decide_eq_false (by omega)
  have h2 : (nI 8).toBitVec.msb = false := by decide
  have h3 : (nI a ^^^ nI 8).toBitVec.msb = false := by
    rw [Int32.toBitVec_xor, BitVec.msb_xor, h1, h2]
    rfl
  rw [BitVec.msb_eq_toInt] at h3
  have h4 := of_decide_eq_false h3
  rw [Int32.le_iff_toInt_le]
  have h5 : (nI a ^^^ nI 8).toInt = (nI a ^^^ nI 8).toBitVec.toInt := rfl
  have h6 : (0 : Int32).toInt = 0 := by decide
  rw [h5, h6]
  omega
theorem bI_inj {a b : Bool} : bI a = bI b ↔ a = b := by cases a <;> cases b <;> decide
theorem met_ofWF {l : Launch} {y : MethodName} {ws ws' : List Cond} {rm : Room} {Pc : Array Value → State → Prop} {Qc : Array Value → State → Outcome → State → Prop} {mc ms : Nat} {free : Addr → Prop} {cc : ByteArray} {maxL : Nat} {ret : Option FieldType}
    (hy : plainFor y = true) (hw : ws = Cond.code y cc maxL ret :: ws')
    (body : ∀ p e s m args below meth c s₁, BodyLoose p l y (headSpec ws rm) cc maxL ret e s m args below meth c s₁ → c.maxLocals = maxL → Pc args s →
      W p l e (headSpec ws rm).room s m args below meth c s.heap [] 0 0 (MQ below Qc args s mc ms free) (entryFrame m args maxL)) : Met l y ws rm Pc Qc mc ms free := by
  refine MetFree.of_bodySF (code := cc) (maxLocals := maxL) (ret := ret) hy ?_ ?_
  · intro args s m h hn
    obtain ⟨meth, c, h1, h2, h3, h4, h5, h6, -, -⟩ := Cond.code_spec hn (atoms_spec (ws := ws) h _ (by rw [hw]; exact List.mem_cons_self))
    exact ⟨meth, c, h1, h2, h3, h4, h5, h6⟩
  · intro p e s m args below meth c s₁ B hml hP _
    have hh0 : s₁.heap = s.heap := by rw [B.state]; rfl
    obtain ⟨t, a1, o, b1, b2, b3⟩ := body p e s m args below meth c s₁ B hml hP s₁ hh0 (Stand.of_body B)
    exact ⟨t, o, a1, b1, b2, ⟨b3.1, b3.2⟩⟩
theorem xofWF {l : Launch} {rm : Room} {cc : ByteArray} {maxL : Nat} {y : MethodName} {ret : Option FieldType} {mc ms : Nat} {D : va_G} {tys : List (ClassId × FieldType)} {w : va_W} {Qc : Array Value → State → Outcome → State → Prop} {free : Addr → Prop} {av : List Value} {adr : List Nat} (hy : plainFor y = true) (hlen : (lg_sl av).length ≤ maxL)
    (body : ∀ (p : Program) (e : Env) (s : State) (m : MethodId) (below : List Frame) (meth : Method) (c : Code) (ls : Array Slot), p.tables.exec = Jvm.exec → c.code = cc → meth.sig.returnType = ret → c.maxLocals = maxL → (∀ w ∈ lw_good, w.before av.toArray s = true) → s.vm.findClass y.cls = some m.cls → meth.locks = false → xI D tys s → va_P D vwCl w s.heap → dj (w.map Prod.fst) → va_S (fun q => q ∈ adr) s.heap s.heap [] → lv_has ls maxL (lv_args 0 av) →
      W p l e rm s m av.toArray below meth c s.heap [] 0 0 (MQ below Qc av.toArray s mc ms free) (F0 m 0 ls [])) : Met l y (Cond.code y cc maxL ret :: lw_good) rm (xPc D tys av w) Qc mc ms free := by
  refine met_ofWF (cc := cc) (maxL := maxL) (ret := ret) hy rfl ?_
  intro p e s m args below meth c s₁ B hml hv
  obtain ⟨rfl, hI, hP, hd⟩ := hv
  rw [lg_entry_eq]
  exact body p e s m below meth c _ B.exec B.bytes B.returns hml (fun w h => atoms_spec (ws := Cond.code y cc maxL ret :: lw_good) B.pre w (List.mem_cons_of_mem _ h)) (findClass_of_methodNamed B.named) B.notSynchronized hI hP hd va_S.rf (lv_entry av hlen)
