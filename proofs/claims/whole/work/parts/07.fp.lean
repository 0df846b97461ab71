/-! doubles: bounds of sums, products and quotients, so that no result is a NaN -/
abbrev zm (x : UInt64) : Nat := FP.Core.zmag FP.Core.b64 (FP.Core.val64 x)
abbrev zv (x : UInt64) : Int := FP.Core.zval FP.Core.b64 (FP.Core.val64 x)
abbrev fin (x : UInt64) : Prop := FP.Core.DFin x
/-- finite, and of a size of at most m * 2^k -/
def bd (m k : Nat) (x : UInt64) : Prop := fin x ∧ zm x ≤ m * 2 ^ (k + 1074)
theorem bd.fin {m k : Nat} {x : UInt64} (h : bd m k x) : fin x := h.1
theorem fin.nn {x : UInt64} (h : fin x) : vf_n64 x := by
  have h1 := (FP.Core.fin_bits x).mp h
  unfold vf_n64
  rw [UInt64.le_iff_toNat_le, FP.Core.mask_toNat]
  exact Nat.le_of_lt h1
theorem bd.nn {m k : Nat} {x : UInt64} (h : bd m k x) : vf_n64 x := h.1.nn
theorem fin.ne {x : UInt64} (h : fin x) : FP.Core.val64 x ≠ .nan := by
  obtain ⟨s, c, q, h⟩ := h
  rw [h]
  exact FP.Core.Datum.noConfusion
theorem bd.mono {m k m' k' : Nat} {x : UInt64} (h : bd m k x) (hle : m * 2 ^ (k + 1074) ≤ m' * 2 ^ (k' + 1074)) : bd m' k' x := ⟨h.1, Nat.le_trans h.2 hle⟩
theorem bd.up {k k' : Nat} {x : UInt64} (h : bd 1 k x) (hle : k ≤ k') : bd 1 k' x := h.mono (by
  rw [Nat.one_mul, Nat.one_mul]
  exact Nat.pow_le_pow_right (by decide) (by omega))
theorem zm_zv (x : UInt64) : (zv x).natAbs = zm x := FP.Core.natAbs_signed _ _
/-- m * 2^k is a double -/
theorem bd_rep {m k : Nat} (h1 : 1 ≤ m) (h2 : m < 2 ^ 53) (h3 : k + Nat.log2 m ≤ 1023) : ∃ (c : Nat) (q : Int), FP.Core.fits FP.Core.b64 (.fin false c q) ∧ FP.Core.zmag FP.Core.b64 (.fin false c q) = m * 2 ^ (k + 1074) := by
  have hl : m.log2 ≤ 52 := by
    have := (Nat.log2_lt (by omega : m ≠ 0)).mpr h2
    omega
  have ha : 2 ^ m.log2 ≤ m := Nat.log2_self_le (by omega)
  have hb : m < 2 ^ (m.log2 + 1) := Nat.lt_log2_self
  refine ⟨m * 2 ^ (52 - m.log2), ((k : Int) + m.log2 - 52), ⟨?_, ?_, ?_, Or.inr ?_⟩, ?_⟩
  · show m * 2 ^ (52 - m.log2) < 2 ^ 53
    calc m * 2 ^ (52 - m.log2) < 2 ^ (m.log2 + 1) * 2 ^ (52 - m.log2) := Nat.mul_lt_mul_of_pos_right hb (Nat.two_pow_pos _)
      _ = 2 ^ 53 := by rw [← Nat.pow_add]; congr 1; omega
  · rw [FP.Core.qmin_b64]; omega
  · rw [show FP.Core.b64.qmax = 971 by decide]; omega
  · rw [FP.Core.tails_b64]
    calc 2 ^ 52 = 2 ^ m.log2 * 2 ^ (52 - m.log2) := by rw [← Nat.pow_add]; congr 1; omega
      _ ≤ m * 2 ^ (52 - m.log2) := Nat.mul_le_mul_right _ ha
  · show m * 2 ^ (52 - m.log2) * 2 ^ ((k : Int) + m.log2 - 52 - FP.Core.b64.qmin).toNat = _
    rw [FP.Core.qmin_b64, Nat.mul_assoc, ← Nat.pow_add]
    congr 2
    omega
/-- a rounded number that is at most m * 2^k -/
theorem bd_round {m k : Nat} (h1 : 1 ≤ m) (h2 : m < 2 ^ 53) (h3 : k + Nat.log2 m ≤ 1023) {x : UInt64} {s : Bool} {A B : Nat} {e e0 : Int} (hB : 0 < B) (hx : FP.Core.val64 x = FP.Core.roundRatio FP.Core.b64 s A B e) (h0 : e0 ≤ FP.Core.b64.qmin) (h0e : e0 ≤ e)
    (h : FP.Core.inUnits A e e0 ≤ m * 2 ^ (k + 1074) * 2 ^ (FP.Core.b64.qmin - e0).toNat * B) : bd m k x := by
  obtain ⟨c, q, hf, hz⟩ := bd_rep h1 h2 h3
  have hle := FP.Core.zmag_roundRatio_le FP.Core.good_b64 (s := s) (A := A) (B := B) (e := e) (e0 := e0) hB hf (fun h => by cases h) h0 h0e (by rw [hz]; exact h)
  have hlt := FP.Core.zmag_lt_top FP.Core.good_b64 hf
  have hlt : FP.Core.zmag FP.Core.b64 (.fin false c q) < FP.Core.b64.tails * 2 ^ (FP.Core.b64.exps - 2) := hlt
  rw [hz] at hle hlt
  refine ⟨?_, by show FP.Core.zmag _ _ ≤ _; rw [hx]; exact hle⟩
  rcases FP.Core.roundRatio_cases FP.Core.b64 s A B e with ⟨c', q', hR⟩ | hR
  · exact ⟨s, c', q', hx.trans hR⟩
  · rw [hR] at hle
    exact absurd (Nat.lt_of_le_of_lt hle hlt) (Nat.lt_irrefl _)
theorem bd_sum {m1 k1 m2 k2 m k : Nat} {x y z : UInt64} {d : FP.Core.Datum} (hd : FP.Core.fits FP.Core.b64 d) (hdf : ∃ s c q, d = .fin s c q) (hdz : FP.Core.zmag FP.Core.b64 d ≤ m2 * 2 ^ (k2 + 1074)) (hx : bd m1 k1 x) (hz : FP.Core.val64 z = FP.Core.round FP.Core.b64 (FP.Core.exactSum (FP.Core.val64 x) d))
    (hle : m1 * 2 ^ (k1 + 1074) + m2 * 2 ^ (k2 + 1074) ≤ m * 2 ^ (k + 1074)) (h1 : 1 ≤ m) (h2 : m < 2 ^ 53) (h3 : k + Nat.log2 m ≤ 1023) : bd m k z := by
  obtain ⟨⟨s, c, q, hxv⟩, hxz⟩ := hx
  obtain ⟨t, d', r, rfl⟩ := hdf
  have hxf := FP.Core.val64_fits x
  unfold zm at hxz
  rw [hxv] at hz hxf hxz
  obtain ⟨sg, n, e, he, hq, hs⟩ := FP.Core.sum_units hxf hd
  rw [he] at hz
  refine bd_round h1 h2 h3 (B := 1) (by decide) hz (Int.le_refl _) hq ?_
  rw [Int.sub_self]
  show _ ≤ _ * 1 * 1
  rw [Nat.mul_one, Nat.mul_one]
  refine Nat.le_trans ?_ hle
  have e1 : FP.Core.inUnits n e FP.Core.b64.qmin = (FP.Core.zval FP.Core.b64 (.fin s c q) + FP.Core.zval FP.Core.b64 (.fin t d' r)).natAbs := by rw [← hs, FP.Core.natAbs_signed]
  rw [e1]
  refine Nat.le_trans (Int.natAbs_add_le _ _) ?_
  have a1 : (FP.Core.zval FP.Core.b64 (.fin s c q)).natAbs = FP.Core.zmag FP.Core.b64 (.fin s c q) := FP.Core.natAbs_signed _ _
  have a2 : (FP.Core.zval FP.Core.b64 (.fin t d' r)).natAbs = FP.Core.zmag FP.Core.b64 (.fin t d' r) := FP.Core.natAbs_signed _ _
  rw [a1, a2]
  exact Nat.add_le_add hxz hdz
theorem bd_addG {m1 k1 m2 k2 m k : Nat} {x y : UInt64} (hx : bd m1 k1 x) (hy : bd m2 k2 y) (hle : m1 * 2 ^ (k1 + 1074) + m2 * 2 ^ (k2 + 1074) ≤ m * 2 ^ (k + 1074)) (h1 : 1 ≤ m) (h2 : m < 2 ^ 53) (h3 : k + Nat.log2 m ≤ 1023) : bd m k (FP.dadd x y) :=
  bd_sum (y := y) (FP.Core.val64_fits y) hy.1 hy.2 hx (FP.Core.val64_dadd x y) hle h1 h2 h3
theorem zm_negate (d : FP.Core.Datum) : FP.Core.zmag FP.Core.b64 (FP.Core.negate d) = FP.Core.zmag FP.Core.b64 d := by cases d <;> rfl
theorem fin_negate {x : UInt64} (h : fin x) : ∃ s c q, FP.Core.negate (FP.Core.val64 x) = .fin s c q := by
  obtain ⟨s, c, q, h⟩ := h
  exact ⟨!s, c, q, by rw [h]; rfl⟩
theorem bd_subG {m1 k1 m2 k2 m k : Nat} {x y : UInt64} (hx : bd m1 k1 x) (hy : bd m2 k2 y) (hle : m1 * 2 ^ (k1 + 1074) + m2 * 2 ^ (k2 + 1074) ≤ m * 2 ^ (k + 1074)) (h1 : 1 ≤ m) (h2 : m < 2 ^ 53) (h3 : k + Nat.log2 m ≤ 1023) : bd m k (FP.dsub x y) :=
  bd_sum (y := y) (FP.Core.negate_fits (FP.Core.val64_fits y)) (fin_negate hy.1) (by rw [zm_negate]; exact hy.2) hx (FP.Core.val64_dsub x y) hle h1 h2 h3
theorem two_le {i j k : Nat} (hi : i < k) (hj : j < k) : 1 * 2 ^ (i + 1074) + 1 * 2 ^ (j + 1074) ≤ 1 * 2 ^ (k + 1074) := by
  have a : 2 ^ (i + 1074) ≤ 2 ^ (k - 1 + 1074) := Nat.pow_le_pow_right (by decide) (by omega)
  have b : 2 ^ (j + 1074) ≤ 2 ^ (k - 1 + 1074) := Nat.pow_le_pow_right (by decide) (by omega)
  have c : 2 ^ (k + 1074) = 2 ^ (k - 1 + 1074) * 2 := by rw [← Nat.pow_succ]; congr 1; omega
  rw [Nat.one_mul, Nat.one_mul, Nat.one_mul, c]
  generalize 2 ^ (k - 1 + 1074) = P at *
  generalize 2 ^ (i + 1074) = P1 at *
  generalize 2 ^ (j + 1074) = P2 at *
  omega
theorem log2_1 : Nat.log2 1 = 0 := by decide
theorem bd_add {i j k : Nat} {x y : UInt64} (hx : bd 1 i x) (hy : bd 1 j y) (hi : i < k) (hj : j < k) (hk : k ≤ 1000) : bd 1 k (FP.dadd x y) := bd_addG hx hy (two_le hi hj) (by decide) (by decide) (by rw [log2_1]; omega)
theorem bd_sub {i j k : Nat} {x y : UInt64} (hx : bd 1 i x) (hy : bd 1 j y) (hi : i < k) (hj : j < k) (hk : k ≤ 1000) : bd 1 k (FP.dsub x y) := bd_subG hx hy (two_le hi hj) (by decide) (by decide) (by rw [log2_1]; omega)
theorem bd_mul {i j k : Nat} {x y : UInt64} (hx : bd 1 i x) (hy : bd 1 j y) (hk : i + j ≤ k) (hk2 : k ≤ 1000) : bd 1 k (FP.dmul x y) := by
  obtain ⟨⟨s, c, q, hxv⟩, hxz⟩ := hx
  obtain ⟨⟨t, d, r, hyv⟩, hyz⟩ := hy
  have hxf := FP.Core.val64_fits x
  have hyf := FP.Core.val64_fits y
  have hz := FP.Core.val64_dmul x y
  unfold zm at hxz hyz
  rw [hxv] at hz hxf hxz
  rw [hyv] at hz hyf hyz
  obtain ⟨h1, h2, h3⟩ := FP.Core.product_units hxf hyf
  rw [h1] at hz
  refine bd_round (by decide) (by decide) (by rw [log2_1]; omega) (B := 1) (e0 := 2 * FP.Core.b64.qmin) (by decide) hz (by rw [FP.Core.qmin_b64]; decide) h2 ?_
  rw [h3, Nat.mul_one, FP.Core.qmin_b64, show (-1074 - 2 * -1074 : Int).toNat = 1074 by decide, Nat.one_mul]
  refine Nat.le_trans (Nat.mul_le_mul hxz hyz) ?_
  rw [Nat.one_mul, Nat.one_mul, ← Nat.pow_add, ← Nat.pow_add]
  exact Nat.pow_le_pow_right (by decide) (by omega)
/-- at least 2^(a-1074) in size -/
def lbd (a : Nat) (x : UInt64) : Prop := fin x ∧ 2 ^ a ≤ zm x
theorem bd_div {i g k : Nat} {x y : UInt64} (hx : bd 1 i x) (hy : lbd g y) (hk : i + 1074 ≤ k + g) (hk2 : k ≤ 1000) : bd 1 k (FP.ddiv x y) := by
  obtain ⟨⟨s, c, q, hxv⟩, hxz⟩ := hx
  obtain ⟨⟨t, d, r, hyv⟩, hyz⟩ := hy
  have hxf := FP.Core.val64_fits x
  have hyf := FP.Core.val64_fits y
  have hz := FP.Core.val64_ddiv x y
  unfold zm at hxz hyz
  rw [hxv] at hz hxf hxz
  rw [hyv] at hz hyf hyz
  have hd0 : d ≠ 0 := by
    intro h
    subst h
    have h1 : FP.Core.zmag FP.Core.b64 (.fin t 0 r) = 0 := by show 0 * _ = 0; exact Nat.zero_mul _
    rw [h1] at hyz
    have := Nat.two_pow_pos g
    omega
  have hz : FP.Core.val64 (FP.ddiv x y) = FP.Core.roundRatio FP.Core.b64 (s != t) c d (q - r) := by
    rw [hz]
    show (if d = 0 then _ else _) = _
    rw [if_neg hd0]
  have hq := hxf.2.1
  have hr := hyf.2.1
  have hr2 := hyf.2.2.1
  rw [FP.Core.qmin_b64] at hq hr
  rw [show FP.Core.b64.qmax = 971 by decide] at hr2
  refine bd_round (by decide) (by decide) (by rw [log2_1]; omega) (e0 := -1074 - r - 1074) (by omega) hz (by rw [FP.Core.qmin_b64]; omega) (by omega) ?_
  have e1 : FP.Core.inUnits c (q - r) (-1074 - r - 1074) = FP.Core.zmag FP.Core.b64 (.fin s c q) * 2 ^ 1074 := by
    show c * 2 ^ (q - r - (-1074 - r - 1074)).toNat = c * 2 ^ (q - FP.Core.b64.qmin).toNat * 2 ^ 1074
    rw [FP.Core.qmin_b64, Nat.mul_assoc, ← Nat.pow_add]
    congr 2
    omega
  have e2 : 2 ^ (FP.Core.b64.qmin - (-1074 - r - 1074)).toNat * d = FP.Core.zmag FP.Core.b64 (.fin t d r) := by
    show _ = d * 2 ^ (r - FP.Core.b64.qmin).toNat
    rw [FP.Core.qmin_b64, Nat.mul_comm]
    congr 2
    omega
  rw [e1, Nat.mul_assoc, e2]
  calc FP.Core.zmag FP.Core.b64 (.fin s c q) * 2 ^ 1074 ≤ 1 * 2 ^ (i + 1074) * 2 ^ 1074 := Nat.mul_le_mul_right _ hxz
    _ = 2 ^ (i + 1074 + 1074) := by rw [Nat.one_mul, ← Nat.pow_add]
    _ ≤ 2 ^ (k + 1074 + g) := Nat.pow_le_pow_right (by decide) (by omega)
    _ = 2 ^ (k + 1074) * 2 ^ g := by rw [Nat.pow_add]
    _ ≤ 1 * 2 ^ (k + 1074) * FP.Core.zmag FP.Core.b64 (.fin t d r) := by
      rw [Nat.one_mul]
      exact Nat.mul_le_mul_left _ hyz
theorem val64_neg (x : UInt64) : FP.Core.val64 (FP.dneg x) = FP.Core.negate (FP.Core.val64 x) := FP.val64_dneg x
theorem zm_neg (x : UInt64) : zm (FP.dneg x) = zm x := by unfold zm; rw [val64_neg, zm_negate]
theorem fin_neg {x : UInt64} (h : fin x) : fin (FP.dneg x) := by
  obtain ⟨s, c, q, h⟩ := fin_negate h
  exact ⟨s, c, q, by rw [val64_neg]; exact h⟩
theorem bd_neg {m k : Nat} {x : UInt64} (h : bd m k x) : bd m k (FP.dneg x) := ⟨fin_neg h.1, by rw [zm_neg]; exact h.2⟩
theorem zv_neg (x : UInt64) : zv (FP.dneg x) = -zv x := by unfold zv; rw [val64_neg, FP.Core.zval_negate]
theorem fin_c {x : UInt64} (h : Nat.blt (x.toNat % 2 ^ 63) 9218868437227405312 = true) : fin x := (FP.Core.fin_bits x).mpr (Nat.le_of_ble_eq_true h)
theorem bd_c {m k : Nat} {x : UInt64} (h : Nat.blt (x.toNat % 2 ^ 63) 9218868437227405312 = true) (h2 : Nat.ble (zm x) (m * 2 ^ (k + 1074)) = true) : bd m k x := ⟨fin_c h, Nat.le_of_ble_eq_true h2⟩
theorem lbd_c {g : Nat} {x : UInt64} (h : Nat.blt (x.toNat % 2 ^ 63) 9218868437227405312 = true) (h2 : Nat.ble (2 ^ g) (zm x) = true) : lbd g x := ⟨fin_c h, Nat.le_of_ble_eq_true h2⟩
/-! comparisons -/
abbrev dlt (x y : UInt64) : Prop := FP.dcmp x y = some .lt
abbrev dgt (x y : UInt64) : Prop := FP.dcmp x y = some .gt
abbrev deq (x y : UInt64) : Prop := FP.dcmp x y = some .eq

theorem fin_dcmp {x y : UInt64} (hx : fin x) (hy : fin y) : FP.dcmp x y = some (compare (zv x) (zv y)) := FP.Core.dcmp_zval hx.ne hy.ne
theorem dlt_iff {x y : UInt64} (hx : fin x) (hy : fin y) : dlt x y ↔ zv x < zv y := by
  show FP.dcmp x y = some .lt ↔ _
  rw [fin_dcmp hx hy, Option.some_inj, FP.Core.compare_lt_iff]
theorem dgt_iff {x y : UInt64} (hx : fin x) (hy : fin y) : dgt x y ↔ zv y < zv x := by
  show FP.dcmp x y = some .gt ↔ _
  rw [fin_dcmp hx hy, Option.some_inj, FP.Core.compare_gt_iff]
theorem deq_iff {x y : UInt64} (hx : fin x) (hy : fin y) : deq x y ↔ zv x = zv y := by
  show FP.dcmp x y = some .eq ↔ _
  rw [fin_dcmp hx hy, Option.some_inj, FP.Core.compare_eq_iff]
section XB
variable {p : Program} {l : Launch} {e : Env} {R : Room} {s : State} {m : MethodId} {args : Array Value} {below : List Frame} {meth : Method} {c : Code} {H : Heap} {locs : List Loc} {cells slots : Nat} {Q : State → Prop}
variable {cc : ByteArray} {pc : Nat} {ls : Array Slot} {rest : List Value} {x y : UInt64} {off : Int} {tgt : Nat}
theorem cv_gge (o : Option Ordering) : 0 ≤ Op.cmpValue o .g ↔ ¬ o = some .lt := by rcases o with _ | _ | _ | _ <;> decide
theorem cv_ggt (o : Option Ordering) : 0 < Op.cmpValue o .g ↔ ¬ (o = some .lt ∨ o = some .eq) := by rcases o with _ | _ | _ | _ <;> decide
theorem cv_gle (o : Option Ordering) : Op.cmpValue o .g ≤ 0 ↔ (o = some .lt ∨ o = some .eq) := by rcases o with _ | _ | _ | _ <;> decide
theorem cv_leq (o : Option Ordering) : Op.cmpValue o .l = 0 ↔ o = some .eq := by rcases o with _ | _ | _ | _ <;> decide
theorem cv_lgt (o : Option Ordering) : 0 < Op.cmpValue o .l ↔ o = some .gt := by rcases o with _ | _ | _ | _ <;> decide
theorem cv_lle (o : Option Ordering) : Op.cmpValue o .l ≤ 0 ↔ ¬ o = some .gt := by rcases o with _ | _ | _ | _ <;> decide
theorem cv_llt (o : Option Ordering) : Op.cmpValue o .l < 0 ↔ ¬ (o = some .gt ∨ o = some .eq) := by rcases o with _ | _ | _ | _ <;> decide
theorem xg_ge (hx : p.tables.exec = Jvm.exec) (hb : c.code = cc) (hd1 : decode cc pc = .ok (.dcmp .g, 1)) (hd2 : decode cc (pc + 1) = .ok (.ifCond .ge off, 3)) (ht : ((pc + 1 : Nat) : Int) + off = (tgt : Int))
    (kt : ¬ dlt x y → W p l e R s m args below meth c H locs cells slots Q (F0 m tgt ls rest)) (kf : dlt x y → W p l e R s m args below meth c H locs cells slots Q (F0 m (pc + 1 + 3) ls rest)) : W p l e R s m args below meth c H locs cells slots Q (F0 m pc ls (.double y :: .double x :: rest)) :=
  lv_dcmp hx hb hd1 (lv_if_ge hx hb hd2 ht (fun h => kt ((cv_gge _).mp h)) (fun h => kf (Decidable.byContradiction fun q => h ((cv_gge _).mpr q))))
theorem xg_gt (hx : p.tables.exec = Jvm.exec) (hb : c.code = cc) (hd1 : decode cc pc = .ok (.dcmp .g, 1)) (hd2 : decode cc (pc + 1) = .ok (.ifCond .gt off, 3)) (ht : ((pc + 1 : Nat) : Int) + off = (tgt : Int))
    (kt : ¬ (dlt x y ∨ deq x y) → W p l e R s m args below meth c H locs cells slots Q (F0 m tgt ls rest)) (kf : (dlt x y ∨ deq x y) → W p l e R s m args below meth c H locs cells slots Q (F0 m (pc + 1 + 3) ls rest)) : W p l e R s m args below meth c H locs cells slots Q (F0 m pc ls (.double y :: .double x :: rest)) :=
  lv_dcmp hx hb hd1 (lv_if_gt hx hb hd2 ht (fun h => kt ((cv_ggt _).mp h)) (fun h => kf (Decidable.byContradiction fun q => h ((cv_ggt _).mpr q))))
theorem xg_le (hx : p.tables.exec = Jvm.exec) (hb : c.code = cc) (hd1 : decode cc pc = .ok (.dcmp .g, 1)) (hd2 : decode cc (pc + 1) = .ok (.ifCond .le off, 3)) (ht : ((pc + 1 : Nat) : Int) + off = (tgt : Int))
    (kt : (dlt x y ∨ deq x y) → W p l e R s m args below meth c H locs cells slots Q (F0 m tgt ls rest)) (kf : ¬ (dlt x y ∨ deq x y) → W p l e R s m args below meth c H locs cells slots Q (F0 m (pc + 1 + 3) ls rest)) : W p l e R s m args below meth c H locs cells slots Q (F0 m pc ls (.double y :: .double x :: rest)) :=
  lv_dcmp hx hb hd1 (lv_if_le hx hb hd2 ht (fun h => kt ((cv_gle _).mp h)) (fun h => kf (fun q => h ((cv_gle _).mpr q))))
theorem xl_eq (hx : p.tables.exec = Jvm.exec) (hb : c.code = cc) (hd1 : decode cc pc = .ok (.dcmp .l, 1)) (hd2 : decode cc (pc + 1) = .ok (.ifCond .eq off, 3)) (ht : ((pc + 1 : Nat) : Int) + off = (tgt : Int))
    (kt : deq x y → W p l e R s m args below meth c H locs cells slots Q (F0 m tgt ls rest)) (kf : ¬ deq x y → W p l e R s m args below meth c H locs cells slots Q (F0 m (pc + 1 + 3) ls rest)) : W p l e R s m args below meth c H locs cells slots Q (F0 m pc ls (.double y :: .double x :: rest)) :=
  lv_dcmp hx hb hd1 (lv_if_eq hx hb hd2 ht (fun h => kt ((cv_leq _).mp h)) (fun h => kf (fun q => h ((cv_leq _).mpr q))))
theorem xl_gt (hx : p.tables.exec = Jvm.exec) (hb : c.code = cc) (hd1 : decode cc pc = .ok (.dcmp .l, 1)) (hd2 : decode cc (pc + 1) = .ok (.ifCond .gt off, 3)) (ht : ((pc + 1 : Nat) : Int) + off = (tgt : Int))
    (kt : dgt x y → W p l e R s m args below meth c H locs cells slots Q (F0 m tgt ls rest)) (kf : ¬ dgt x y → W p l e R s m args below meth c H locs cells slots Q (F0 m (pc + 1 + 3) ls rest)) : W p l e R s m args below meth c H locs cells slots Q (F0 m pc ls (.double y :: .double x :: rest)) :=
  lv_dcmp hx hb hd1 (lv_if_gt hx hb hd2 ht (fun h => kt ((cv_lgt _).mp h)) (fun h => kf (fun q => h ((cv_lgt _).mpr q))))
theorem xl_le (hx : p.tables.exec = Jvm.exec) (hb : c.code = cc) (hd1 : decode cc pc = .ok (.dcmp .l, 1)) (hd2 : decode cc (pc + 1) = .ok (.ifCond .le off, 3)) (ht : ((pc + 1 : Nat) : Int) + off = (tgt : Int))
    (kt : ¬ dgt x y → W p l e R s m args below meth c H locs cells slots Q (F0 m tgt ls rest)) (kf : dgt x y → W p l e R s m args below meth c H locs cells slots Q (F0 m (pc + 1 + 3) ls rest)) : W p l e R s m args below meth c H locs cells slots Q (F0 m pc ls (.double y :: .double x :: rest)) :=
  lv_dcmp hx hb hd1 (lv_if_le hx hb hd2 ht (fun h => kt ((cv_lle _).mp h)) (fun h => kf (Decidable.byContradiction fun q => h ((cv_lle _).mpr q))))
theorem xl_lt (hx : p.tables.exec = Jvm.exec) (hb : c.code = cc) (hd1 : decode cc pc = .ok (.dcmp .l, 1)) (hd2 : decode cc (pc + 1) = .ok (.ifCond .lt off, 3)) (ht : ((pc + 1 : Nat) : Int) + off = (tgt : Int))
    (kt : ¬ (dgt x y ∨ deq x y) → W p l e R s m args below meth c H locs cells slots Q (F0 m tgt ls rest)) (kf : (dgt x y ∨ deq x y) → W p l e R s m args below meth c H locs cells slots Q (F0 m (pc + 1 + 3) ls rest)) : W p l e R s m args below meth c H locs cells slots Q (F0 m pc ls (.double y :: .double x :: rest)) :=
  lv_dcmp hx hb hd1 (lv_if_lt hx hb hd2 ht (fun h => kt ((cv_llt _).mp h)) (fun h => kf (Decidable.byContradiction fun q => h ((cv_llt _).mpr q))))
theorem xl_ne (hx : p.tables.exec = Jvm.exec) (hb : c.code = cc) (hd1 : decode cc pc = .ok (.dcmp .l, 1)) (hd2 : decode cc (pc + 1) = .ok (.ifCond .ne off, 3)) (ht : ((pc + 1 : Nat) : Int) + off = (tgt : Int))
    (kt : ¬ deq x y → W p l e R s m args below meth c H locs cells slots Q (F0 m tgt ls rest)) (kf : deq x y → W p l e R s m args below meth c H locs cells slots Q (F0 m (pc + 1 + 3) ls rest)) : W p l e R s m args below meth c H locs cells slots Q (F0 m pc ls (.double y :: .double x :: rest)) :=
  lv_dcmp hx hb hd1 (lv_if_ne hx hb hd2 ht (fun h => kt (fun q => h ((cv_leq _).mpr q))) (fun h => kf ((cv_leq _).mp h)))
theorem xpc {q : Nat} {st : List Value} (h : pc = q) (k : W p l e R s m args below meth c H locs cells slots Q (F0 m q ls st)) : W p l e R s m args below meth c H locs cells slots Q (F0 m pc ls st) := h ▸ k
theorem xeqd {x y : UInt64} (h : x = y) (k : W p l e R s m args below meth c H locs cells slots Q (F0 m pc ls (.double y :: rest))) : W p l e R s m args below meth c H locs cells slots Q (F0 m pc ls (.double x :: rest)) := h ▸ k
theorem xeqi {x y : Int32} (h : x = y) (k : W p l e R s m args below meth c H locs cells slots Q (F0 m pc ls (.int y :: rest))) : W p l e R s m args below meth c H locs cells slots Q (F0 m pc ls (.int x :: rest)) := h ▸ k
/-- a point where ways meet -/
theorem xcut {I : Heap → List Loc → Array Slot → Prop} {pc2 : Nat} {rest2 : List Value} (k : ∀ (H : Heap) (locs : List Loc) (ls : Array Slot), I H locs ls → W p l e R s m args below meth c H locs cells slots Q (F0 m pc2 ls rest2))
    (g : (∀ (H : Heap) (locs : List Loc) (ls : Array Slot), I H locs ls → W p l e R s m args below meth c H locs cells slots Q (F0 m pc2 ls rest2)) → W p l e R s m args below meth c H locs cells slots Q (F0 m pc ls rest)) : W p l e R s m args below meth c H locs cells slots Q (F0 m pc ls rest) := g k
/-- a loop that counts up to n -/
theorem xfor {I : Nat → Heap → List Loc → Array Slot → Prop} (n i0 : Nat) (h0 : I i0 H locs ls) (hi : i0 ≤ n)
    (step : ∀ i, i < n → (∀ (H : Heap) (locs : List Loc) (ls : Array Slot), I (i + 1) H locs ls → W p l e R s m args below meth c H locs cells slots Q (F0 m pc ls rest)) → ∀ (H : Heap) (locs : List Loc) (ls : Array Slot), I i H locs ls → W p l e R s m args below meth c H locs cells slots Q (F0 m pc ls rest))
    (exit : ∀ (H : Heap) (locs : List Loc) (ls : Array Slot), I n H locs ls → W p l e R s m args below meth c H locs cells slots Q (F0 m pc ls rest)) : W p l e R s m args below meth c H locs cells slots Q (F0 m pc ls rest) := by
  have key : ∀ (k i : Nat), i + k = n → ∀ (H : Heap) (locs : List Loc) (ls : Array Slot), I i H locs ls → W p l e R s m args below meth c H locs cells slots Q (F0 m pc ls rest) := by
    intro k
    induction k with
    | zero =>
      intro i hk H locs ls h
      have : i = n := by omega
      subst this
      exact exit H locs ls h
    | succ k ih =>
      intro i hk H locs ls h
      exact step i (by omega) (fun H locs ls h => ih (i + 1) (by omega) H locs ls h) H locs ls h
  exact key (n - i0) i0 (by omega) H locs ls h0
/-- a loop that counts down: i0 rounds are left -/
theorem xforD {I : Nat → Heap → List Loc → Array Slot → Prop} (i0 : Nat) (h0 : I i0 H locs ls)
    (step : ∀ i, i < i0 → (∀ (H : Heap) (locs : List Loc) (ls : Array Slot), I i H locs ls → W p l e R s m args below meth c H locs cells slots Q (F0 m pc ls rest)) → ∀ (H : Heap) (locs : List Loc) (ls : Array Slot), I (i + 1) H locs ls → W p l e R s m args below meth c H locs cells slots Q (F0 m pc ls rest))
    (exit : ∀ (H : Heap) (locs : List Loc) (ls : Array Slot), I 0 H locs ls → W p l e R s m args below meth c H locs cells slots Q (F0 m pc ls rest)) : W p l e R s m args below meth c H locs cells slots Q (F0 m pc ls rest) := by
  have key : ∀ (i : Nat), i ≤ i0 → ∀ (H : Heap) (locs : List Loc) (ls : Array Slot), I i H locs ls → W p l e R s m args below meth c H locs cells slots Q (F0 m pc ls rest) := by
    intro i
    induction i with
    | zero => intro _ H locs ls h; exact exit H locs ls h
    | succ i ih => intro hk H locs ls h; exact step i (by omega) (fun H locs ls h => ih (by omega) H locs ls h) H locs ls h
  exact key i0 (Nat.le_refl _) H locs ls h0
end XB
def mix {α : Type} (n : Nat) (g f : Nat → α) : Nat → α := fun j => if j < n then g j else f j
theorem mix_0 {α : Type} (g f : Nat → α) : mix 0 g f = f := by funext j; simp [mix]
theorem mix_lt {α : Type} {n j : Nat} {g f : Nat → α} (h : j < n) : mix n g f j = g j := by simp [mix, h]
theorem mix_ge {α : Type} {n j : Nat} {g f : Nat → α} (h : n ≤ j) : mix n g f j = f j := by simp [mix, Nat.not_lt.mpr h]
theorem mix_s {α : Type} {i : Nat} {g f f' : Nat → α} {x : α} (hf : f' = mix i g f) (hx : x = g i) : vf_upd f' i x = mix (i + 1) g f := by
  subst hf
  subst hx
  funext j
  by_cases h : j = i
  · subst h; simp [vf_upd, mix]
  · by_cases h2 : j < i
    · simp [vf_upd, mix, h, h2, Nat.lt_succ_of_lt h2]
    · simp [vf_upd, mix, h, h2, show ¬ j < i + 1 by omega]
theorem mix_mix {α : Type} {n : Nat} {g f h : Nat → α} : mix n g (mix n h f) = mix n g f := by
  funext j
  by_cases h2 : j < n <;> simp [mix, h2]
