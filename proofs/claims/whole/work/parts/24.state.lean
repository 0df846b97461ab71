/-! sums in order -/
theorem zle_add {x y V : UInt64} (hx : fin x) (hy : fin y) (hV : fin V) (h : zv x + zv y ≤ zv V) : zv (FP.dadd x y) ≤ zv V := by
  show FP.Core.zval _ (FP.Core.val64 (FP.Core.dadd x y)) ≤ _
  rw [FP.Core.val64_dadd]
  exact FP.Core.sum_le FP.Core.good_b64 hx hy (FP.Core.val64_fits x) (FP.Core.val64_fits y) (FP.Core.val64_fits V) hV.ne h
theorem zge_add {x y V : UInt64} (hx : fin x) (hy : fin y) (hV : fin V) (h : zv V ≤ zv x + zv y) : zv V ≤ zv (FP.dadd x y) := by
  show _ ≤ FP.Core.zval _ (FP.Core.val64 (FP.Core.dadd x y))
  rw [FP.Core.val64_dadd]
  exact FP.Core.sum_ge FP.Core.good_b64 hx hy (FP.Core.val64_fits x) (FP.Core.val64_fits y) (FP.Core.val64_fits V) hV.ne h
theorem zle_sub {x y V : UInt64} (hx : fin x) (hy : fin y) (hV : fin V) (h : zv x - zv y ≤ zv V) : zv (FP.dsub x y) ≤ zv V := by
  show FP.Core.zval _ (FP.Core.val64 (FP.Core.dsub x y)) ≤ _
  rw [FP.Core.val64_dsub]
  exact FP.Core.sum_le FP.Core.good_b64 hx (fin_negate hy) (FP.Core.val64_fits x) (FP.Core.negate_fits (FP.Core.val64_fits y)) (FP.Core.val64_fits V) hV.ne (by rw [FP.Core.zval_negate]; exact h)
theorem zge_sub {x y V : UInt64} (hx : fin x) (hy : fin y) (hV : fin V) (h : zv V ≤ zv x - zv y) : zv V ≤ zv (FP.dsub x y) := by
  show _ ≤ FP.Core.zval _ (FP.Core.val64 (FP.Core.dsub x y))
  rw [FP.Core.val64_dsub]
  exact FP.Core.sum_ge FP.Core.good_b64 hx (fin_negate hy) (FP.Core.val64_fits x) (FP.Core.negate_fits (FP.Core.val64_fits y)) (FP.Core.val64_fits V) hV.ne (by rw [FP.Core.zval_negate]; exact h)
theorem z0 : zv FP.dconst0 = 0 := by decide +kernel
theorem zmul_pos {x y : UInt64} (hx : fin x) (hy : fin y) (h1 : 0 ≤ zv x) (h2 : 0 ≤ zv y) : 0 ≤ zv (FP.dmul x y) := by
  obtain ⟨s, c, q, hxv⟩ := hx
  obtain ⟨t, d, r, hyv⟩ := hy
  have hxf := FP.Core.val64_fits x
  have hyf := FP.Core.val64_fits y
  show 0 ≤ FP.Core.zval _ (FP.Core.val64 (FP.Core.dmul x y))
  rw [FP.Core.val64_dmul]
  unfold zv at h1 h2
  rw [hxv] at h1 hxf ⊢
  rw [hyv] at h2 hyf ⊢
  obtain ⟨e1, e2, e3⟩ := FP.Core.product_units hxf hyf
  rw [e1]
  have hz := FP.Core.zval_round_ge FP.Core.good_b64 (s := s != t) (c := c * d) (q := q + r) (e0 := 2 * FP.Core.b64.qmin) (V := FP.Core.val64 FP.dconst0) (FP.Core.val64_fits _) b_0.1.ne (by rw [FP.Core.qmin_b64]; decide) e2 (by
    have : FP.Core.zval FP.Core.b64 (FP.Core.val64 FP.dconst0) = 0 := z0
    rw [this, Int.zero_mul, e3]
    have hs : FP.Core.signed (s != t) (FP.Core.zmag FP.Core.b64 (.fin s c q) * FP.Core.zmag FP.Core.b64 (.fin t d r)) = FP.Core.zval FP.Core.b64 (.fin s c q) * FP.Core.zval FP.Core.b64 (.fin t d r) := FP.Core.signed_xor _ _ _ _
    rw [hs]
    exact Int.mul_nonneg h1 h2)
  have h0 : FP.Core.zval FP.Core.b64 (FP.Core.val64 FP.dconst0) = 0 := z0
  rw [h0] at hz
  exact hz
theorem bd_of_zv {x : UInt64} {K : Nat} (hx : fin x) (h0 : 0 ≤ zv x) (h : zv x ≤ ((2 ^ (K + 1074) : Nat) : Int)) : bd 1 K x := by
  refine ⟨hx, ?_⟩
  have h4 := zm_zv x
  rw [Nat.one_mul]
  generalize 2 ^ (K + 1074) = P at *
  omega
theorem zv_le_bd {x : UInt64} {K : Nat} (h : bd 1 K x) : zv x ≤ ((2 ^ (K + 1074) : Nat) : Int) ∧ -((2 ^ (K + 1074) : Nat) : Int) ≤ zv x := by
  have h4 := zm_zv x
  have h2 := h.2
  rw [Nat.one_mul] at h2
  generalize 2 ^ (K + 1074) = P at *
  omega
/-- a whole number of at most 53 binary digits as a double -/
theorem whole_d (m : Nat) (h1 : 1 ≤ m) (h2 : m < 2 ^ 53) : ∃ V : UInt64, fin V ∧ zv V = ((m * 2 ^ 1074 : Nat) : Int) := by
  have hl : m.log2 ≤ 52 := by
    have := (Nat.log2_lt (by omega : m ≠ 0)).mpr h2
    omega
  obtain ⟨c, q, hf, hz⟩ := bd_rep (k := 0) h1 h2 (by omega)
  refine ⟨FP.Core.of64 (.fin false c q), ⟨false, c, q, FP.Core.val64_of64 hf⟩, ?_⟩
  show FP.Core.zval _ (FP.Core.val64 (FP.Core.of64 _)) = _
  rw [FP.Core.val64_of64 hf]
  show FP.Core.signed false _ = _
  rw [hz, Nat.zero_add]
  rfl
/-! the state of a system, as later calls show it -/
abbrev St : Type := Sys × UInt64 × UInt64 × UInt64 × UInt64 × UInt64 × UInt64 × (Nat → UInt64) × (Nat → UInt64) × (Nat → UInt64) × (Nat → UInt64) × (Nat → UInt64) × Nat × Nat × Int32 × Int32 × Bool × Bool × Bool
abbrev gσ (S : St) : Sys := S.1
abbrev gt (S : St) : UInt64 := S.2.1
abbrev gh (S : St) : UInt64 := S.2.2.1
abbrev gt0 (S : St) : UInt64 := S.2.2.2.1
abbrev gsp (S : St) : UInt64 := S.2.2.2.2.1
abbrev gtol (S : St) : UInt64 := S.2.2.2.2.2.1
abbrev glv (S : St) : UInt64 := S.2.2.2.2.2.2.1
abbrev gy (S : St) : Nat → UInt64 := S.2.2.2.2.2.2.2.1
abbrev gy0 (S : St) : Nat → UInt64 := S.2.2.2.2.2.2.2.2.1
abbrev gg (S : St) : Nat → UInt64 := S.2.2.2.2.2.2.2.2.2.1
abbrev gq (S : St) : Nat → UInt64 := S.2.2.2.2.2.2.2.2.2.2.1
abbrev gtm (S : St) : Nat → UInt64 := S.2.2.2.2.2.2.2.2.2.2.2.1
abbrev gev (S : St) : Nat := S.2.2.2.2.2.2.2.2.2.2.2.2.1
abbrev gwh (S : St) : Nat := S.2.2.2.2.2.2.2.2.2.2.2.2.2.1
abbrev gtk (S : St) : Int32 := S.2.2.2.2.2.2.2.2.2.2.2.2.2.2.1
abbrev grf (S : St) : Int32 := S.2.2.2.2.2.2.2.2.2.2.2.2.2.2.2.1
abbrev ggo (S : St) : Bool := S.2.2.2.2.2.2.2.2.2.2.2.2.2.2.2.2.1
abbrev gkn (S : St) : Bool := S.2.2.2.2.2.2.2.2.2.2.2.2.2.2.2.2.2.1
abbrev gon (S : St) : Bool := S.2.2.2.2.2.2.2.2.2.2.2.2.2.2.2.2.2.2
def rfS (S : St) : St := (gσ S, gt S, gh S, gt0 S, gsp S, gtol S, glv S, gy S, gy0 S, gg S, gq S, gtm S, gev S, gwh S, gtk S, grf S + nI 1, false, gkn S, gon S)
def setH (S : St) (h : UInt64) : St := (gσ S, gt S, h, gt0 S, gsp S, gtol S, glv S, gy S, gy0 S, gg S, gq S, gtm S, gev S, gwh S, gtk S, grf S, ggo S, gkn S, gon S)
def takeS (S : St) (m : Nat) (r : UInt64) (z : Nat → UInt64) (tb : UInt64) : St := (gσ S, tb, gh S, gt S, r, gtol S, glv S, mix (sn (gσ S)) z (gy S), mix (sn (gσ S)) (gy S) (gy0 S), mix (sn (gσ S)) (fs (gσ S) (gt S) (gy S)) (gg S), mix (sn (gσ S)) (fs (gσ S) (FP.dadd (gt S) r) z) (gq S), lookT (gon S) (glv S) (gy S (gwh S)) (fs (gσ S) (gt S) (gy S) (gwh S)) (z (gwh S)) (fs (gσ S) (FP.dadd (gt S) r) z (gwh S)) r (gt S) (gev S) (gtm S), lookN (gon S) (glv S) (gy S (gwh S)) (z (gwh S)) (gev S), gwh S, gtk S + nI 1, grf S, decide (m = 3), true, gon S)
/-- where a step with size r would lead -/
abbrev tryR (S : St) (m : Nat) (r : UInt64) : Option (Nat → UInt64) := stepR (gσ S) (gt S) (gy S) r (gg S) (ggo S && decide (deq (gsp S) r)) m
abbrev errP (S : St) (r : UInt64) : UInt64 := mxv (pae (gσ S) (gt S) (gy S) r) (sn (gσ S))
/-- the size of the next step on the way to a time -/
def arr (S : St) (time : UInt64) : Bool := decide (dgt (FP.dadd (gt S) (gh S)) time)
def rch (S : St) (time : UInt64) : UInt64 := if arr S time then FP.dsub time (gt S) else gh S
def grow (S : St) (m : Nat) (e r : UInt64) : St := if m = 2 ∧ dlt e (FP.ddiv (gtol S) k16) then setH S (if dgt (FP.dmul k2 r) FP.dconst1 then FP.dconst1 else FP.dmul k2 r) else S
/-- one try on the way to a time: the state behind it, and whether going on may go on -/
def towS (S : St) (m : Nat) (time : UInt64) : St × Bool := match tryR S m (rch S time) with
  | none => (rfS S, false)
  | some z => if m = 2 ∧ dgt (errP S (rch S time)) (gtol S) then (setH (rfS S) (FP.dmul k0_5 (rch S time)), !decide (dlt (FP.dmul k0_5 (rch S time)) k1em06)) else (grow (takeS S m (rch S time) z (if arr S time then time else FP.dadd (gt S) (rch S time))) m (errP S (rch S time)) (rch S time), true)
/-- what holds between calls: B bounds the time (in units of the least double), E the events -/
def Inv (B : Int) (E : Nat) (S : St) : Prop := oks (gσ S) ∧ (fin (gt S) ∧ 0 ≤ zv (gt S) ∧ zv (gt S) ≤ B) ∧ (bd 1 2 (gh S) ∧ 0 ≤ zv (gh S)) ∧ (bd 1 2 (gtol S) ∧ 0 < zv (gtol S)) ∧ (∀ i, i < sn (gσ S) → bd 1 20 (gy S i)) ∧ (gkn S = true → (∀ i, i < sn (gσ S) → bd 1 20 (gy0 S i) ∧ bd 1 50 (gg S i) ∧ bd 1 50 (gq S i)) ∧ bd 1 2 (gsp S) ∧ bd 1 16 (gt0 S)) ∧ (ggo S = true → gkn S = true) ∧ (gon S = true → gwh S < sn (gσ S) ∧ bd 1 10 (glv S)) ∧ gev S ≤ E
def BT : Int := ((53352 * 2 ^ 1074 : Nat) : Int)
theorem BT_le : BT ≤ ((2 ^ (16 + 1074) : Nat) : Int) := by
  unfold BT
  exact Int.ofNat_le.mpr (by decide +kernel)
section INV
variable {B : Int} {E m : Nat} {S : St} {r time tb : UInt64} {z : Nat → UInt64}
theorem Inv.t (h : Inv B E S) (hB : B ≤ BT) : bd 1 16 (gt S) := bd_of_zv h.2.1.1 h.2.1.2.1 (Int.le_trans h.2.1.2.2 (Int.le_trans hB BT_le))
theorem Inv.st (h : Inv B E S) (hB : B ≤ BT) (hr : bd 1 2 r) : okst (gσ S) (gt S) (gy S) r := ⟨h.1, h.t hB, hr, h.2.2.2.2.1⟩
theorem Inv.g (h : Inv B E S) : (ggo S && decide (deq (gsp S) r)) = true → ∀ i, i < sn (gσ S) → bd 1 50 (gg S i) := fun hb i hi => by
  have h1 : ggo S = true := by
    cases hg : ggo S with
    | true => rfl
    | false => rw [hg] at hb; cases hb
  exact ((h.2.2.2.2.2.1 (h.2.2.2.2.2.2.1 h1)).1 i hi).2.1
theorem Inv.mono {B' : Int} {E' : Nat} (h : Inv B E S) (hB : B ≤ B') (hE : E ≤ E') : Inv B' E' S := by
  obtain ⟨a1, a2, a3, a4, a5, a6, a7, a8, a9⟩ := h
  exact ⟨a1, ⟨a2.1, a2.2.1, Int.le_trans a2.2.2 hB⟩, a3, a4, a5, a6, a7, a8, Nat.le_trans a9 hE⟩
theorem Inv.rf (h : Inv B E S) : Inv B E (rfS S) := by
  obtain ⟨a1, a2, a3, a4, a5, a6, a7, a8, a9⟩ := h
  exact ⟨a1, a2, a3, a4, a5, a6, fun q => (Bool.false_ne_true q).elim, a8, a9⟩
theorem Inv.h (h : Inv B E S) {x : UInt64} (hx : bd 1 2 x ∧ 0 ≤ zv x) : Inv B E (setH S x) := by
  obtain ⟨a1, a2, a3, a4, a5, a6, a7, a8, a9⟩ := h
  exact ⟨a1, a2, hx, a4, a5, a6, a7, a8, a9⟩
theorem lookN_le {on : Bool} {lv a c : UInt64} {ev : Nat} : lookN on lv a c ev ≤ ev + 1 := by
  unfold lookN
  split <;> omega
theorem Inv.take {B' : Int} (h : Inv B E S) (hB : B ≤ BT) (hr : bd 1 2 r) (hz : tryR S m r = some z) (htb : fin tb ∧ 0 ≤ zv tb ∧ zv tb ≤ B') : Inv B' (E + 1) (takeS S m r z tb) := by
  have hk := h.st hB hr
  have hzb := stepR_bd hk h.g hz
  have ht := h.t hB
  obtain ⟨a1, a2, a3, a4, a5, a6, a7, a8, a9⟩ := h
  refine ⟨a1, htb, a3, a4, fun i hi => ?_, fun _ => ⟨fun i hi => ⟨?_, ?_, ?_⟩, hr, ht⟩, fun _ => rfl, a8, ?_⟩
  · have hi : i < sn (gσ S) := hi
    show bd 1 20 (mix _ _ _ i)
    rw [mix_lt hi]
    exact hzb i hi
  · have hi : i < sn (gσ S) := hi
    show bd 1 20 (mix _ _ _ i)
    rw [mix_lt hi]
    exact a5 i hi
  · have hi : i < sn (gσ S) := hi
    show bd 1 50 (mix _ _ _ i)
    rw [mix_lt hi]
    exact f0_bd hk
  · have hi : i < sn (gσ S) := hi
    show bd 1 50 (mix _ _ _ i)
    rw [mix_lt hi]
    exact fs_bd (K := 20) a1 ((t2_bd hk hr).up (by decide)) hzb (by decide)
  · exact Nat.le_trans lookN_le (Nat.succ_le_succ a9)
/-- the size on the way to a time -/
theorem rch_bd (h : Inv B E S) (hB : B ≤ BT) (ht : fin time) (hlt : zv (gt S) < zv time) : (bd 1 2 (rch S time) ∧ 0 ≤ zv (rch S time)) ∧ (arr S time = false → zv (FP.dadd (gt S) (rch S time)) ≤ zv time) := by
  have hT := h.t hB
  have ha : fin (FP.dadd (gt S) (gh S)) := (bd_add (k := 17) hT h.2.2.1.1 (by decide) (by decide) (by decide)).1
  unfold rch
  cases hc : arr S time with
  | false =>
    rw [if_neg (by decide)]
    refine ⟨h.2.2.1, fun _ => ?_⟩
    have h1 := mt (dgt_iff ha ht).mpr (of_decide_eq_false hc)
    omega
  | true =>
    rw [if_pos rfl]
    have h1 := (dgt_iff ha ht).mp (of_decide_eq_true hc)
    have h2 : ¬ zv (gt S) + zv (gh S) ≤ zv time := fun q => by
      have := zle_add h.2.1.1 h.2.2.1.1.1 ht q
      omega
    have h3 : 0 ≤ zv (FP.dsub time (gt S)) := by
      have := zge_sub ht h.2.1.1 b_0.1 (by rw [z0]; omega)
      rw [z0] at this
      exact this
    have h4 : zv (FP.dsub time (gt S)) ≤ zv (gh S) := zle_sub ht h.2.1.1 h.2.2.1.1.1 (by omega)
    have h5 := (zv_le_bd h.2.2.1.1).1
    refine ⟨⟨?_, h3⟩, fun q => by cases q⟩
    have hne : FP.Core.val64 (FP.dsub time (gt S)) ≠ .nan := by
      have := FP.Core.val64_dsub time (gt S)
      intro q
      have q1 : FP.Core.dIsNaN (FP.dsub time (gt S)) = false := FP.Core.dsub_out ht.notNaN h.2.1.1
      exact (FP.Core.notNaN_iff _).mp q1 q
    have hfin : fin (FP.dsub time (gt S)) := by
      cases hv : FP.Core.val64 (FP.dsub time (gt S)) with
      | nan => exact absurd hv hne
      | fin s c q => exact ⟨s, c, q, hv⟩
      | inf s =>
        exfalso
        have e1 : zv (FP.dsub time (gt S)) = FP.Core.zval FP.Core.b64 (.inf s) := by unfold zv; rw [hv]
        have e2 : (FP.Core.zval FP.Core.b64 (.inf s)).natAbs = FP.Core.b64.tails * 2 ^ (FP.Core.b64.exps - 2) := FP.Core.natAbs_signed _ _
        have e3 : (2 ^ (2 + 1074) : Nat) < FP.Core.b64.tails * 2 ^ (FP.Core.b64.exps - 2) := by decide +kernel
        rw [← e1] at e2
        generalize 2 ^ (2 + 1074) = P at *
        generalize FP.Core.b64.tails * 2 ^ (FP.Core.b64.exps - 2) = P2 at *
        omega
    exact bd_of_zv hfin h3 (Int.le_trans h4 h5)
theorem half_bd (h : bd 1 2 r ∧ 0 ≤ zv r) : bd 1 2 (FP.dmul k0_5 r) ∧ 0 ≤ zv (FP.dmul k0_5 r) := ⟨bd_mul b_k0_5 h.1 (by decide) (by decide), zmul_pos b_k0_5.1 h.1.1 (by decide +kernel) h.2⟩
theorem dbl_bd (h : bd 1 2 r ∧ 0 ≤ zv r) : bd 1 3 (FP.dmul k2 r) := bd_mul b_k2 h.1 (by decide) (by decide)
theorem dbl2_bd (h : bd 1 2 r ∧ 0 ≤ zv r) : bd 1 2 (if dgt (FP.dmul k2 r) FP.dconst1 then FP.dconst1 else FP.dmul k2 r) ∧ 0 ≤ zv (if dgt (FP.dmul k2 r) FP.dconst1 then FP.dconst1 else FP.dmul k2 r) := by
  have h1 := dbl_bd h
  have h2 := zmul_pos b_k2.1 h.1.1 (by decide +kernel) h.2
  split
  · exact ⟨b_1.up (by decide), by decide +kernel⟩
  · rename_i hc
    have h3 := mt (dgt_iff h1.1 b_1.1).mpr hc
    refine ⟨bd_of_zv h1.1 h2 ?_, h2⟩
    have h4 := (zv_le_bd b_1).1
    have h5 : (2 ^ (0 + 1074) : Nat) ≤ 2 ^ (2 + 1074) := Nat.pow_le_pow_right (by decide) (by decide)
    generalize 2 ^ (0 + 1074) = P1 at *
    generalize 2 ^ (2 + 1074) = P2 at *
    omega
theorem Inv.grow {e : UInt64} (h : Inv B E S) (hr : bd 1 2 r ∧ 0 ≤ zv r) : Inv B E (grow S m e r) := by
  show Inv _ _ (if _ then _ else _)
  split
  · exact h.h (dbl2_bd hr)
  · exact h
/-- one try keeps what holds; the time stays at most the time to go to -/
theorem Inv.tow (h : Inv (zv time) E S) (hB : zv time ≤ BT) (ht : fin time) (hlt : zv (gt S) < zv time) : Inv (zv time) (E + 1) (towS S m time).1 := by
  obtain ⟨hr, hle⟩ := rch_bd h hB ht hlt
  unfold towS
  cases hz : tryR S m (rch S time) with
  | none => exact h.rf.mono (Int.le_refl _) (Nat.le_succ _)
  | some z =>
    dsimp only
    split
    · exact (h.rf.h (half_bd hr)).mono (Int.le_refl _) (Nat.le_succ _)
    · have htb : fin (if arr S time then time else FP.dadd (gt S) (rch S time)) ∧ 0 ≤ zv (if arr S time then time else FP.dadd (gt S) (rch S time)) ∧ zv (if arr S time then time else FP.dadd (gt S) (rch S time)) ≤ zv time := by
        cases hc : arr S time with
        | true =>
          rw [if_pos rfl]
          exact ⟨ht, by have := h.2.1.2.1; omega, Int.le_refl _⟩
        | false =>
          rw [if_neg (by decide)]
          have hf : fin (FP.dadd (gt S) (rch S time)) := (bd_add (k := 17) (h.t hB) hr.1 (by decide) (by decide) (by decide)).1
          refine ⟨hf, ?_, hle hc⟩
          have := zge_add h.2.1.1 hr.1.1 b_0.1 (by rw [z0]; have := h.2.1.2.1; have := hr.2; omega)
          rw [z0] at this
          exact this
      have h2 := h.take (m := m) hB hr.1 hz htb
      exact h2.grow hr
end INV
