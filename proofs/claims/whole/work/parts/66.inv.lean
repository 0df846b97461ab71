/-! what holds between calls stays so -/
theorem i2d_b31 (x : Int32) : bd 1 31 (FP.i2d x) := by
  have h := FP.Core.DInt_zval (FP.Core.i2d_int x)
  refine ⟨FP.Core.i2d_fin x, ?_⟩
  have h1 := zm_zv (FP.i2d x)
  have hz : zv (FP.i2d x) = x.toInt * ((2 ^ 1074 : Nat) : Int) := h
  rw [← h1, hz, Int.natAbs_mul, Int.natAbs_natCast, Nat.one_mul, show (31 + 1074) = 31 + 1074 from rfl, Nat.pow_add]
  refine Nat.mul_le_mul_right _ ?_
  have h2 := Int32.le_toInt x
  have h3 := Int32.toInt_lt x
  omega
theorem arg_bd (x : Int32) : bd 1 31 (FP.dmul (FP.i2d x) k0_125) := bd_mul (i2d_b31 x) b_k0_125 (by decide) (by decide)
theorem wth_bd {x b : UInt64} {K : Nat} (hx : fin x) (hb : bd 1 K b) (h : wthn x b = true) : bd 1 K x := by
  have h := of_decide_eq_true h
  have h1 : zv (FP.dneg b) ≤ zv x := by
    rcases h.1 with q | q
    · have := (dgt_iff hx (fin_neg hb.1)).mp q; omega
    · have := (deq_iff hx (fin_neg hb.1)).mp q; omega
  have h2 : zv x ≤ zv b := by
    rcases h.2 with q | q
    · have := (dlt_iff hx hb.1).mp q; omega
    · have := (deq_iff hx hb.1).mp q; omega
  rw [zv_neg] at h1
  refine ⟨hx, Nat.le_trans ?_ hb.2⟩
  have a1 := zm_zv x
  have a2 := zm_zv b
  omega
theorem szd_bd {x : UInt64} (hx : fin x) (h : szd x = true) : bd 1 2 x ∧ 0 < zv x := by
  have h := of_decide_eq_true h
  have h1 := (dgt_iff hx b_0.1).mp h.1
  rw [z0] at h1
  have h2 : zv x ≤ zv k4 := by
    rcases h.2 with q | q
    · have := (dlt_iff hx b_k4.1).mp q; omega
    · have := (deq_iff hx b_k4.1).mp q; omega
  have h3 := (zv_le_bd b_k4).1
  exact ⟨bd_of_zv hx (by omega) (by omega), h1⟩
theorem andb {a b : Bool} (h : (a && b) = true) : a = true ∧ b = true := by cases a <;> cases b <;> first | exact ⟨rfl, rfl⟩ | cases h
section IV
variable {B : Int} {E : Nat} {S : St} {i n a b : Int32} {x x0 x1 time : UInt64}
theorem inv_sys (h : Inv B E S) (hB : 0 ≤ B) : Inv B E (sysP S n).2 := by
  unfold sysP
  split
  · rename_i hin
    have e1 : (nI 1).toInt = 1 := by decide
    have e3 : (nI 3).toInt = 3 := by decide
    have e0 : (nI 0).toInt = 0 := by decide
    have e4 : (nI 4).toInt = 4 := by decide
    have h1 := Int32.le_iff_toInt_le.mp hin.1
    have h2 := Int32.le_iff_toInt_le.mp hin.2
    obtain ⟨j, hj, hnj⟩ := nI_in2 (n := 4) (k := n) (by decide) ⟨Int32.le_iff_toInt_le.mpr (by omega), Int32.lt_iff_toInt_lt.mpr (by omega)⟩
    have hc : n.toNatClampNeg = j := by rw [hnj]; exact nI_clamp (by omega)
    have hj1 : 1 ≤ j := by
      rcases Nat.eq_zero_or_pos j with q | q
      · rw [hnj, q, e0] at h1; omega
      · exact q
    show Inv B E (sysS S n.toNatClampNeg)
    rw [hc]
    refine ⟨⟨hj1, by show j ≤ 3; omega, by show 0 ≤ 10; decide, fun k hk => absurd hk (Nat.not_lt_zero _)⟩, ⟨b_0.1, by show 0 ≤ zv FP.dconst0; rw [z0]; exact Int.le_refl _, by show zv FP.dconst0 ≤ B; rw [z0]; exact hB⟩, ⟨b_k0_125.up (by decide), by show 0 ≤ zv k0_125; decide +kernel⟩, ⟨b_k0_125.up (by decide), by show 0 < zv k0_125; decide +kernel⟩, fun k hk => ?_, fun q => (Bool.false_ne_true q).elim, fun q => (Bool.false_ne_true q).elim, fun q => (Bool.false_ne_true q).elim, Nat.zero_le _⟩
    show bd 1 20 (mix 3 (fun _ => FP.dconst0) (gy S) k)
    have hk : k < j := hk
    rw [mix_lt (show k < 3 by omega)]
    exact b_0.up (by decide)
  · exact h
theorem Inv.off (h : Inv B E S) : Inv B E (offS S) := by
  obtain ⟨a1, a2, a3, a4, a5, a6, a7, a8, a9⟩ := h
  exact ⟨a1, a2, a3, a4, a5, fun q => (Bool.false_ne_true q).elim, fun q => (Bool.false_ne_true q).elim, a8, a9⟩
theorem okf_of {k : Int32} (hn : sn (gσ S) ≤ 3) (h : inF S k = true) : okf (sn (gσ S)) k := by
  rcases of_decide_eq_true h with q | q | q
  · exact Or.inl (nI_in2 (by omega) q)
  · exact Or.inr (Or.inl q)
  · exact Or.inr (Or.inr q)
theorem inv_trm (hx : fin x) (h : Inv B E S) : Inv B E (trmP S i x a b).2 := by
  unfold trmP
  split
  · rename_i hg
    split
    · exact h
    · rename_i hc
      obtain ⟨hg, g4⟩ := andb hg
      obtain ⟨hg, g3⟩ := andb hg
      obtain ⟨g1, g2⟩ := andb hg
      have hn := h.1.2.1
      have hc : ¬ 10 ≤ sc (gσ S) := fun q => hc (dt q)
      obtain ⟨j, hj, hij, -⟩ := inV_nat hn g1
      have h0 : Inv B E (trmS S i x a b) := by
        obtain ⟨a1, a2, a3, a4, a5, a6, a7, a8, a9⟩ := h
        refine ⟨⟨a1.1, a1.2.1, by show sc (gσ S) + 1 ≤ 10; omega, fun k hk => ?_⟩, a2, a3, a4, a5, a6, a7, a8, a9⟩
        show (∃ j : Nat, j < sn (gσ S) ∧ upd (so (gσ S)) (sc (gσ S)) i k = nI j) ∧ okf (sn (gσ S)) (upd (sl (gσ S)) (sc (gσ S)) a k) ∧ okf (sn (gσ S)) (upd (sr (gσ S)) (sc (gσ S)) b k) ∧ bd 1 6 (vf_upd (sk (gσ S)) (sc (gσ S)) x k)
        by_cases hk2 : k = sc (gσ S)
        · subst hk2
          have u1 : ∀ (f : Nat → Int32) (y : Int32), upd f (sc (gσ S)) y (sc (gσ S)) = y := fun f y => by simp [upd]
          rw [u1, u1, u1, vu_s]
          exact ⟨⟨j, hj, hij⟩, okf_of hn g2, okf_of hn g3, wth_bd hx b_k64 g4⟩
        · have u1 : ∀ (f : Nat → Int32) (y : Int32), upd f (sc (gσ S)) y k = f k := fun f y => by simp [upd, hk2]
          rw [u1, u1, u1, vu_n hk2]
          have hk : k < sc (gσ S) + 1 := hk
          exact a1.2.2.2 k (by omega)
      exact h0.off
  · exact h
theorem inv_val (hx : fin x) (h : Inv B E S) : Inv B E (valP S i x).2 := by
  unfold valP
  split
  · rename_i hg
    obtain ⟨g1, g2⟩ := andb hg
    have h0 : Inv B E (offS (valS S i.toNatClampNeg x)) := by
      obtain ⟨a1, a2, a3, a4, a5, a6, a7, a8, a9⟩ := h
      refine ⟨a1, a2, a3, a4, fun k hk => ?_, fun q => (Bool.false_ne_true q).elim, fun q => (Bool.false_ne_true q).elim, a8, a9⟩
      show bd 1 20 (vf_upd (gy S) i.toNatClampNeg x k)
      by_cases hk2 : k = i.toNatClampNeg
      · rw [hk2, vu_s]; exact (wth_bd hx b_k1000 g2).up (by decide)
      · rw [vu_n hk2]; exact a5 k hk
    exact h0
  · exact h
theorem inv_sz (hx0 : fin x0) (hx1 : fin x1) (h : Inv B E S) : Inv B E (szP S x0 x1).2 := by
  unfold szP
  split
  · rename_i hg
    obtain ⟨g1, g2⟩ := andb hg
    have b0 := szd_bd hx0 g1
    have b1 := szd_bd hx1 g2
    obtain ⟨a1, a2, a3, a4, a5, a6, a7, a8, a9⟩ := h
    exact ⟨a1, a2, ⟨b0.1, Int.le_of_lt b0.2⟩, b1, a5, a6, a7, a8, a9⟩
  · exact h
theorem inv_wat (hx : fin x) (h : Inv B E S) : Inv B E (watP S i x).2 := by
  unfold watP
  split
  · rename_i hg
    obtain ⟨g1, g2⟩ := andb hg
    obtain ⟨j, hj, hij, hj3⟩ := inV_nat h.1.2.1 g1
    obtain ⟨a1, a2, a3, a4, a5, a6, a7, a8, a9⟩ := h
    exact ⟨a1, a2, a3, a4, a5, a6, a7, fun _ => ⟨by show i.toNatClampNeg < sn (gσ S); rw [hj3]; exact hj, wth_bd hx b_k1000 g2⟩, a9⟩
  · exact h
theorem inv_stp {N : Nat} (h : Inv ((N * 2 ^ 1074 : Nat) : Int) E S) (hN : N + 104 ≤ 53352) : Inv (((N + 104) * 2 ^ 1074 : Nat) : Int) (E + 100) (stpP S i).2 := by
  have hB : ((N * 2 ^ 1074 : Nat) : Int) ≤ BT := Int.ofNat_le.mpr (Nat.mul_le_mul_right _ (by omega))
  have hB2 : ((N * 2 ^ 1074 : Nat) : Int) ≤ (((N + 104) * 2 ^ 1074 : Nat) : Int) := Int.ofNat_le.mpr (Nat.mul_le_mul_right _ (by omega))
  cases hm : mth i with
  | false => rw [stp_f hm]; exact h.mono hB2 (by omega)
  | true =>
    obtain ⟨j, hmm, hji, hj3⟩ := mth_nat hm
    rcases hz : tryR S j (gh S) with _ | z
    · rw [stp_n hm hj3 hz]; exact h.rf.mono hB2 (by omega)
    · rw [stp_s hm hj3 hz]
      have hT := h.t hB
      obtain ⟨V, hV, hVz⟩ := whole_d (N + 4) (by omega) (by omega)
      have hf : fin (FP.dadd (gt S) (gh S)) := (bd_add (k := 17) hT h.2.2.1.1 (by decide) (by decide) (by decide)).1
      have h4 := (zv_le_bd h.2.2.1.1).1
      have hle : zv (FP.dadd (gt S) (gh S)) ≤ zv V := zle_add h.2.1.1 h.2.2.1.1.1 hV (by
        rw [hVz]
        have h5 := h.2.1.2.2
        have h6 : (2 ^ (2 + 1074) : Nat) = 4 * 2 ^ 1074 := by rw [Nat.pow_add]
        rw [h6] at h4
        rw [Nat.add_mul]
        omega)
      have hge : 0 ≤ zv (FP.dadd (gt S) (gh S)) := by
        have := zge_add h.2.1.1 h.2.2.1.1.1 b_0.1 (by rw [z0]; have := h.2.1.2.1; have := h.2.2.1.2; omega)
        rw [z0] at this
        exact this
      have h7 : (((N + 4) * 2 ^ 1074 : Nat) : Int) ≤ (((N + 104) * 2 ^ 1074 : Nat) : Int) := Int.ofNat_le.mpr (Nat.mul_le_mul_right _ (by omega))
      exact (h.take (m := j) hB h.2.2.1.1 hz ⟨hf, hge, by rw [hVz] at hle; exact Int.le_trans hle h7⟩).mono (Int.le_refl _) (by omega)
theorem inv_goL {m : Nat} (hB : zv time ≤ BT) (ht : fin time) : ∀ (k : Nat) (E : Nat) (S : St), Inv (zv time) E S → Inv (zv time) (E + k) (goL m time k S).1
  | 0, E, S, h => h
  | k + 1, E, S, h => by
    unfold goL
    split
    · rename_i hl
      have hl2 := (dlt_iff h.2.1.1 ht).mp hl
      have h1 := h.tow (m := m) hB ht hl2
      split
      · have := inv_goL (m := m) hB ht k (E + 1) _ h1
        rw [show E + (k + 1) = E + 1 + k by omega]
        exact this
      · exact h1.mono (Int.le_refl _) (by omega)
    · exact h.mono (Int.le_refl _) (by omega)
theorem goR_s {r : St × Bool} : (goR r time).2 = r.1 := by unfold goR; split <;> rfl
theorem inv_go {N : Nat} (h : Inv ((N * 2 ^ 1074 : Nat) : Int) E S) (hN : N + 104 ≤ 53352) (ht : fin time) : Inv (((N + 104) * 2 ^ 1074 : Nat) : Int) (E + 100) (goP S i time).2 := by
  have hB2 : ((N * 2 ^ 1074 : Nat) : Int) ≤ (((N + 104) * 2 ^ 1074 : Nat) : Int) := Int.ofNat_le.mpr (Nat.mul_le_mul_right _ (by omega))
  unfold goP
  split
  · rename_i hg
    obtain ⟨hg, g3⟩ := andb hg
    obtain ⟨g1, g2⟩ := andb hg
    have g2 := of_decide_eq_true g2
    have g3 : ¬ dgt time (FP.dadd (gt S) k100) := fun q => by rw [dt q] at g3; cases g3
    have hlt := (dgt_iff ht h.2.1.1).mp g2
    obtain ⟨hb1, hb2⟩ := go_B h hN ht g3
    rw [goR_s]
    have h7 : (((N + 100) * 2 ^ 1074 : Nat) : Int) ≤ (((N + 104) * 2 ^ 1074 : Nat) : Int) := Int.ofNat_le.mpr (Nat.mul_le_mul_right _ (by omega))
    exact (inv_goL hb2 ht 100 E S (h.to hlt)).mono (Int.le_trans hb1 h7) (Nat.le_refl _)
  · exact h.mono hB2 (by omega)
/-! the last step's end, and what ADAMS keeps, over the other calls -/
theorem enK_off {en : Nat → UInt64} : enK (offS S) en := fun h => by cases h
theorem kpK_off {v : Nat → Nat → UInt64} : kpK (offS S) v := fun h => by cases h
variable {en : Nat → UInt64} {v : Nat → Nat → UInt64}
theorem enK_sys (h : enK S en) : enK (sysP S n).2 en := by
  unfold sysP
  split
  · exact fun h => by cases h
  · exact h
theorem enK_trm (h : enK S en) : enK (trmP S i x a b).2 en := by
  unfold trmP
  split
  · split
    · exact h
    · exact enK_off
  · exact h
theorem enK_val (h : enK S en) : enK (valP S i x).2 en := by
  unfold valP
  split
  · exact enK_off
  · exact h
theorem enK_sz (h : enK S en) : enK (szP S x0 x1).2 en := by
  unfold szP
  split
  · exact h
  · exact h
theorem enK_wat (h : enK S en) : enK (watP S i x).2 en := by
  unfold watP
  split
  · exact h
  · exact h
theorem kpK_sys (h : kpK S v) : kpK (sysP S n).2 v := by
  unfold sysP
  split
  · exact fun h => by cases h
  · exact h
theorem kpK_trm (h : kpK S v) : kpK (trmP S i x a b).2 v := by
  unfold trmP
  split
  · split
    · exact h
    · exact kpK_off
  · exact h
theorem kpK_val (h : kpK S v) : kpK (valP S i x).2 v := by
  unfold valP
  split
  · exact kpK_off
  · exact h
theorem kpK_sz (h : kpK S v) : kpK (szP S x0 x1).2 v := by
  unfold szP
  split
  · exact h
  · exact h
theorem kpK_wat (h : kpK S v) : kpK (watP S i x).2 v := by
  unfold watP
  split
  · exact h
  · exact h
end IV
