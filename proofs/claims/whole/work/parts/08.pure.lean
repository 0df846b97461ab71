/-! the constants of the two programs, and their bounds -/
abbrev km1000 : UInt64 := 13875379345695965184
theorem b_km1000 : bd 1 10 km1000 := bd_c (by decide +kernel) (by decide +kernel)
theorem lb_km1000 : lbd 1083 km1000 := lbd_c (by decide +kernel) (by decide +kernel)
abbrev km64 : UInt64 := 13857576053419016192
theorem b_km64 : bd 1 6 km64 := bd_c (by decide +kernel) (by decide +kernel)
theorem lb_km64 : lbd 1080 km64 := lbd_c (by decide +kernel) (by decide +kernel)
abbrev k1em09 : UInt64 := 4472406533629990549
theorem b_k1em09 : bd 1 0 k1em09 := bd_c (by decide +kernel) (by decide +kernel)
theorem lb_k1em09 : lbd 1044 k1em09 := lbd_c (by decide +kernel) (by decide +kernel)
abbrev k1em06 : UInt64 := 4517329193108106637
theorem b_k1em06 : bd 1 0 k1em06 := bd_c (by decide +kernel) (by decide +kernel)
theorem lb_k1em06 : lbd 1054 k1em06 := lbd_c (by decide +kernel) (by decide +kernel)
abbrev k0_125 : UInt64 := 4593671619917905920
theorem b_k0_125 : bd 1 0 k0_125 := bd_c (by decide +kernel) (by decide +kernel)
theorem lb_k0_125 : lbd 1071 k0_125 := lbd_c (by decide +kernel) (by decide +kernel)
abbrev k0_5 : UInt64 := 4602678819172646912
theorem b_k0_5 : bd 1 0 k0_5 := bd_c (by decide +kernel) (by decide +kernel)
theorem lb_k0_5 : lbd 1073 k0_5 := lbd_c (by decide +kernel) (by decide +kernel)
abbrev k0_75 : UInt64 := 4604930618986332160
theorem b_k0_75 : bd 1 0 k0_75 := bd_c (by decide +kernel) (by decide +kernel)
theorem lb_k0_75 : lbd 1073 k0_75 := lbd_c (by decide +kernel) (by decide +kernel)
abbrev k1_5 : UInt64 := 4609434218613702656
theorem b_k1_5 : bd 1 1 k1_5 := bd_c (by decide +kernel) (by decide +kernel)
theorem lb_k1_5 : lbd 1074 k1_5 := lbd_c (by decide +kernel) (by decide +kernel)
abbrev k2 : UInt64 := 4611686018427387904
theorem b_k2 : bd 1 1 k2 := bd_c (by decide +kernel) (by decide +kernel)
theorem lb_k2 : lbd 1075 k2 := lbd_c (by decide +kernel) (by decide +kernel)
abbrev k3 : UInt64 := 4613937818241073152
theorem b_k3 : bd 1 2 k3 := bd_c (by decide +kernel) (by decide +kernel)
theorem lb_k3 : lbd 1075 k3 := lbd_c (by decide +kernel) (by decide +kernel)
abbrev k4 : UInt64 := 4616189618054758400
theorem b_k4 : bd 1 2 k4 := bd_c (by decide +kernel) (by decide +kernel)
theorem lb_k4 : lbd 1076 k4 := lbd_c (by decide +kernel) (by decide +kernel)
abbrev k5 : UInt64 := 4617315517961601024
theorem b_k5 : bd 1 3 k5 := bd_c (by decide +kernel) (by decide +kernel)
theorem lb_k5 : lbd 1076 k5 := lbd_c (by decide +kernel) (by decide +kernel)
abbrev k6 : UInt64 := 4618441417868443648
theorem b_k6 : bd 1 3 k6 := bd_c (by decide +kernel) (by decide +kernel)
theorem lb_k6 : lbd 1076 k6 := lbd_c (by decide +kernel) (by decide +kernel)
abbrev k8 : UInt64 := 4620693217682128896
theorem b_k8 : bd 1 3 k8 := bd_c (by decide +kernel) (by decide +kernel)
theorem lb_k8 : lbd 1077 k8 := lbd_c (by decide +kernel) (by decide +kernel)
abbrev k9 : UInt64 := 4621256167635550208
theorem b_k9 : bd 1 4 k9 := bd_c (by decide +kernel) (by decide +kernel)
theorem lb_k9 : lbd 1077 k9 := lbd_c (by decide +kernel) (by decide +kernel)
abbrev k16 : UInt64 := 4625196817309499392
theorem b_k16 : bd 1 4 k16 := bd_c (by decide +kernel) (by decide +kernel)
theorem lb_k16 : lbd 1078 k16 := lbd_c (by decide +kernel) (by decide +kernel)
abbrev k64 : UInt64 := 4634204016564240384
theorem b_k64 : bd 1 6 k64 := bd_c (by decide +kernel) (by decide +kernel)
theorem lb_k64 : lbd 1080 k64 := lbd_c (by decide +kernel) (by decide +kernel)
abbrev k72 : UInt64 := 4634766966517661696
theorem b_k72 : bd 1 7 k72 := bd_c (by decide +kernel) (by decide +kernel)
theorem lb_k72 : lbd 1080 k72 := lbd_c (by decide +kernel) (by decide +kernel)
abbrev k100 : UInt64 := 4636737291354636288
theorem b_k100 : bd 1 7 k100 := bd_c (by decide +kernel) (by decide +kernel)
theorem lb_k100 : lbd 1080 k100 := lbd_c (by decide +kernel) (by decide +kernel)
abbrev k1000 : UInt64 := 4652007308841189376
theorem b_k1000 : bd 1 10 k1000 := bd_c (by decide +kernel) (by decide +kernel)
theorem lb_k1000 : lbd 1083 k1000 := lbd_c (by decide +kernel) (by decide +kernel)
abbrev k1000000 : UInt64 := 4696837146684686336
theorem b_k1000000 : bd 1 20 k1000000 := bd_c (by decide +kernel) (by decide +kernel)
theorem lb_k1000000 : lbd 1093 k1000000 := lbd_c (by decide +kernel) (by decide +kernel)
abbrev k1000000000 : UInt64 := 4741671816366391296
theorem b_k1000000000 : bd 1 30 k1000000000 := bd_c (by decide +kernel) (by decide +kernel)
theorem lb_k1000000000 : lbd 1103 k1000000000 := lbd_c (by decide +kernel) (by decide +kernel)
theorem b_0 : bd 1 0 FP.dconst0 := bd_c (by decide +kernel) (by decide +kernel)
theorem b_1 : bd 1 0 FP.dconst1 := bd_c (by decide +kernel) (by decide +kernel)

/-! the system: how many values, how many terms, the terms' owners, constants, left and right factors -/
abbrev Sys : Type := Nat × Nat × (Nat → Int32) × (Nat → UInt64) × (Nat → Int32) × (Nat → Int32)
abbrev sn (σ : Sys) : Nat := σ.1
abbrev sc (σ : Sys) : Nat := σ.2.1
abbrev so (σ : Sys) : Nat → Int32 := σ.2.2.1
abbrev sk (σ : Sys) : Nat → UInt64 := σ.2.2.2.1
abbrev sl (σ : Sys) : Nat → Int32 := σ.2.2.2.2.1
abbrev sr (σ : Sys) : Nat → Int32 := σ.2.2.2.2.2
def okf (n : Nat) (k : Int32) : Prop := (∃ j : Nat, j < n ∧ k = nI j) ∨ k = nI 3 ∨ k = nI 4
def oks (σ : Sys) : Prop := 1 ≤ sn σ ∧ sn σ ≤ 3 ∧ sc σ ≤ 10 ∧ ∀ k, k < sc σ → (∃ j : Nat, j < sn σ ∧ so σ k = nI j) ∧ okf (sn σ) (sl σ k) ∧ okf (sn σ) (sr σ k) ∧ bd 1 6 (sk σ k)
/-- the value that a factor names -/
def vv (n : Nat) (t : UInt64) (y : Nat → UInt64) (k : Int32) : UInt64 := if nI 0 ≤ k ∧ k < nI n then y k.toNatClampNeg else if k = nI 3 then t else FP.dconst1
theorem vv_j {n j : Nat} {t : UInt64} {y : Nat → UInt64} (h : j < n) (hn : n ≤ 3) : vv n t y (nI j) = y j := by
  have h1 : nI 0 ≤ nI j := nI_le (Nat.zero_le _) (by omega)
  have h2 : nI j < nI n := nI_lt h (by omega)
  simp only [vv, h1, h2, and_self, if_true]
  rw [nI_clamp (by omega)]
theorem vv_3 {n : Nat} {t : UInt64} {y : Nat → UInt64} (hn : n ≤ 3) : vv n t y (nI 3) = t := by
  have h2 : ¬ nI 3 < nI n := nI_nlt hn (by decide)
  simp [vv, h2]
theorem vv_4 {n : Nat} {t : UInt64} {y : Nat → UInt64} (hn : n ≤ 3) : vv n t y (nI 4) = FP.dconst1 := by
  have h2 : ¬ nI 4 < nI n := nI_nlt (by omega) (by decide)
  have h3 : ¬ nI 4 = nI 3 := by decide
  simp [vv, h2, h3]
theorem vv_bd {n K : Nat} {t : UInt64} {y : Nat → UInt64} {k : Int32} (hn : n ≤ 3) (hk : okf n k) (ht : bd 1 K t) (hy : ∀ j, j < n → bd 1 K (y j)) : bd 1 K (vv n t y k) := by
  rcases hk with ⟨j, hj, rfl⟩ | rfl | rfl
  · rw [vv_j hj hn]; exact hy j hj
  · rw [vv_3 hn]; exact ht
  · rw [vv_4 hn]; exact b_1.up (Nat.zero_le _)
theorem vv_mix {n : Nat} {t : UInt64} {g f : Nat → UInt64} {k : Int32} (hn : n ≤ 3) : vv n t (mix n g f) k = vv n t g k := by
  unfold vv
  by_cases h : nI 0 ≤ k ∧ k < nI n
  · rw [if_pos h, if_pos h]
    have h0 : ¬ k < 0 := by
      intro q
      have q1 := Int32.lt_iff_toInt_lt.mp q
      have q2 := Int32.le_iff_toInt_le.mp h.1
      rw [nI_toInt (by decide)] at q2
      have : (0 : Int32).toInt = 0 := by decide
      omega
    obtain ⟨j, hj, rfl⟩ := nI_of h0
    rw [nI_clamp hj]
    exact mix_lt ((nI_ltI hj (by omega)).mp h.2)
  · rw [if_neg h, if_neg h]
def tv (σ : Sys) (t : UInt64) (y : Nat → UInt64) (k : Nat) : UInt64 := FP.dmul (FP.dmul (sk σ k) (vv (sn σ) t y (sl σ k))) (vv (sn σ) t y (sr σ k))
/-- the sum of the first k terms of slope i -/
def fsum (σ : Sys) (t : UInt64) (y : Nat → UInt64) (i : Nat) : Nat → UInt64
  | 0 => FP.dconst0
  | k + 1 => if so σ k = nI i then FP.dadd (fsum σ t y i k) (tv σ t y k) else fsum σ t y i k
def fs (σ : Sys) (t : UInt64) (y : Nat → UInt64) (i : Nat) : UInt64 := fsum σ t y i (sc σ)
theorem tv_mix {σ : Sys} {t : UInt64} {g f : Nat → UInt64} {k : Nat} (hn : sn σ ≤ 3) : tv σ t (mix (sn σ) g f) k = tv σ t g k := by
  unfold tv
  rw [vv_mix hn, vv_mix hn]
theorem fsum_mix {σ : Sys} {t : UInt64} {g f : Nat → UInt64} {i : Nat} (hn : sn σ ≤ 3) : ∀ k, fsum σ t (mix (sn σ) g f) i k = fsum σ t g i k
  | 0 => rfl
  | k + 1 => by
    show (if _ then _ else _) = (if _ then _ else _)
    rw [fsum_mix hn k, tv_mix hn]
theorem fs_mix {σ : Sys} {t : UInt64} {g f : Nat → UInt64} (hn : sn σ ≤ 3) : fs σ t (mix (sn σ) g f) = fs σ t g := funext fun i => fsum_mix hn (sc σ)
theorem tv_bd {σ : Sys} {K k : Nat} {t : UInt64} {y : Nat → UInt64} (hσ : oks σ) (hk : k < sc σ) (ht : bd 1 K t) (hy : ∀ j, j < sn σ → bd 1 K (y j)) (hK : 2 * K + 10 ≤ 1000) : bd 1 (2 * K + 6) (tv σ t y k) := by
  obtain ⟨h1, h2, h3, h4⟩ := hσ
  obtain ⟨-, h5, h6, h7⟩ := h4 k hk
  exact bd_mul (bd_mul (k := K + 6) h7 (vv_bd h2 h5 ht hy) (by omega) (by omega)) (vv_bd h2 h6 ht hy) (by omega) (by omega)
theorem tv1_bd {σ : Sys} {K k : Nat} {t : UInt64} {y : Nat → UInt64} (hσ : oks σ) (hk : k < sc σ) (ht : bd 1 K t) (hy : ∀ j, j < sn σ → bd 1 K (y j)) (hK : 2 * K + 10 ≤ 1000) : bd 1 (K + 6) (FP.dmul (sk σ k) (vv (sn σ) t y (sl σ k))) := by
  obtain ⟨h1, h2, h3, h4⟩ := hσ
  obtain ⟨-, h5, h6, h7⟩ := h4 k hk
  exact bd_mul h7 (vv_bd h2 h5 ht hy) (by omega) (by omega)
theorem log2_le4 {m : Nat} (h0 : 1 ≤ m) (h : m < 32) : Nat.log2 m ≤ 4 := by
  have := (Nat.log2_lt (by omega : m ≠ 0)).mpr (show m < 2 ^ 5 by omega)
  omega
theorem fsum_bd {σ : Sys} {K : Nat} {t : UInt64} {y : Nat → UInt64} {i : Nat} (hσ : oks σ) (ht : bd 1 K t) (hy : ∀ j, j < sn σ → bd 1 K (y j)) (hK : 2 * K + 10 ≤ 1000) : ∀ k, k ≤ sc σ → bd (k + 1) (2 * K + 6) (fsum σ t y i k)
  | 0, _ => b_0.mono (by
      rw [Nat.one_mul, Nat.zero_add, Nat.one_mul]
      exact Nat.pow_le_pow_right (by decide) (by omega))
  | k + 1, hk => by
    have ih := fsum_bd (i := i) hσ ht hy hK k (by omega)
    have hc := hσ.2.2.1
    show bd _ _ (if _ then _ else _)
    split
    · refine bd_addG ih (tv_bd hσ (by omega) ht hy hK) ?_ (by omega) (by omega) (by have := log2_le4 (m := k + 1 + 1) (by omega) (by omega); omega)
      rw [Nat.one_mul, ← Nat.succ_mul]
      exact Nat.le_refl _
    · exact ih.mono (Nat.mul_le_mul_right _ (by omega))
theorem fs_bd {σ : Sys} {K : Nat} {t : UInt64} {y : Nat → UInt64} {i : Nat} (hσ : oks σ) (ht : bd 1 K t) (hy : ∀ j, j < sn σ → bd 1 K (y j)) (hK : 2 * K + 10 ≤ 1000) : bd 1 (2 * K + 10) (fs σ t y i) := by
  refine (fsum_bd (i := i) hσ ht hy hK (sc σ) (Nat.le_refl _)).mono ?_
  have hc := hσ.2.2.1
  calc (sc σ + 1) * 2 ^ (2 * K + 6 + 1074) ≤ 2 ^ 4 * 2 ^ (2 * K + 6 + 1074) := Nat.mul_le_mul_right _ (by omega)
    _ = 1 * 2 ^ (2 * K + 10 + 1074) := by rw [Nat.one_mul, ← Nat.pow_add]; exact congrArg (fun e => 2 ^ e) (by omega)
/-- size without sign; the greatest of the first k -/
def sz (x : UInt64) : UInt64 := if dlt x FP.dconst0 then FP.dneg x else x
def mxv (v : Nat → UInt64) : Nat → UInt64
  | 0 => FP.dconst0
  | k + 1 => if dgt (sz (v k)) (mxv v k) then sz (v k) else mxv v k

/-! booleans as ints -/
def bI (b : Bool) : Int32 := if b then nI 1 else nI 0
theorem bI_n (b : Bool) : narrow .boolean (.int (bI b)) = .int (bI b) := by cases b <;> decide
theorem bI_f (b : Bool) : fits .boolean (.int (bI b)) = true := by cases b <;> decide
theorem bI0 {b : Bool} (h : b = false) : nI 0 = bI b := by subst h; rfl
theorem bI1 {b : Bool} (h : b = true) : nI 1 = bI b := by subst h; rfl
theorem bI_eq0 {b : Bool} : bI b = 0 ↔ b = false := by cases b <;> decide
theorem bI_ne0 {b : Bool} : ¬ bI b = 0 ↔ b = true := by cases b <;> decide
theorem df {p : Prop} [Decidable p] (h : ¬ p) : decide p = false := decide_eq_false h
theorem dt {p : Prop} [Decidable p] (h : p) : decide p = true := decide_eq_true h
theorem fd {p : Prop} [Decidable p] (h : decide p = false) : ¬ p := of_decide_eq_false h
theorem td {p : Prop} [Decidable p] (h : decide p = true) : p := of_decide_eq_true h
/-- an int from 0 to n - 1 -/
theorem nI_in2 {n : Nat} {k : Int32} (hn : n ≤ 10) (h : nI 0 ≤ k ∧ k < nI n) : ∃ j : Nat, j < n ∧ k = nI j := by
  have h0 : ¬ k < 0 := Int32.not_lt.mpr h.1
  obtain ⟨j, hj, rfl⟩ := nI_of h0
  exact ⟨j, (nI_ltI hj (by omega)).mp h.2, rfl⟩
theorem fsum_step {σ : Sys} {t : UInt64} {y f f' : Nat → UInt64} {j k : Nat} (hn : sn σ ≤ 3) (hj : j < sn σ) (ho : so σ k = nI j) (hf : f' = mix (sn σ) (fun i => fsum σ t y i k) f) : vf_upd f' j (FP.dadd (fsum σ t y j k) (tv σ t y k)) = mix (sn σ) (fun i => fsum σ t y i (k + 1)) f := by
  subst hf
  funext i
  by_cases h : i = j
  · subst h
    simp [vf_upd, mix, hj, fsum, ho]
  · by_cases h2 : i < sn σ
    · have h3 : ¬ nI j = nI i := fun q => h ((nI_eq (by omega) (by omega)).mp q).symm
      simp [vf_upd, mix, h, h2, fsum, ho, h3]
    · simp [vf_upd, mix, h, h2]
/-- the derivative of slope i by value j: the sum over the first k terms -/
def jmid (σ : Sys) (t : UInt64) (y : Nat → UInt64) (i j k : Nat) (a : UInt64) : UInt64 := if so σ k = nI i ∧ sl σ k = nI j then FP.dadd a (FP.dmul (sk σ k) (vv (sn σ) t y (sr σ k))) else a
def jend (σ : Sys) (t : UInt64) (y : Nat → UInt64) (i j k : Nat) (a : UInt64) : UInt64 := if so σ k = nI i ∧ sr σ k = nI j then FP.dadd a (FP.dmul (sk σ k) (vv (sn σ) t y (sl σ k))) else a
def jsum (σ : Sys) (t : UInt64) (y : Nat → UInt64) (i j : Nat) : Nat → UInt64
  | 0 => FP.dconst0
  | k + 1 => jend σ t y i j k (jmid σ t y i j k (jsum σ t y i j k))
def js (σ : Sys) (t : UInt64) (y : Nat → UInt64) (i j : Nat) : UInt64 := jsum σ t y i j (sc σ)
theorem js1_bd {σ : Sys} {K k : Nat} {t : UInt64} {y : Nat → UInt64} (hσ : oks σ) (hk : k < sc σ) (ht : bd 1 K t) (hy : ∀ j, j < sn σ → bd 1 K (y j)) (hK : K + 11 ≤ 1000) : bd 1 (K + 6) (FP.dmul (sk σ k) (vv (sn σ) t y (sr σ k))) ∧ bd 1 (K + 6) (FP.dmul (sk σ k) (vv (sn σ) t y (sl σ k))) := by
  obtain ⟨h1, h2, h3, h4⟩ := hσ
  obtain ⟨-, h5, h6, h7⟩ := h4 k hk
  exact ⟨bd_mul h7 (vv_bd h2 h6 ht hy) (by omega) (by omega), bd_mul h7 (vv_bd h2 h5 ht hy) (by omega) (by omega)⟩
theorem jadd_bd {K n : Nat} {a b : UInt64} (ha : bd n (K + 6) a) (hb : bd 1 (K + 6) b) (hn : n < 31) (hK : K + 11 ≤ 1000) : bd (n + 1) (K + 6) (FP.dadd a b) := by
  refine bd_addG ha hb ?_ (by omega) (by omega) (by have := log2_le4 (m := n + 1) (by omega) (by omega); omega)
  rw [Nat.one_mul, ← Nat.succ_mul]
  exact Nat.le_refl _
theorem jmid_bd {σ : Sys} {K k n i j : Nat} {t a : UInt64} {y : Nat → UInt64} (hσ : oks σ) (hk : k < sc σ) (ht : bd 1 K t) (hy : ∀ j, j < sn σ → bd 1 K (y j)) (hK : K + 11 ≤ 1000) (ha : bd n (K + 6) a) (hn : n < 31) : bd (n + 1) (K + 6) (jmid σ t y i j k a) := by
  unfold jmid
  split
  · exact jadd_bd ha (js1_bd hσ hk ht hy hK).1 hn hK
  · exact ha.mono (Nat.mul_le_mul_right _ (by omega))
theorem jend_bd {σ : Sys} {K k n i j : Nat} {t a : UInt64} {y : Nat → UInt64} (hσ : oks σ) (hk : k < sc σ) (ht : bd 1 K t) (hy : ∀ j, j < sn σ → bd 1 K (y j)) (hK : K + 11 ≤ 1000) (ha : bd n (K + 6) a) (hn : n < 31) : bd (n + 1) (K + 6) (jend σ t y i j k a) := by
  unfold jend
  split
  · exact jadd_bd ha (js1_bd hσ hk ht hy hK).2 hn hK
  · exact ha.mono (Nat.mul_le_mul_right _ (by omega))
theorem jsum_bd {σ : Sys} {K i j : Nat} {t : UInt64} {y : Nat → UInt64} (hσ : oks σ) (ht : bd 1 K t) (hy : ∀ j, j < sn σ → bd 1 K (y j)) (hK : K + 11 ≤ 1000) : ∀ k, k ≤ sc σ → bd (2 * k + 1) (K + 6) (jsum σ t y i j k)
  | 0, _ => b_0.mono (by
      rw [Nat.one_mul, Nat.mul_zero, Nat.zero_add, Nat.one_mul]
      exact Nat.pow_le_pow_right (by decide) (by omega))
  | k + 1, hk => by
    have hc := hσ.2.2.1
    have ih := jsum_bd (i := i) (j := j) hσ ht hy hK k (by omega)
    have h2 := jmid_bd (i := i) (j := j) (n := 2 * k + 1) hσ (show k < sc σ by omega) ht hy hK ih (by omega)
    have h3 := jend_bd (i := i) (j := j) (n := 2 * k + 1 + 1) hσ (show k < sc σ by omega) ht hy hK h2 (by omega)
    exact h3
theorem js_bd {σ : Sys} {K i j : Nat} {t : UInt64} {y : Nat → UInt64} (hσ : oks σ) (ht : bd 1 K t) (hy : ∀ j, j < sn σ → bd 1 K (y j)) (hK : K + 11 ≤ 1000) : bd 1 (K + 11) (js σ t y i j) := by
  refine (jsum_bd (i := i) (j := j) hσ ht hy hK (sc σ) (Nat.le_refl _)).mono ?_
  have hc := hσ.2.2.1
  calc (2 * sc σ + 1) * 2 ^ (K + 6 + 1074) ≤ 2 ^ 5 * 2 ^ (K + 6 + 1074) := Nat.mul_le_mul_right _ (by omega)
    _ = 1 * 2 ^ (K + 11 + 1074) := by rw [Nat.one_mul, ← Nat.pow_add]; exact congrArg (fun e => 2 ^ e) (by omega)
theorem mix_congr {α : Type} {n : Nat} {g g' f : Nat → α} (h : ∀ i, i < n → g i = g' i) : mix n g f = mix n g' f := by
  funext j
  by_cases h2 : j < n
  · simp [mix, h2, h j h2]
  · simp [mix, h2]
def mv (y : Nat → UInt64) (b : UInt64) (k : Nat → UInt64) (i : Nat) : UInt64 := FP.dadd (y i) (FP.dmul b (k i))
theorem mv_bd {y k : Nat → UInt64} {b : UInt64} {i A B C K : Nat} (hy : bd 1 C (y i)) (hb : bd 1 A b) (hk : bd 1 B (k i)) (h : A + B < K) (h20 : C < K) (hK : K ≤ 1000) : bd 1 K (mv y b k i) := bd_add hy (bd_mul hb hk (Nat.le_refl _) (by omega)) h20 h hK
theorem mv_mix {n : Nat} {y k q f : Nat → UInt64} {b : UInt64} : mix n (mv y b (mix n k q)) f = mix n (mv y b k) f := mix_congr (fun i hi => by unfold mv; rw [mix_lt hi])
theorem mv_mixy {n : Nat} {y k q f : Nat → UInt64} {b : UInt64} : mix n (mv (mix n y q) b k) f = mix n (mv y b k) f := mix_congr (fun i hi => by unfold mv; rw [mix_lt hi])
