/-! the steps, as functions of the system, the time t, the values y, the size r -/
def rk2 (σ : Sys) (t : UInt64) (y : Nat → UInt64) (r : UInt64) : Nat → UInt64 := fs σ (FP.dadd t (FP.dmul k0_5 r)) (mv y (FP.dmul k0_5 r) (fs σ t y))
def rk3 (σ : Sys) (t : UInt64) (y : Nat → UInt64) (r : UInt64) : Nat → UInt64 := fs σ (FP.dadd t (FP.dmul k0_5 r)) (mv y (FP.dmul k0_5 r) (rk2 σ t y r))
def rk4 (σ : Sys) (t : UInt64) (y : Nat → UInt64) (r : UInt64) : Nat → UInt64 := fs σ (FP.dadd t r) (mv y r (rk3 σ t y r))
def rgz (σ : Sys) (t : UInt64) (y : Nat → UInt64) (r : UInt64) (i : Nat) : UInt64 := FP.dadd (y i) (FP.dmul (FP.ddiv r k6) (FP.dadd (FP.dadd (FP.dadd (fs σ t y i) (FP.dmul k2 (rk2 σ t y r i))) (FP.dmul k2 (rk3 σ t y r i))) (rk4 σ t y r i)))
def pk3 (σ : Sys) (t : UInt64) (y : Nat → UInt64) (r : UInt64) : Nat → UInt64 := fs σ (FP.dadd t (FP.dmul k0_75 r)) (mv y (FP.dmul k0_75 r) (rk2 σ t y r))
def paz (σ : Sys) (t : UInt64) (y : Nat → UInt64) (r : UInt64) (i : Nat) : UInt64 := FP.dadd (y i) (FP.dmul (FP.ddiv r k9) (FP.dadd (FP.dadd (FP.dmul k2 (fs σ t y i)) (FP.dmul k3 (rk2 σ t y r i))) (FP.dmul k4 (pk3 σ t y r i))))
def pk4 (σ : Sys) (t : UInt64) (y : Nat → UInt64) (r : UInt64) : Nat → UInt64 := fs σ (FP.dadd t r) (paz σ t y r)
def pae (σ : Sys) (t : UInt64) (y : Nat → UInt64) (r : UInt64) (i : Nat) : UInt64 := FP.dmul (FP.ddiv r k72) (FP.dsub (FP.dsub (FP.dadd (FP.dmul k6 (rk2 σ t y r i)) (FP.dmul k8 (pk3 σ t y r i))) (FP.dmul k5 (fs σ t y i))) (FP.dmul k9 (pk4 σ t y r i)))
def adp (σ : Sys) (t : UInt64) (y : Nat → UInt64) (r : UInt64) (g : Nat → UInt64) (i : Nat) : UInt64 := FP.dadd (y i) (FP.dmul r (FP.dsub (FP.dmul k1_5 (fs σ t y i)) (FP.dmul k0_5 (g i))))
def adz (σ : Sys) (t : UInt64) (y : Nat → UInt64) (r : UInt64) (g : Nat → UInt64) (i : Nat) : UInt64 := FP.dadd (y i) (FP.dmul (FP.dmul k0_5 r) (FP.dadd (fs σ (FP.dadd t r) (adp σ t y r g) i) (fs σ t y i)))
/-- what holds of a step's start -/
def okst (σ : Sys) (t : UInt64) (y : Nat → UInt64) (r : UInt64) : Prop := oks σ ∧ bd 1 16 t ∧ bd 1 2 r ∧ ∀ i, i < sn σ → bd 1 20 (y i)
section BDS
variable {σ : Sys} {t r : UInt64} {y g : Nat → UInt64} {i : Nat}
theorem f0_bd (h : okst σ t y r) : bd 1 50 (fs σ t y i) := fs_bd (K := 20) h.1 (h.2.1.up (by decide)) h.2.2.2 (by decide)
theorem hr_bd (h : okst σ t y r) : bd 1 2 (FP.dmul k0_5 r) := bd_mul b_k0_5 h.2.2.1 (by decide) (by decide)
theorem h7_bd (h : okst σ t y r) : bd 1 2 (FP.dmul k0_75 r) := bd_mul b_k0_75 h.2.2.1 (by decide) (by decide)
theorem t2_bd {b : UInt64} (h : okst σ t y r) (hb : bd 1 2 b) : bd 1 17 (FP.dadd t b) := bd_add h.2.1 hb (by decide) (by decide) (by decide)
theorem mv1_bd {b : UInt64} (h : okst σ t y r) (hb : bd 1 2 b) (hi : i < sn σ) : bd 1 53 (mv y b (fs σ t y) i) := mv_bd (h.2.2.2 i hi) hb (f0_bd h) (by decide) (by decide) (by decide)
theorem rk2_bd (h : okst σ t y r) : bd 1 116 (rk2 σ t y r i) := fs_bd (K := 53) h.1 ((t2_bd h (hr_bd h)).up (by decide)) (fun i hi => mv1_bd h (hr_bd h) hi) (by decide)
theorem mv2_bd {b : UInt64} (h : okst σ t y r) (hb : bd 1 2 b) (hi : i < sn σ) : bd 1 119 (mv y b (rk2 σ t y r) i) := mv_bd (h.2.2.2 i hi) hb (rk2_bd h) (by decide) (by decide) (by decide)
theorem rk3_bd (h : okst σ t y r) : bd 1 248 (rk3 σ t y r i) := fs_bd (K := 119) h.1 ((t2_bd h (hr_bd h)).up (by decide)) (fun i hi => mv2_bd h (hr_bd h) hi) (by decide)
theorem mv3_bd {b : UInt64} (h : okst σ t y r) (hb : bd 1 2 b) (hi : i < sn σ) : bd 1 251 (mv y b (rk3 σ t y r) i) := mv_bd (h.2.2.2 i hi) hb (rk3_bd h) (by decide) (by decide) (by decide)
theorem rk4_bd (h : okst σ t y r) : bd 1 512 (rk4 σ t y r i) := fs_bd (K := 251) h.1 ((t2_bd h h.2.2.1).up (by decide)) (fun i hi => mv3_bd h h.2.2.1 hi) (by decide)
theorem rgz_bd (h : okst σ t y r) (hi : i < sn σ) : bd 1 600 (rgz σ t y r i) :=
  bd_add (h.2.2.2 i hi) (bd_mul (k := 520) (bd_div (k := 2) h.2.2.1 lb_k6 (by decide) (by decide)) (bd_add (k := 514) (bd_add (k := 251) (bd_add (k := 118) (f0_bd h) (bd_mul (k := 117) b_k2 (rk2_bd h) (by decide) (by decide)) (by decide) (by decide) (by decide)) (bd_mul (k := 249) b_k2 (rk3_bd h) (by decide) (by decide)) (by decide) (by decide) (by decide)) (rk4_bd h) (by decide) (by decide) (by decide)) (by decide) (by decide)) (by decide) (by decide) (by decide)
theorem pk3_bd (h : okst σ t y r) : bd 1 248 (pk3 σ t y r i) := fs_bd (K := 119) h.1 ((t2_bd h (h7_bd h)).up (by decide)) (fun i hi => mv2_bd h (h7_bd h) hi) (by decide)
theorem paz_bd (h : okst σ t y r) (hi : i < sn σ) : bd 1 260 (paz σ t y r i) :=
  bd_add (h.2.2.2 i hi) (bd_mul (k := 256) (bd_div (k := 2) h.2.2.1 lb_k9 (by decide) (by decide)) (bd_add (k := 252) (bd_add (k := 120) (bd_mul (k := 51) b_k2 (f0_bd h) (by decide) (by decide)) (bd_mul (k := 118) b_k3 (rk2_bd h) (by decide) (by decide)) (by decide) (by decide) (by decide)) (bd_mul (k := 250) b_k4 (pk3_bd h) (by decide) (by decide)) (by decide) (by decide) (by decide)) (by decide) (by decide)) (by decide) (by decide) (by decide)
theorem pk4_bd (h : okst σ t y r) : bd 1 530 (pk4 σ t y r i) := fs_bd (K := 260) h.1 ((t2_bd h h.2.2.1).up (by decide)) (fun i hi => paz_bd h hi) (by decide)
theorem adp_bd (h : okst σ t y r) (hg : bd 1 50 (g i)) (hi : i < sn σ) : bd 1 56 (adp σ t y r g i) :=
  bd_add (h.2.2.2 i hi) (bd_mul (k := 55) h.2.2.1 (bd_sub (k := 53) (bd_mul (k := 51) b_k1_5 (f0_bd h) (by decide) (by decide)) (bd_mul (k := 50) b_k0_5 hg (by decide) (by decide)) (by decide) (by decide) (by decide)) (by decide) (by decide)) (by decide) (by decide) (by decide)
theorem adf_bd (h : okst σ t y r) (hg : ∀ i, i < sn σ → bd 1 50 (g i)) : bd 1 122 (fs σ (FP.dadd t r) (adp σ t y r g) i) := fs_bd (K := 56) h.1 ((t2_bd h h.2.2.1).up (by decide)) (fun i hi => adp_bd h (hg i hi) hi) (by decide)
theorem adz_bd (h : okst σ t y r) (hg : ∀ i, i < sn σ → bd 1 50 (g i)) (hi : i < sn σ) : bd 1 130 (adz σ t y r g i) :=
  bd_add (h.2.2.2 i hi) (bd_mul (k := 126) (hr_bd h) (bd_add (k := 123) (adf_bd h hg) (f0_bd h) (by decide) (by decide) (by decide)) (by decide) (by decide)) (by decide) (by decide) (by decide)
end BDS
theorem mxv_mix {n : Nat} {g f : Nat → UInt64} : ∀ k, k ≤ n → mxv (mix n g f) k = mxv g k
  | 0, _ => rfl
  | k + 1, h => by
    show (if _ then _ else _) = (if _ then _ else _)
    rw [mxv_mix k (by omega), mix_lt (by omega)]
