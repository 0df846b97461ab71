/-! the walk over midpoints -/
def mB (S : Nat) : Nat → Nat
  | 0 => 51 + S
  | q + 1 => 2 * mB S q + 12 + S
def mid (σ : Sys) (t : UInt64) (y : Nat → UInt64) (s : UInt64) : Nat → (Nat → UInt64) × (Nat → UInt64)
  | 0 => (y, mv y s (fs σ t y))
  | q + 1 => ((mid σ t y s q).2, fun i => FP.dadd ((mid σ t y s q).1 i) (FP.dmul (FP.dmul k2 s) (fs σ (FP.dadd t (FP.dmul (FP.i2d (nI (q + 1))) s)) (mid σ t y s q).2 i)))
abbrev mst (r : UInt64) (m : Nat) : UInt64 := FP.ddiv r (FP.i2d (nI m))
def mie (σ : Sys) (t : UInt64) (y : Nat → UInt64) (r : UInt64) (m : Nat) (i : Nat) : UInt64 := FP.dmul k0_5 (FP.dadd (FP.dadd ((mid σ t y (mst r m) (m - 1)).2 i) ((mid σ t y (mst r m) (m - 1)).1 i)) (FP.dmul (mst r m) (fs σ (FP.dadd t r) (mid σ t y (mst r m) (m - 1)).2 i)))
def miz (σ : Sys) (t : UInt64) (y : Nat → UInt64) (r : UInt64) (i : Nat) : UInt64 := FP.dadd (mie σ t y r 4 i) (FP.ddiv (FP.dsub (mie σ t y r 4 i) (mie σ t y r 2 i)) k3)
theorem i2d_bd {q : Nat} (h : q ≤ 4) : bd 1 2 (FP.i2d (nI q)) := by
  rcases (show q = 0 ∨ q = 1 ∨ q = 2 ∨ q = 3 ∨ q = 4 by omega) with rfl | rfl | rfl | rfl | rfl <;> exact bd_c (by decide +kernel) (by decide +kernel)
theorem i2d_2 : lbd 1075 (FP.i2d (nI 2)) := lbd_c (by decide +kernel) (by decide +kernel)
theorem i2d_4 : lbd 1076 (FP.i2d (nI 4)) := lbd_c (by decide +kernel) (by decide +kernel)
section BDM
variable {σ : Sys} {t r s : UInt64} {y : Nat → UInt64} {i S q : Nat}
theorem mB_s : mB S (q + 1) = 2 * mB S q + 12 + S := rfl
theorem mB_ge : 51 ≤ mB S q := by
  induction q with
  | zero => unfold mB; omega
  | succ q ih => unfold mB; omega
theorem mi1_bd (h : okst σ t y r) (hs : bd 1 S s) (hS : S ≤ 1) : bd 1 (50 + S) (FP.dmul s (fs σ t y i)) := bd_mul hs (f0_bd h) (by omega) (by omega)
theorem mi0_bd (h : okst σ t y r) (hs : bd 1 S s) (hS : S ≤ 1) (hi : i < sn σ) : bd 1 (51 + S) (mv y s (fs σ t y) i) := bd_add (h.2.2.2 i hi) (mi1_bd h hs hS) (by omega) (by omega) (by omega)
theorem mit_bd (h : okst σ t y r) (hs : bd 1 S s) (hS : S ≤ 1) (hq : q ≤ 4) : bd 1 3 (FP.dmul (FP.i2d (nI q)) s) ∧ bd 1 17 (FP.dadd t (FP.dmul (FP.i2d (nI q)) s)) := by
  have h1 : bd 1 3 (FP.dmul (FP.i2d (nI q)) s) := bd_mul (i2d_bd hq) hs (by omega) (by omega)
  exact ⟨h1, bd_add h.2.1 h1 (by decide) (by decide) (by decide)⟩
theorem mi2_bd (hs : bd 1 S s) (hS : S ≤ 1) : bd 1 (1 + S) (FP.dmul k2 s) := bd_mul b_k2 hs (by omega) (by omega)
theorem mid_bd (h : okst σ t y r) (hs : bd 1 S s) (hS : S ≤ 1) : ∀ q, q ≤ 3 → 2 * mB S q + 10 ≤ 1000 → ∀ i, i < sn σ → bd 1 (mB S q) ((mid σ t y s q).1 i) ∧ bd 1 (mB S q) ((mid σ t y s q).2 i)
  | 0, _, _ => fun i hi => ⟨(h.2.2.2 i hi).up (by unfold mB; omega), mi0_bd h hs hS hi⟩
  | q + 1, hq, hB => fun i hi => by
    have es := mB_s (S := S) (q := q)
    have hB0 : 2 * mB S q + 10 ≤ 1000 := by omega
    have ih := mid_bd h hs hS q (by omega) hB0
    have hf : bd 1 (2 * mB S q + 10) (fs σ (FP.dadd t (FP.dmul (FP.i2d (nI (q + 1))) s)) (mid σ t y s q).2 i) := fs_bd h.1 ((mit_bd h hs hS (by omega)).2.up (by have := mB_ge (S := S) (q := q); omega)) (fun i hi => (ih i hi).2) hB0
    refine ⟨(ih i hi).2.up (by omega), ?_⟩
    show bd 1 (2 * mB S q + 12 + S) _
    exact bd_add (ih i hi).1 (bd_mul (k := 2 * mB S q + 11 + S) (mi2_bd hs hS) hf (by omega) (by omega)) (by omega) (by omega) (by omega)
theorem mif_bd (h : okst σ t y r) (hs : bd 1 S s) (hS : S ≤ 1) (hq : q < 3) (hB : 2 * mB S q + 13 ≤ 1000) : bd 1 (2 * mB S q + 10) (fs σ (FP.dadd t (FP.dmul (FP.i2d (nI (q + 1))) s)) (mid σ t y s q).2 i) :=
  fs_bd h.1 ((mit_bd h hs hS (by omega)).2.up (by have := mB_ge (S := S) (q := q); omega)) (fun i hi => (mid_bd h hs hS q (by omega) (by omega) i hi).2) (by omega)
theorem mig_bd (h : okst σ t y r) (hs : bd 1 S s) (hS : S ≤ 1) (hq : q < 3) (hB : 2 * mB S q + 13 ≤ 1000) : bd 1 (2 * mB S q + 11 + S) (FP.dmul (FP.dmul k2 s) (fs σ (FP.dadd t (FP.dmul (FP.i2d (nI (q + 1))) s)) (mid σ t y s q).2 i)) :=
  bd_mul (mi2_bd hs hS) (mif_bd h hs hS hq hB) (by omega) (by omega)
theorem mil_bd (h : okst σ t y r) (hs : bd 1 S s) (hS : S ≤ 1) (hq : q ≤ 3) (hB : 2 * mB S q + 13 ≤ 1000) : bd 1 (2 * mB S q + 10) (fs σ (FP.dadd t r) (mid σ t y s q).2 i) :=
  fs_bd h.1 ((t2_bd h h.2.2.1).up (by have := mB_ge (S := S) (q := q); omega)) (fun i hi => (mid_bd h hs hS q hq (by omega) i hi).2) (by omega)
theorem mie_bd {m : Nat} (h : okst σ t y r) (hs : bd 1 S (mst r m)) (hS : S ≤ 1) (hm : m - 1 ≤ 3) (hB : 2 * mB S (m - 1) + 13 ≤ 1000) (hi : i < sn σ) : bd 1 (mB S (m - 1) + 1) (FP.dadd ((mid σ t y (mst r m) (m - 1)).2 i) ((mid σ t y (mst r m) (m - 1)).1 i)) ∧ bd 1 (2 * mB S (m - 1) + 10 + S) (FP.dmul (mst r m) (fs σ (FP.dadd t r) (mid σ t y (mst r m) (m - 1)).2 i)) ∧ bd 1 (2 * mB S (m - 1) + 11 + S) (FP.dadd (FP.dadd ((mid σ t y (mst r m) (m - 1)).2 i) ((mid σ t y (mst r m) (m - 1)).1 i)) (FP.dmul (mst r m) (fs σ (FP.dadd t r) (mid σ t y (mst r m) (m - 1)).2 i))) ∧ bd 1 (2 * mB S (m - 1) + 11 + S) (mie σ t y r m i) := by
  have hg := mB_ge (S := S) (q := m - 1)
  obtain ⟨h1, h2⟩ := mid_bd h hs hS (m - 1) hm (by omega) i hi
  have h3 : bd 1 (mB S (m - 1) + 1) (FP.dadd ((mid σ t y (mst r m) (m - 1)).2 i) ((mid σ t y (mst r m) (m - 1)).1 i)) := bd_add h2 h1 (by omega) (by omega) (by omega)
  have h4 : bd 1 (2 * mB S (m - 1) + 10 + S) (FP.dmul (mst r m) (fs σ (FP.dadd t r) (mid σ t y (mst r m) (m - 1)).2 i)) := bd_mul hs (mil_bd h hs hS hm hB) (by omega) (by omega)
  have h5 := bd_add (k := 2 * mB S (m - 1) + 11 + S) h3 h4 (by omega) (by omega) (by omega)
  exact ⟨h3, h4, h5, bd_mul b_k0_5 h5 (by omega) (by omega)⟩
theorem ms2_bd (h : okst σ t y r) : bd 1 1 (mst r 2) := bd_div h.2.2.1 i2d_2 (by decide) (by decide)
theorem ms4_bd (h : okst σ t y r) : bd 1 0 (mst r 4) := bd_div h.2.2.1 i2d_4 (by decide) (by decide)
theorem me4_bd (h : okst σ t y r) (hi : i < sn σ) : bd 1 995 (mie σ t y r 4 i) := (mie_bd (m := 4) h (ms4_bd h) (by decide) (by decide) (by decide) hi).2.2.2
theorem me2_bd (h : okst σ t y r) (hi : i < sn σ) : bd 1 246 (mie σ t y r 2 i) := (mie_bd (m := 2) h (ms2_bd h) (by decide) (by decide) (by decide) hi).2.2.2
theorem miz_bd (h : okst σ t y r) (hi : i < sn σ) : bd 1 998 (miz σ t y r i) := bd_add (me4_bd h hi) (bd_div (k := 997) (bd_sub (k := 996) (me4_bd h hi) (me2_bd h hi) (by decide) (by decide) (by decide)) lb_k3 (by decide) (by decide)) (by decide) (by decide) (by decide)
end BDM
