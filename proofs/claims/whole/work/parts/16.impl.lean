/-! the implicit step's equations -/
def agM (n : Nat) (M M' : Nat → Nat → UInt64) : Prop := ∀ i j, i < n → j < n → M i j = M' i j
def agV (n : Nat) (R R' : Nat → UInt64) : Prop := ∀ i, i < n → R i = R' i
theorem agV.rf {n : Nat} {R : Nat → UInt64} : agV n R R := fun _ _ => rfl
theorem agM.rf {n : Nat} {M : Nat → Nat → UInt64} : agM n M M := fun _ _ _ _ => rfl
def ur (M : Nat → Nat → UInt64) (i : Nat) (v : Nat → UInt64) : Nat → Nat → UInt64 := fun a => cond (Nat.beq a i) v (M a)
def u2 (M : Nat → Nat → UInt64) (i j : Nat) (x : UInt64) : Nat → Nat → UInt64 := ur M i (vf_upd (M i) j x)
theorem u2_s {M : Nat → Nat → UInt64} {i j : Nat} {x : UInt64} : u2 M i j x i j = x := by simp [u2, ur, vf_upd]
theorem u2_n {M : Nat → Nat → UInt64} {i j a b : Nat} {x : UInt64} (h : ¬ (a = i ∧ b = j)) : u2 M i j x a b = M a b := by
  unfold u2 ur
  by_cases ha : a = i
  · subst ha
    have hb : b ≠ j := fun q => h ⟨rfl, q⟩
    simp [vf_upd, hb]
  · have : Nat.beq a i = false := by
      cases e : Nat.beq a i with
      | false => rfl
      | true => exact absurd (Nat.eq_of_beq_eq_true e) ha
    simp [this]
theorem vu_s {f : Nat → UInt64} {j : Nat} {x : UInt64} : vf_upd f j x j = x := by simp [vf_upd]
theorem vu_n {f : Nat → UInt64} {j k : Nat} {x : UInt64} (h : k ≠ j) : vf_upd f j x k = f k := by simp [vf_upd, h]
theorem rw3 {ws : va_W} {b i : Nat} {a : Nat → Nat} {M : Nat → Nat → UInt64} {cD : ClassId} (hi : i < 3) (h0 : ws[b]? = some (a 0, dA cD 3 (M 0))) (h1 : ws[b + 1]? = some (a 1, dA cD 3 (M 1))) (h2 : ws[b + 2]? = some (a 2, dA cD 3 (M 2))) : ws[b + i]? = some (a i, dA cD 3 (M i)) := by
  rcases (show i = 0 ∨ i = 1 ∨ i = 2 by omega) with rfl | rfl | rfl
  · exact h0
  · exact h1
  · exact h2
theorem rq3 {A : Nat → Prop} {i : Nat} {a : Nat → Nat} (hi : i < 3) (h0 : A (a 0)) (h1 : A (a 1)) (h2 : A (a 2)) : A (a i) := by
  rcases (show i = 0 ∨ i = 1 ∨ i = 2 by omega) with rfl | rfl | rfl
  · exact h0
  · exact h1
  · exact h2
def smG (σ : Sys) (e r : UInt64) (z : Nat → UInt64) (i j : Nat) : UInt64 := FP.dsub (if i = j then FP.dconst1 else FP.dconst0) (FP.dmul r (js σ e z i j))
def srG (σ : Sys) (e r : UInt64) (y z : Nat → UInt64) (i : Nat) : UInt64 := FP.dsub (FP.dsub (z i) (y i)) (FP.dmul r (fs σ e z i))
def piv (M : Nat → Nat → UInt64) (c : Nat) : Nat → Nat
  | 0 => c
  | s + 1 => if dgt (sz (M (c + 1 + s) c)) (sz (M (piv M c s) c)) then c + 1 + s else piv M c s
def exM (M : Nat → Nat → UInt64) (a b : Nat) : Nat → Nat → UInt64 := fun i j => if i = a then M b j else if i = b then M a j else M i j
def exR (R : Nat → UInt64) (a b : Nat) : Nat → UInt64 := fun i => if i = a then R b else if i = b then R a else R i
def tkM (M : Nat → Nat → UInt64) (c k : Nat) : Nat → Nat → UInt64 := fun i j => if i = k ∧ c ≤ j then FP.dsub (M k j) (FP.dmul (FP.ddiv (M k c) (M c c)) (M c j)) else M i j
def tkR (M : Nat → Nat → UInt64) (R : Nat → UInt64) (c k : Nat) : Nat → UInt64 := fun i => if i = k then FP.dsub (R k) (FP.dmul (FP.ddiv (M k c) (M c c)) (R c)) else R i
def tks (M : Nat → Nat → UInt64) (R : Nat → UInt64) (c : Nat) : Nat → (Nat → Nat → UInt64) × (Nat → UInt64)
  | 0 => (M, R)
  | s + 1 => (tkM (tks M R c s).1 c (c + 1 + s), tkR (tks M R c s).1 (tks M R c s).2 c (c + 1 + s))
def elm (n : Nat) (M : Nat → Nat → UInt64) (R : Nat → UInt64) : Nat → Option ((Nat → Nat → UInt64) × (Nat → UInt64))
  | 0 => some (M, R)
  | c + 1 => match elm n M R c with
    | none => none
    | some q => if dlt (sz (q.1 (piv q.1 c (n - 1 - c)) c)) k1em09 then none else some (tks (exM q.1 c (piv q.1 c (n - 1 - c))) (exR q.2 c (piv q.1 c (n - 1 - c))) c (n - 1 - c))
def lfd (M : Nat → Nat → UInt64) (d R : Nat → UInt64) (i : Nat) : Nat → UInt64
  | 0 => R i
  | s + 1 => FP.dsub (lfd M d R i s) (FP.dmul (M i (i + 1 + s)) (d (i + 1 + s)))
def sbd (M : Nat → Nat → UInt64) (R : Nat → UInt64) (n : Nat) : Nat → (Nat → UInt64)
  | 0 => fun _ => FP.dconst0
  | q + 1 => vf_upd (sbd M R n q) (n - 1 - q) (FP.ddiv (lfd M (sbd M R n q) R (n - 1 - q) q) (M (n - 1 - q) (n - 1 - q)))
def zsb (z d : Nat → UInt64) (i : Nat) : UInt64 := FP.dsub (z i) (d i)
/-- Newton's rounds: how many are left, where z is -/
def imp (σ : Sys) (e r : UInt64) (y : Nat → UInt64) : Nat → (Nat → UInt64) → Option (Nat → UInt64)
  | 0, _ => none
  | f + 1, z => match elm (sn σ) (smG σ e r z) (srG σ e r y z) (sn σ) with
    | none => none
    | some q => if dgt (mxv (sbd q.1 q.2 (sn σ) (sn σ)) (sn σ)) k1em09 then (if dgt (mxv (zsb z (sbd q.1 q.2 (sn σ) (sn σ))) (sn σ)) k1000000000 then none else imp σ e r y f (zsb z (sbd q.1 q.2 (sn σ) (sn σ)))) else some (zsb z (sbd q.1 q.2 (sn σ) (sn σ)))
/-! what depends on the first n values alone -/
theorem vv_ag {n : Nat} {t : UInt64} {y y' : Nat → UInt64} {k : Int32} (hn : n ≤ 3) (h : agV n y y') : vv n t y k = vv n t y' k := by
  have e : mix n y (fun _ => FP.dconst0) = mix n y' (fun _ => FP.dconst0) := mix_congr h
  rw [← vv_mix (g := y) (f := fun _ => FP.dconst0) hn, e, vv_mix hn]
theorem fs_ag {σ : Sys} {t : UInt64} {y y' : Nat → UInt64} (hn : sn σ ≤ 3) (h : agV (sn σ) y y') : fs σ t y = fs σ t y' := by
  have e : mix (sn σ) y (fun _ => FP.dconst0) = mix (sn σ) y' (fun _ => FP.dconst0) := mix_congr h
  rw [← fs_mix (g := y) (f := fun _ => FP.dconst0) hn, e, fs_mix hn]
theorem jsum_ag {σ : Sys} {t : UInt64} {y y' : Nat → UInt64} {i j : Nat} (hn : sn σ ≤ 3) (h : agV (sn σ) y y') : ∀ k, jsum σ t y i j k = jsum σ t y' i j k
  | 0 => rfl
  | k + 1 => by
    show jend _ _ _ _ _ _ (jmid _ _ _ _ _ _ _) = jend _ _ _ _ _ _ (jmid _ _ _ _ _ _ _)
    unfold jend jmid
    rw [jsum_ag hn h k, vv_ag hn h, vv_ag hn h]
theorem js_ag {σ : Sys} {t : UInt64} {y y' : Nat → UInt64} {i j : Nat} (hn : sn σ ≤ 3) (h : agV (sn σ) y y') : js σ t y i j = js σ t y' i j := jsum_ag hn h (sc σ)
theorem mxv_ag {n : Nat} {v v' : Nat → UInt64} (h : agV n v v') : ∀ k, k ≤ n → mxv v k = mxv v' k
  | 0, _ => rfl
  | k + 1, hk => by
    show (if _ then _ else _) = (if _ then _ else _)
    rw [mxv_ag h k (by omega), h k (by omega)]
theorem piv_lt {M : Nat → Nat → UInt64} {c : Nat} : ∀ s, c ≤ piv M c s ∧ piv M c s ≤ c + s
  | 0 => ⟨Nat.le_refl _, Nat.le_refl _⟩
  | s + 1 => by
    have ih := piv_lt (M := M) (c := c) s
    unfold piv
    by_cases h : dgt (sz (M (c + 1 + s) c)) (sz (M (piv M c s) c))
    · rw [if_pos h]
      exact ⟨by omega, by omega⟩
    · rw [if_neg h]
      exact ⟨ih.1, by omega⟩
/-! bounds -/
theorem lb_of {x : UInt64} (hx : fin x) (h : ¬ dlt (sz x) k1em09) : lbd 1044 x := by
  have hs : fin (sz x) ∧ (zm (sz x) = zm x) ∧ 0 ≤ zv (sz x) := by
    unfold sz
    by_cases hc : dlt x FP.dconst0
    · rw [if_pos hc]
      have hz : zv FP.dconst0 = 0 := by decide +kernel
      have h1 := (dlt_iff hx b_0.1).mp hc
      refine ⟨fin_neg hx, zm_neg x, ?_⟩
      rw [zv_neg]
      omega
    · rw [if_neg hc]
      have hz : zv FP.dconst0 = 0 := by decide +kernel
      have h1 := mt (dlt_iff hx b_0.1).mpr hc
      exact ⟨hx, rfl, by omega⟩
  have h2 := mt (dlt_iff hs.1 b_k1em09.1).mpr h
  have h3 : (2 ^ 1044 : Nat) ≤ (zv k1em09).natAbs := by decide +kernel
  have h5 : 0 ≤ zv k1em09 := by decide +kernel
  have h4 := zm_zv (sz x)
  refine ⟨hx, ?_⟩
  rw [← hs.2.1, ← h4]
  refine Nat.le_trans h3 ?_
  have h6 : zv k1em09 ≤ zv (sz x) := by omega
  generalize zv k1em09 = A at *
  generalize zv (sz x) = B at *
  omega
section BDI
variable {σ : Sys} {e r : UInt64} {y z : Nat → UInt64} {i j n B RB c k : Nat} {M : Nat → Nat → UInt64} {R d : Nat → UInt64}
/-- what holds at a round of the implicit step -/
def okim (σ : Sys) (e r : UInt64) (y z : Nat → UInt64) : Prop := oks σ ∧ bd 1 17 e ∧ bd 1 2 r ∧ (∀ i, i < sn σ → bd 1 20 (y i)) ∧ ∀ i, i < sn σ → bd 1 30 (z i)
theorem imf_bd (h : okim σ e r y z) : bd 1 70 (fs σ e z i) := fs_bd (K := 30) h.1 (h.2.1.up (by decide)) h.2.2.2.2 (by decide)
theorem imj_bd (h : okim σ e r y z) : bd 1 41 (js σ e z i j) := js_bd (K := 30) h.1 (h.2.1.up (by decide)) h.2.2.2.2 (by decide)
theorem sr1_bd (h : okim σ e r y z) (hi : i < sn σ) : bd 1 31 (FP.dsub (z i) (y i)) := bd_sub (h.2.2.2.2 i hi) (h.2.2.2.1 i hi) (by decide) (by decide) (by decide)
theorem sr2_bd (h : okim σ e r y z) : bd 1 72 (FP.dmul r (fs σ e z i)) := bd_mul h.2.2.1 (imf_bd h) (by decide) (by decide)
theorem sr_bd (h : okim σ e r y z) (hi : i < sn σ) : bd 1 73 (srG σ e r y z i) := bd_sub (sr1_bd h hi) (sr2_bd h) (by decide) (by decide) (by decide)
theorem sm1_bd (h : okim σ e r y z) : bd 1 43 (FP.dmul r (js σ e z i j)) := bd_mul h.2.2.1 (imj_bd h) (by decide) (by decide)
theorem sm_bd (h : okim σ e r y z) : bd 1 44 (smG σ e r z i j) := by
  unfold smG
  split
  · exact bd_sub b_1 (sm1_bd h) (by decide) (by decide) (by decide)
  · exact bd_sub b_0 (sm1_bd h) (by decide) (by decide) (by decide)
/-- entries and rests of the first n are bounded -/
def bM (n B RB : Nat) (M : Nat → Nat → UInt64) (R : Nat → UInt64) : Prop := (∀ i j, i < n → j < n → bd 1 B (M i j)) ∧ ∀ i, i < n → bd 1 RB (R i)
/-- the same of the rows c and k alone -/
def bR (n B RB c k : Nat) (M : Nat → Nat → UInt64) (R : Nat → UInt64) : Prop := (∀ j, j < n → bd 1 B (M c j)) ∧ (∀ j, j < n → bd 1 B (M k j)) ∧ bd 1 RB (R c) ∧ bd 1 RB (R k)
theorem bM.rows (h : bM n B RB M R) (hc : c < n) (hk : k < n) : bR n B RB c k M R := ⟨fun j hj => h.1 c j hc hj, fun j hj => h.1 k j hk hj, h.2 c hc, h.2 k hk⟩
theorem tq_bd (h : bR n B RB c k M R) (hc : c < n) (hk : k < n) (hl : lbd 1044 (M c c)) (hB : B + 30 ≤ 1000) : bd 1 (B + 30) (FP.ddiv (M k c) (M c c)) := bd_div (h.2.1 c hc) hl (by omega) (by omega)
theorem tm_bd (h : bR n B RB c k M R) (hc : c < n) (hk : k < n) (hj : j < n) (hl : lbd 1044 (M c c)) (hB : 2 * B + 31 ≤ 1000) : bd 1 (2 * B + 30) (FP.dmul (FP.ddiv (M k c) (M c c)) (M c j)) ∧ bd 1 (2 * B + 31) (FP.dsub (M k j) (FP.dmul (FP.ddiv (M k c) (M c c)) (M c j))) := by
  have h1 : bd 1 (2 * B + 30) (FP.dmul (FP.ddiv (M k c) (M c c)) (M c j)) := bd_mul (tq_bd h hc hk hl (by omega)) (h.1 j hj) (by omega) (by omega)
  exact ⟨h1, bd_sub (h.2.1 j hj) h1 (by omega) (by omega) hB⟩
theorem tr_bd (h : bR n B RB c k M R) (hc : c < n) (hk : k < n) (hl : lbd 1044 (M c c)) (hB : B + RB + 31 ≤ 1000) : bd 1 (B + RB + 30) (FP.dmul (FP.ddiv (M k c) (M c c)) (R c)) ∧ bd 1 (B + RB + 31) (FP.dsub (R k) (FP.dmul (FP.ddiv (M k c) (M c c)) (R c))) := by
  have h1 : bd 1 (B + RB + 30) (FP.dmul (FP.ddiv (M k c) (M c c)) (R c)) := bd_mul (tq_bd h hc hk hl (by omega)) h.2.2.1 (by omega) (by omega)
  exact ⟨h1, bd_sub h.2.2.2 h1 (by omega) (by omega) hB⟩
theorem ex_bd (h : bM n B RB M R) {a b : Nat} (ha : a < n) (hb : b < n) : bM n B RB (exM M a b) (exR R a b) := by
  refine ⟨fun i j hi hj => ?_, fun i hi => ?_⟩
  · unfold exM
    split
    · exact h.1 b j hb hj
    · split
      · exact h.1 a j ha hj
      · exact h.1 i j hi hj
  · unfold exR
    split
    · exact h.2 b hb
    · split
      · exact h.2 a ha
      · exact h.2 i hi
/-- after s rows were taken from: the rows beyond are as they were, all are bounded -/
theorem tks_bd (h : bM n B RB M R) (hc : c < n) (hl : lbd 1044 (M c c)) (hB : 2 * B + 31 ≤ 1000) (hRB : B + RB + 31 ≤ 1000) : ∀ s, s ≤ n - 1 - c → (∀ i, (i ≤ c ∨ c + s < i) → (tks M R c s).1 i = M i ∧ (tks M R c s).2 i = R i) ∧ bM n (2 * B + 31) (B + RB + 31) (tks M R c s).1 (tks M R c s).2
  | 0, _ => ⟨fun i _ => ⟨rfl, rfl⟩, fun i j hi hj => (h.1 i j hi hj).up (by omega), fun i hi => (h.2 i hi).up (by omega)⟩
  | s + 1, hs => by
    obtain ⟨a1, a2⟩ := tks_bd h hc hl hB hRB s (by omega)
    have hk : c + 1 + s < n := by omega
    have ec := a1 c (Or.inl (Nat.le_refl _))
    have ek := a1 (c + 1 + s) (Or.inr (by omega))
    refine ⟨fun i hi => ?_, fun i j hi hj => ?_, fun i hi => ?_⟩
    · have hne : ¬ i = c + 1 + s := by omega
      have := a1 i (by omega)
      refine ⟨?_, ?_⟩
      · rw [← this.1]
        funext j
        show (if _ then _ else _) = _
        rw [if_neg (fun q => hne q.1)]
      · rw [← this.2]
        show (if _ then _ else _) = _
        rw [if_neg hne]
    · show bd _ _ (if _ then _ else _)
      split
      · rw [ec.1, ek.1]
        exact (tm_bd (h.rows hc hk) hc hk hj hl hB).2
      · exact a2.1 i j hi hj
    · show bd _ _ (if _ then _ else _)
      split
      · rw [ec.1, ek.1, ec.2, ek.2]
        exact (tr_bd (h.rows hc hk) hc hk hl hRB).2
      · exact a2.2 i hi
def mb : Nat → Nat
  | 0 => 44
  | 1 => 119
  | _ => 269
def rb : Nat → Nat
  | 0 => 73
  | 1 => 148
  | _ => 298
/-- the bounds and the pivots after c columns -/
theorem elm_bd (h : bM n 44 73 M R) (hn : n ≤ 3) : ∀ (c : Nat) (q : (Nat → Nat → UInt64) × (Nat → UInt64)), c ≤ n → elm n M R c = some q → bM n (mb c) (rb c) q.1 q.2 ∧ ∀ i, i < c → lbd 1044 (q.1 i i)
  | 0, q, _, hq => by
    cases hq
    exact ⟨h, fun i hi => absurd hi (Nat.not_lt_zero _)⟩
  | c + 1, q, hc, hq => by
    show _ ∧ _
    unfold elm at hq
    cases hp : elm n M R c with
    | none => rw [hp] at hq; cases hq
    | some q0 =>
      rw [hp] at hq
      dsimp only at hq
      obtain ⟨b1, b2⟩ := elm_bd h hn c q0 (by omega) hp
      have hpv := piv_lt (M := q0.1) (c := c) (n - 1 - c)
      generalize hpe : piv q0.1 c (n - 1 - c) = p at hq hpv
      have hpn : p < n := by omega
      split at hq
      · cases hq
      · rename_i hlt
        cases hq
        have hcn : c < n := by omega
        have b3 := ex_bd b1 hcn hpn
        have hcc : exM q0.1 c p c c = q0.1 p c := by simp [exM]
        have hl : lbd 1044 (exM q0.1 c p c c) := by rw [hcc]; exact lb_of (b1.1 p c hpn hcn).1 hlt
        have hmb : c = 0 ∧ mb c = 44 ∧ rb c = 73 ∧ mb (c + 1) = 119 ∧ rb (c + 1) = 148 ∨ c = 1 ∧ mb c = 119 ∧ rb c = 148 ∧ mb (c + 1) = 269 ∧ rb (c + 1) = 298 ∨ c = 2 ∧ mb c = 269 ∧ rb c = 298 ∧ mb (c + 1) = 269 ∧ rb (c + 1) = 298 := by
          rcases (show c = 0 ∨ c = 1 ∨ c = 2 by omega) with rfl | rfl | rfl <;> simp [mb, rb]
        rcases hmb with ⟨h0, e1, e2, e3, e4⟩ | ⟨h0, e1, e2, e3, e4⟩ | ⟨h0, e1, e2, e3, e4⟩
        · rw [e1, e2] at b3
          rw [e3, e4]
          obtain ⟨t1, t2⟩ := tks_bd b3 hcn hl (by decide) (by decide) (n - 1 - c) (Nat.le_refl _)
          refine ⟨t2, fun i hi => ?_⟩
          rw [(t1 i (Or.inl (by omega))).1]
          by_cases hic : i = c
          · subst hic; exact hl
          · have : exM q0.1 c p i i = q0.1 i i := by
              have hp2 : ¬ i = p := by omega
              simp [exM, hic, hp2]
            rw [this]
            exact b2 i (by omega)
        · rw [e1, e2] at b3
          rw [e3, e4]
          obtain ⟨t1, t2⟩ := tks_bd b3 hcn hl (by decide) (by decide) (n - 1 - c) (Nat.le_refl _)
          refine ⟨t2, fun i hi => ?_⟩
          rw [(t1 i (Or.inl (by omega))).1]
          by_cases hic : i = c
          · subst hic; exact hl
          · have : exM q0.1 c p i i = q0.1 i i := by
              have hp2 : ¬ i = p := by omega
              simp [exM, hic, hp2]
            rw [this]
            exact b2 i (by omega)
        · rw [e1, e2] at b3
          rw [e3, e4]
          have e0 : n - 1 - c = 0 := by omega
          rw [e0]
          refine ⟨b3, fun i hi => ?_⟩
          show lbd 1044 (exM q0.1 c p i i)
          by_cases hic : i = c
          · subst hic; exact hl
          · have : exM q0.1 c p i i = q0.1 i i := by
              have hp2 : ¬ i = p := by omega
              simp [exM, hic, hp2]
            rw [this]
            exact b2 i (by omega)
def db : Nat → Nat
  | 0 => 328
  | 1 => 629
  | _ => 931
theorem lfd_bd {DB : Nat} (h : bM n 269 298 M R) (hi : i < n) (hDB : 28 ≤ DB ∧ DB ≤ 629) : ∀ s, i + s < n → s ≤ 2 → (∀ a, a < s → bd 1 DB (d (i + 1 + a))) → bd 1 (270 + DB + s) (lfd M d R i s) ∧ ∀ a, a < s → bd 1 (269 + DB) (FP.dmul (M i (i + 1 + a)) (d (i + 1 + a)))
  | 0, _, _, _ => ⟨(h.2 i hi).up (by omega), fun a ha => absurd ha (Nat.not_lt_zero _)⟩
  | s + 1, hs, h2, hd => by
    obtain ⟨a1, a2⟩ := lfd_bd h hi hDB s (by omega) (by omega) (fun a ha => hd a (by omega))
    have hm : bd 1 (269 + DB) (FP.dmul (M i (i + 1 + s)) (d (i + 1 + s))) := bd_mul (h.1 i (i + 1 + s) hi (by omega)) (hd s (by omega)) (by omega) (by omega)
    refine ⟨bd_sub a1 hm (by omega) (by omega) (by omega), fun a ha => ?_⟩
    by_cases hlt : a < s
    · exact a2 a hlt
    · rw [show a = s by omega]; exact hm
/-- d's last q entries are bounded -/
theorem sbd_bd (h : bM n 269 298 M R) (hl : ∀ i, i < n → lbd 1044 (M i i)) (hn : n ≤ 3) : ∀ q, q ≤ n → (∀ i, n - q ≤ i → i < n → bd 1 (db (q - 1)) (sbd M R n q i)) ∧ (q < n → bd 1 (db q) (FP.ddiv (lfd M (sbd M R n q) R (n - 1 - q) q) (M (n - 1 - q) (n - 1 - q))))
  | q, hq => by
    have step : ∀ q, q < n → (∀ i, n - q ≤ i → i < n → bd 1 (db (q - 1)) (sbd M R n q i)) → bd 1 (db q) (FP.ddiv (lfd M (sbd M R n q) R (n - 1 - q) q) (M (n - 1 - q) (n - 1 - q))) := by
      intro q hq hd
      rcases (show q = 0 ∨ q = 1 ∨ q = 2 by omega) with rfl | rfl | rfl
      · exact bd_div (h.2 (n - 1 - 0) (by omega)) (hl _ (by omega)) (by decide) (by decide)
      · have h1 := (lfd_bd (i := n - 1 - 1) (d := sbd M R n 1) (DB := 328) h (by omega) (by decide) 1 (by omega) (by decide) (fun a ha => hd _ (by omega) (by omega))).1
        exact bd_div h1 (hl _ (by omega)) (by decide) (by decide)
      · have h1 := (lfd_bd (i := n - 1 - 2) (d := sbd M R n 2) (DB := 629) h (by omega) (by decide) 2 (by omega) (by decide) (fun a ha => hd _ (by omega) (by omega))).1
        exact bd_div h1 (hl _ (by omega)) (by decide) (by decide)
    have main : ∀ q, q ≤ n → ∀ i, n - q ≤ i → i < n → bd 1 (db (q - 1)) (sbd M R n q i) := by
      intro q
      induction q with
      | zero => intro _ i h1 h2; omega
      | succ q ih =>
        intro hq i h1 h2
        have hs := step q (by omega) (ih (by omega))
        show bd _ _ (vf_upd _ _ _ i)
        by_cases hi : i = n - 1 - q
        · subst hi
          rw [vu_s]
          exact hs
        · rw [vu_n hi]
          refine (ih (by omega) i (by omega) h2).up ?_
          rcases (show q = 0 ∨ q = 1 ∨ q = 2 by omega) with rfl | rfl | rfl
          · omega
          · decide
          · decide
    exact ⟨main q hq, fun h1 => step q h1 (main q hq)⟩
end BDI
theorem i32_dec (x : Int32) : x + Int32.ofInt (-1) = x - nI 1 := by
  rw [Int32.sub_eq_add_neg]
  congr 1
theorem lfd_ag {M : Nat → Nat → UInt64} {d d' R : Nat → UInt64} {i : Nat} : ∀ s, (∀ a, a < s → d (i + 1 + a) = d' (i + 1 + a)) → lfd M d R i s = lfd M d' R i s
  | 0, _ => rfl
  | s + 1, h => by
    show FP.dsub _ _ = FP.dsub _ _
    rw [lfd_ag s (fun a ha => h a (by omega)), h s (by omega)]
theorem elm_none {n c : Nat} {M : Nat → Nat → UInt64} {R : Nat → UInt64} (h : elm n M R c = none) : ∀ {k : Nat}, c ≤ k → elm n M R k = none := by
  intro k hk
  induction k with
  | zero => rw [show c = 0 by omega] at h; exact h
  | succ k ih =>
    by_cases hc : c = k + 1
    · rw [← hc]; exact h
    · unfold elm
      rw [ih (by omega)]
theorem bM_rows {n B RB c s : Nat} {M : Nat → Nat → UInt64} {R : Nat → UInt64} (h : bM n B RB M R) (ht : ∀ i, (i ≤ c ∨ c + s < i) → (tks M R c s).1 i = M i ∧ (tks M R c s).2 i = R i) (hc : c < n) (hk : c + 1 + s < n) : bR n B RB c (c + 1 + s) (tks M R c s).1 (tks M R c s).2 := by
  have e1 := ht c (Or.inl (Nat.le_refl _))
  have e2 := ht (c + 1 + s) (Or.inr (by omega))
  refine ⟨fun j hj => ?_, fun j hj => ?_, ?_, ?_⟩
  · rw [e1.1]; exact h.1 c j hc hj
  · rw [e2.1]; exact h.1 _ j hk hj
  · rw [e1.2]; exact h.2 c hc
  · rw [e2.2]; exact h.2 _ hk
theorem bM.up {n : Nat} {M : Nat → Nat → UInt64} {R : Nat → UInt64} (h : bM n (mb n) (rb n) M R) (hn : n ≤ 3) : bM n 269 298 M R := by
  have h1 : mb n ≤ 269 ∧ rb n ≤ 298 := by rcases (show n = 0 ∨ n = 1 ∨ n = 2 ∨ n = 3 by omega) with rfl | rfl | rfl | rfl <;> decide
  exact ⟨fun i j hi hj => (h.1 i j hi hj).up h1.1, fun i hi => (h.2 i hi).up h1.2⟩
theorem sz_spec {x : UInt64} (hx : fin x) : fin (sz x) ∧ zv (sz x) = (zm x : Int) := by
  have hz : zv FP.dconst0 = 0 := by decide +kernel
  have h4 := zm_zv x
  unfold sz
  by_cases hc : dlt x FP.dconst0
  · rw [if_pos hc]
    have h1 := (dlt_iff hx b_0.1).mp hc
    refine ⟨fin_neg hx, ?_⟩
    rw [zv_neg]
    omega
  · rw [if_neg hc]
    have h1 := mt (dlt_iff hx b_0.1).mpr hc
    exact ⟨hx, by omega⟩
theorem mxv_spec {v : Nat → UInt64} {n : Nat} (h : ∀ i, i < n → fin (v i)) : ∀ k, k ≤ n → fin (mxv v k) ∧ 0 ≤ zv (mxv v k) ∧ ∀ i, i < k → (zm (v i) : Int) ≤ zv (mxv v k)
  | 0, _ => ⟨b_0.1, (show (0 : Int) ≤ zv FP.dconst0 by decide +kernel), fun i hi => absurd hi (Nat.not_lt_zero _)⟩
  | k + 1, hk => by
    obtain ⟨h1, h2, h3⟩ := mxv_spec h k (by omega)
    obtain ⟨s1, s2⟩ := sz_spec (h k (by omega))
    unfold mxv
    by_cases hc : dgt (sz (v k)) (mxv v k)
    · rw [if_pos hc]
      have h4 := (dgt_iff s1 h1).mp hc
      refine ⟨s1, by omega, fun i hi => ?_⟩
      by_cases hik : i = k
      · subst hik; omega
      · have := h3 i (by omega); omega
    · rw [if_neg hc]
      have h4 := mt (dgt_iff s1 h1).mpr hc
      refine ⟨h1, h2, fun i hi => ?_⟩
      by_cases hik : i = k
      · subst hik; omega
      · exact h3 i (by omega)
/-- the greatest is not above w: all are bounded by w -/
theorem mx_bd {v : Nat → UInt64} {n i K : Nat} {w : UInt64} (h : ∀ i, i < n → fin (v i)) (hc : ¬ dgt (mxv v n) w) (hi : i < n) (hw : fin w ∧ zv w ≤ ((2 ^ (K + 1074) : Nat) : Int)) : bd 1 K (v i) := by
  obtain ⟨h1, h2, h3⟩ := mxv_spec h n (Nat.le_refl _)
  have h4 := mt (dgt_iff h1 hw.1).mpr hc
  have h5 := h3 i hi
  refine ⟨h i hi, ?_⟩
  rw [Nat.one_mul]
  have h6 := hw.2
  generalize 2 ^ (K + 1074) = P at *
  omega
