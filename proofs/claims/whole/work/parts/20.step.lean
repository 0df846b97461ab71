/-! a step of any method: where it would lead; none when it fails -/
def lk (L : List (Nat → UInt64)) (k : Nat) : Nat → UInt64 := L.getD k (fun _ => FP.dconst0)
def stepZ (σ : Sys) (t : UInt64) (y : Nat → UInt64) (r : UInt64) (g : Nat → UInt64) (b : Bool) : Nat → Option (Nat → UInt64)
  | 0 => some (mv y r (fs σ t y))
  | 1 => some (rgz σ t y r)
  | 2 => some (paz σ t y r)
  | 3 => some (if b then adz σ t y r g else rgz σ t y r)
  | 4 => imp σ (FP.dadd t r) r y 8 y
  | _ => some (miz σ t y r)
def stepR (σ : Sys) (t : UInt64) (y : Nat → UInt64) (r : UInt64) (g : Nat → UInt64) (b : Bool) (m : Nat) : Option (Nat → UInt64) := match stepZ σ t y r g b m with
  | none => none
  | some z => if dgt (mxv z (sn σ)) k1000000 then none else some z
theorem imp_fin {σ : Sys} {e r : UInt64} {y : Nat → UInt64} (hσ : oks σ) (he : bd 1 17 e) (hr : bd 1 2 r) (hy : ∀ i, i < sn σ → bd 1 20 (y i)) : ∀ (f : Nat) (z z' : Nat → UInt64), (∀ i, i < sn σ → bd 1 30 (z i)) → imp σ e r y f z = some z' → ∀ i, i < sn σ → fin (z' i)
  | 0, z, z', _, h => by unfold imp at h; cases h
  | f + 1, z, z', hz, h => by
    have hn : sn σ ≤ 3 := hσ.2.1
    have hk : okim σ e r y z := ⟨hσ, he, hr, hy, hz⟩
    have hbm : bM (sn σ) 44 73 (smG σ e r z) (srG σ e r y z) := ⟨fun i j _ _ => sm_bd hk, fun i hi => sr_bd hk hi⟩
    unfold imp at h
    cases hq : elm (sn σ) (smG σ e r z) (srG σ e r y z) (sn σ) with
    | none => rw [hq] at h; cases h
    | some q =>
      rw [hq] at h
      dsimp only at h
      obtain ⟨hqb, hql⟩ := elm_bd hbm hn (sn σ) q (Nat.le_refl _) hq
      have hqb : bM (sn σ) 269 298 q.1 q.2 := hqb.up hn
      have hdb := fun i (hi : i < sn σ) => (((sbd_bd hqb hql hn (sn σ) (Nat.le_refl _)).1 i (by omega) hi).up (show db (sn σ - 1) ≤ 931 by rcases (show sn σ = 1 ∨ sn σ = 2 ∨ sn σ = 3 by have := hσ.1; omega) with h | h | h <;> rw [h] <;> decide))
      have hzb2 : ∀ i, i < sn σ → bd 1 932 (zsb z (sbd q.1 q.2 (sn σ) (sn σ)) i) := fun i hi => bd_sub (hz i hi) (hdb i hi) (by decide) (by decide) (by decide)
      by_cases c1 : dgt (mxv (sbd q.1 q.2 (sn σ) (sn σ)) (sn σ)) k1em09
      · rw [if_pos c1] at h
        by_cases c2 : dgt (mxv (zsb z (sbd q.1 q.2 (sn σ) (sn σ))) (sn σ)) k1000000000
        · rw [if_pos c2] at h; cases h
        · rw [if_neg c2] at h
          exact imp_fin hσ he hr hy f _ z' (fun i hi => mx_bd (fun i hi => (hzb2 i hi).1) c2 hi ⟨b_k1000000000.1, by decide +kernel⟩) h
      · rw [if_neg c1] at h
        cases h
        exact fun i hi => (hzb2 i hi).1
theorem stepZ_fin {σ : Sys} {t r : UInt64} {y g z : Nat → UInt64} {b : Bool} {m : Nat} (hk : okst σ t y r) (hg : b = true → ∀ i, i < sn σ → bd 1 50 (g i)) (h : stepZ σ t y r g b m = some z) : ∀ i, i < sn σ → fin (z i) := by
  intro i hi
  rcases (show m = 0 ∨ m = 1 ∨ m = 2 ∨ m = 3 ∨ m = 4 ∨ ∃ k, m = k + 5 by
    rcases Nat.lt_or_ge m 5 with h | h
    · omega
    · exact Or.inr (Or.inr (Or.inr (Or.inr (Or.inr ⟨m - 5, by omega⟩))))) with rfl | rfl | rfl | rfl | rfl | ⟨k, rfl⟩
  · cases h; exact (mv1_bd hk hk.2.2.1 hi).1
  · cases h; exact (rgz_bd hk hi).1
  · cases h; exact (paz_bd hk hi).1
  · cases h
    cases b with
    | true => exact (adz_bd hk (hg rfl) hi).1
    | false => exact (rgz_bd hk hi).1
  · exact imp_fin hk.1 (t2_bd hk hk.2.2.1) hk.2.2.1 hk.2.2.2 8 y z (fun i hi => (hk.2.2.2 i hi).up (by decide)) h i hi
  · cases h; exact (miz_bd hk hi).1
theorem stepR_bd {σ : Sys} {t r : UInt64} {y g z : Nat → UInt64} {b : Bool} {m : Nat} (hk : okst σ t y r) (hg : b = true → ∀ i, i < sn σ → bd 1 50 (g i)) (h : stepR σ t y r g b m = some z) : ∀ i, i < sn σ → bd 1 20 (z i) := by
  intro i hi
  unfold stepR at h
  cases hz : stepZ σ t y r g b m with
  | none => rw [hz] at h; cases h
  | some z1 =>
    rw [hz] at h
    dsimp only at h
    by_cases c : dgt (mxv z1 (sn σ)) k1000000
    · rw [if_pos c] at h; cases h
    · rw [if_neg c] at h
      cases h
      exact mx_bd (stepZ_fin hk hg hz) c hi ⟨b_k1000000.1, by decide +kernel⟩
