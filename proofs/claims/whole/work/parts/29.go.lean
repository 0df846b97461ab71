section XP
variable {p : Program} {l : Launch} {e : Env} {R : Room} {s : State} {m : MethodId} {args : Array Value} {below : List Frame} {meth : Method} {c : Code} {H : Heap} {locs : List Loc} {cells slots : Nat} {Q : State → Prop}
variable {pc : Nat} {ls : Array Slot} {rest st0 : List Value} {D : va_G} {S : Type} {ad as : List Nat} {post : S → Prop} {w' : S → va_W} {A : Nat → Prop} {H0 : Heap} {a : Array Value}
theorem xjoinP {w0 w1 wk : va_W} {H1 : Heap} (hP : va_P D vwCl (w0 ++ wk) H) (hd : dj as) (e1 : (w0 ++ wk).map Prod.fst = as) (e0 : w0.map Prod.fst = ad) (e3 : w1.map Prod.fst = ad) (hF : ∀ q : Nat, q < H.size → ¬ q ∈ ad → H1[q]? = H[q]?) (hP1 : va_P D vwCl w1 H1) : va_P D vwCl (w1 ++ wk) H1 := by
  have hl : w1.length = w0.length := by
    have h1 : w0.length = ad.length := by rw [← e0, List.length_map]
    have h2 : w1.length = ad.length := by rw [← e3, List.length_map]
    omega
  intro k q hk
  by_cases h : k < w1.length
  · rw [List.getElem?_append_left h] at hk
    exact hP1 k q hk
  · rw [List.getElem?_append_right (by omega)] at hk
    have hk0 : (w0 ++ wk)[k]? = some q := by rw [List.getElem?_append_right (by omega), ← hl]; exact hk
    refine (hP k q hk0).kept (hF q.1 (hP k q hk0).lt (fun hm => ?_))
    rw [← e0] at hm
    obtain ⟨i, hi⟩ := List.getElem?_of_mem hm
    have hil : i < w0.length := by
      have := (List.getElem?_eq_some_iff.mp hi).1
      rw [List.length_map] at this
      exact this
    have a1 : as[i]? = some q.1 := by rw [← e1, List.map_append, List.getElem?_append_left (by rw [List.length_map]; exact hil)]; exact hi
    have a2 : as[k]? = some q.1 := by rw [← e1, List.getElem?_map, hk0]; rfl
    have := hd i k q.1 a1 a2
    omega
/-- back from a call whose written cells come first -/
theorem xbackP {w0 wk : va_W} {rv : S → Option Value} {g : JFrame} (hr : va_Run p l e R s m args below meth c H locs cells slots 0 0 g rest (xQ D ad rv post w' a) (fun q => q ∈ ad)) (hP : va_P D vwCl (w0 ++ wk) H) (hd : dj as) (hS : va_S A H0 H locs) (hA : ∀ q ∈ ad, A q) (e1 : (w0 ++ wk).map Prod.fst = as) (e0 : w0.map Prod.fst = ad) (e3 : ∀ u, (w' u).map Prod.fst = ad)
    (kk : ∀ (u : S) (H1 : Heap) (locs1 : List Loc), post u → va_P D vwCl (w' u ++ wk) H1 → va_S A H0 H1 locs1 → W p l e R s m args below meth c H1 locs1 cells slots Q { g with pc := g.pc + 3, stack := (rv u).toList ++ rest }) : W p l e R s m args below meth c H locs cells slots Q g := by
  intro T hT X
  obtain ⟨v, st₀, t, T', L, h0, X', hL, e4, e5, ⟨u, hv, hp, hPu, hF⟩, st⟩ := hr T hT X
  cases hv
  obtain ⟨hz, hk⟩ := hF
  rw [h0] at hz hk
  have hj : va_P D vwCl (w' u ++ wk) T'.heap := by
    rw [e4]
    exact xjoinP hP hd e1 e0 (e3 u) hk hPu
  obtain ⟨t2, a1, b1⟩ := kk u T'.heap (locs ++ L) hp hj ⟨Nat.le_trans hS.1 (by rw [e4]; exact hz), fun q h1 h2 => by rw [e4, hk q (Nat.lt_of_lt_of_le h1 hS.1) (fun z => h2 (hA q z))]; exact hS.2.1 q h1 h2, fun q hq => by
      rcases List.mem_append.mp hq with h | h
      · exact hS.2.2 q h
      · exact hA _ (hL q h)⟩ T' rfl X'
  exact ⟨t2, st t2 a1, b1⟩
theorem xciP {w0 wk : va_W} {r : S → Int32} (hr : va_Run p l e R s m args below meth c H locs cells slots 0 0 (F0 m pc ls st0) rest (xQ D ad (fun u => some (.int (r u))) post w' a) (fun q => q ∈ ad)) (hP : va_P D vwCl (w0 ++ wk) H) (hd : dj as) (hS : va_S A H0 H locs) (hA : ∀ q ∈ ad, A q) (e1 : (w0 ++ wk).map Prod.fst = as) (e0 : w0.map Prod.fst = ad) (e3 : ∀ u, (w' u).map Prod.fst = ad)
    (kk : ∀ (u : S) (H1 : Heap) (locs1 : List Loc), post u → va_P D vwCl (w' u ++ wk) H1 → va_S A H0 H1 locs1 → W p l e R s m args below meth c H1 locs1 cells slots Q (F0 m (pc + 3) ls (.int (r u) :: rest))) : W p l e R s m args below meth c H locs cells slots Q (F0 m pc ls st0) := xbackP hr hP hd hS hA e1 e0 e3 kk
end XP
def goL (m : Nat) (time : UInt64) : Nat → St → St × Bool
  | 0, S => (S, true)
  | k + 1, S => if dlt (gt S) time then (if (towS S m time).2 then goL m time k (towS S m time).1 else ((towS S m time).1, false)) else (S, true)
theorem goL_stop {m : Nat} {time : UInt64} {S : St} (h : ¬ dlt (gt S) time) : ∀ k, goL m time k S = (S, true)
  | 0 => rfl
  | k + 1 => by unfold goL; rw [if_neg h]
theorem goL_go {m q : Nat} {time : UInt64} {S : St} (h : dlt (gt S) time) (h2 : (towS S m time).2 = true) (hq : q < 100) : goL m time (100 - q) S = goL m time (100 - (q + 1)) (towS S m time).1 := by
  obtain ⟨k, hk⟩ : ∃ k, 100 - q = k + 1 := ⟨100 - q - 1, by omega⟩
  rw [hk, show 100 - (q + 1) = k by omega]
  show (if dlt (gt S) time then _ else _) = _
  rw [if_pos h, h2]; rfl
theorem goL_no {m q : Nat} {time : UInt64} {S : St} (h : dlt (gt S) time) (h2 : (towS S m time).2 = false) (hq : q < 100) : goL m time (100 - q) S = ((towS S m time).1, false) := by
  obtain ⟨k, hk⟩ : ∃ k, 100 - q = k + 1 := ⟨100 - q - 1, by omega⟩
  rw [hk]
  show (if dlt (gt S) time then _ else _) = _
  rw [if_pos h, h2]; rfl
def goR (r : St × Bool) (time : UInt64) : Nat × St := if r.2 && !decide (dlt (gt r.1) time) then (0, r.1) else (2, r.1)
def goP (S : St) (i : Int32) (time : UInt64) : Nat × St := if mth i && decide (dgt time (gt S)) && !decide (dgt time (FP.dadd (gt S) k100)) then goR (goL i.toNatClampNeg time 100 S) time else (1, S)
section GO
variable {S S2 : St} {i : Int32} {time : UInt64} {j : Nat}
theorem go_f1 (h : mth i = false) : goP S i time = (1, S) := by unfold goP; rw [h]; rfl
theorem go_f2 (h : ¬ dgt time (gt S)) : goP S i time = (1, S) := by unfold goP; rw [df h, Bool.and_false]; rfl
theorem go_f3 (h : dgt time (FP.dadd (gt S) k100)) : goP S i time = (1, S) := by unfold goP; rw [dt h, Bool.not_true, Bool.and_false]; rfl
theorem go_ok (h : mth i = true) (hj : i.toNatClampNeg = j) (h1 : dgt time (gt S)) (h2 : ¬ dgt time (FP.dadd (gt S) k100)) : goP S i time = goR (goL j time 100 S) time := by unfold goP; rw [h, dt h1, df h2, hj]; rfl
theorem goR_0 (h : ¬ dlt (gt S2) time) : goR (S2, true) time = (0, S2) := by unfold goR; rw [df h]; rfl
theorem goR_2 (h : dlt (gt S2) time) : goR (S2, true) time = (2, S2) := by unfold goR; rw [dt h]; rfl
theorem goR_n : goR (S2, false) time = (2, S2) := rfl
theorem grow_σ {m : Nat} {e r : UInt64} : gσ (grow S m e r) = gσ S := by unfold grow; split <;> rfl
theorem tow_σ {m : Nat} : gσ (towS S m time).1 = gσ S := by
  unfold towS
  split
  · rfl
  · split
    · rfl
    · exact grow_σ
theorem Inv.to {B : Int} {E : Nat} (h : Inv B E S) (hl : zv (gt S) < zv time) : Inv (zv time) E S := by
  obtain ⟨a1, a2, a3, a4, a5, a6, a7, a8, a9⟩ := h
  exact ⟨a1, ⟨a2.1, a2.2.1, Int.le_of_lt hl⟩, a3, a4, a5, a6, a7, a8, a9⟩
theorem zv100 : zv k100 = ((100 * 2 ^ 1074 : Nat) : Int) := by decide +kernel
theorem go_B {N E : Nat} (hv : Inv ((N * 2 ^ 1074 : Nat) : Int) E S) (hN : N + 104 ≤ 53352) (ht : fin time) (h : ¬ dgt time (FP.dadd (gt S) k100)) : zv time ≤ (((N + 100) * 2 ^ 1074 : Nat) : Int) ∧ zv time ≤ BT := by
  have hB : ((N * 2 ^ 1074 : Nat) : Int) ≤ BT := Int.ofNat_le.mpr (Nat.mul_le_mul_right _ (by omega))
  have hB2 : (((N + 100) * 2 ^ 1074 : Nat) : Int) ≤ BT := Int.ofNat_le.mpr (Nat.mul_le_mul_right _ (by omega))
  have hT := hv.t hB
  obtain ⟨V, hV, hz⟩ := whole_d (N + 100) (by omega) (by omega)
  have hf : fin (FP.dadd (gt S) k100) := (bd_add (k := 17) hT b_k100 (by decide) (by decide) (by decide)).1
  have h1 := zle_add hv.2.1.1 b_k100.1 hV (by
    rw [hz, zv100]
    have := hv.2.1.2.2
    rw [Nat.add_mul]
    omega)
  have h2 := mt (dgt_iff ht hf).mpr h
  rw [hz] at h1
  have h3 : zv time ≤ (((N + 100) * 2 ^ 1074 : Nat) : Int) := by omega
  exact ⟨h3, Int.le_trans h3 hB2⟩
end GO
set_option maxHeartbeats 4000000 in
set_option maxRecDepth 100000 in
theorem c_go (l : Launch) (htr : l.stackTraces = false) (D : va_G) (cD cI cM cL : ClassId) (A : Nat → Nat) (rw : Nat → Option Nat) (S : St) (v : Nat → Nat → UInt64) (i : Int32) (time : UInt64) (N E : Nat) (hv : Inv ((N * 2 ^ 1074 : Nat) : Int) E S) (hN : N + 104 ≤ 53352) (htf : fin time) (hE : E + 100 < 2 ^ 29) (hen : enK S (v 17)) (hrw : ∀ i, i < 3 → rw i = some (A (17 + i))) : vx_Met l yX6_go (Cond.code yX6_go cX6_go 6 (some .int) :: lw_good) { frames := 7, cells := 1, slots := 6, locals := 184 } (xPt D (tyL cD cI cM cL) [.ref (A 0), .int i, .double time] [(A 0, .inr (6, [.ref (A 1), .ref (A 2), .ref (A 3), .ref (A 8), .ref (A 28), .ref (A 33), .double (gt S), .double (gh S), .double (gtol S), .int (gtk S), .int (grf S), .int (bI (ggo S))])), (A 1, dA cD 3 (gy S)), (A 28, .inr (2, [.ref (A 3), .ref (A 29), .ref (A 30), .ref (A 31), .ref (A 32), .int (bI (gkn S)), .double (gt0 S), .double (gsp S)])), (A 29, dA cD 3 (gq S)), (A 30, dA cD 3 (gy0 S)), (A 31, dA cD 3 (gg S)), (A 32, dA cD 3 (v 17)), (A 33, .inr (5, [.ref (A 34), .int (bI (gon S)), .int (nI (gwh S)), .double (glv S), .int (nI (gev S))])), (A 34, dA cD 8 (gtm S)), (A 8, .inr (4, [.ref (A 3), .ref (A 15), .ref (A 22), .ref (A 9), .ref (A 10), .ref (A 11), .ref (A 12), .ref (A 1), .ref (A 13), .ref (A 14), .double (v 18 0), .double (v 18 1), .double (v 18 2)])), (A 13, dA cD 3 (v 4)), (A 9, dA cD 3 (v 0)), (A 10, dA cD 3 (v 1)), (A 11, dA cD 3 (v 2)), (A 12, dA cD 3 (v 3)), (A 14, dA cD 3 (v 5)), (A 17, dA cD 3 (v 6)), (A 18, dA cD 3 (v 7)), (A 19, dA cD 3 (v 8)), (A 20, dA cD 3 (v 9)), (A 21, dA cD 3 (v 10)), (A 23, dA cD 3 (v 11)), (A 24, dA cD 3 (v 12)), (A 25, dA cD 3 (v 13)), (A 26, dA cD 3 (v 14)), (A 27, dA cD 3 (v 15)), (A 3, .inr (0, [.ref (A 4), .ref (A 5), .ref (A 6), .ref (A 7), .int (nI (sn (gσ S))), .int (nI (sc (gσ S)))])), (A 4, iA cI 10 (so (gσ S))), (A 5, dA cD 10 (sk (gσ S))), (A 6, iA cI 10 (sl (gσ S))), (A 7, iA cI 10 (sr (gσ S))), (A 15, .inr (1, [.ref (A 3), .ref (A 16), .ref (A 20), .ref (A 21)])), (A 16, rA cM 3 rw), (A 22, .inr (3, [.ref (A 3), .ref (A 23), .ref (A 24), .ref (A 25), .ref (A 26), .ref (A 27)]))] [A 0, A 1, A 28, A 29, A 30, A 31, A 32, A 33, A 34, A 8, A 13, A 9, A 10, A 11, A 12, A 14, A 17, A 18, A 19, A 20, A 21, A 23, A 24, A 25, A 26, A 27]) (xQ D [A 0, A 1, A 28, A 29, A 30, A 31, A 32, A 33, A 34, A 8, A 13, A 9, A 10, A 11, A 12, A 14, A 17, A 18, A 19, A 20, A 21, A 23, A 24, A 25, A 26, A 27] (fun (u : Nat → Nat → UInt64) => some (.int (gtk (goP S i time).2 - gtk S))) (fun (u : Nat → Nat → UInt64) => (goP S i time).1 = 0 ∧ enK (goP S i time).2 (u 17)) (fun (u : Nat → Nat → UInt64) => [(A 0, .inr (6, [.ref (A 1), .ref (A 2), .ref (A 3), .ref (A 8), .ref (A 28), .ref (A 33), .double (gt (goP S i time).2), .double (gh (goP S i time).2), .double (gtol (goP S i time).2), .int (gtk (goP S i time).2), .int (grf (goP S i time).2), .int (bI (ggo (goP S i time).2))])), (A 1, dA cD 3 (gy (goP S i time).2)), (A 28, .inr (2, [.ref (A 3), .ref (A 29), .ref (A 30), .ref (A 31), .ref (A 32), .int (bI (gkn (goP S i time).2)), .double (gt0 (goP S i time).2), .double (gsp (goP S i time).2)])), (A 29, dA cD 3 (gq (goP S i time).2)), (A 30, dA cD 3 (gy0 (goP S i time).2)), (A 31, dA cD 3 (gg (goP S i time).2)), (A 32, dA cD 3 (u 17)), (A 33, .inr (5, [.ref (A 34), .int (bI (gon (goP S i time).2)), .int (nI (gwh (goP S i time).2)), .double (glv (goP S i time).2), .int (nI (gev (goP S i time).2))])), (A 34, dA cD 8 (gtm (goP S i time).2)), (A 8, .inr (4, [.ref (A 3), .ref (A 15), .ref (A 22), .ref (A 9), .ref (A 10), .ref (A 11), .ref (A 12), .ref (A 1), .ref (A 13), .ref (A 14), .double (u 18 0), .double (u 18 1), .double (u 18 2)])), (A 13, dA cD 3 (u 4)), (A 9, dA cD 3 (u 0)), (A 10, dA cD 3 (u 1)), (A 11, dA cD 3 (u 2)), (A 12, dA cD 3 (u 3)), (A 14, dA cD 3 (u 5)), (A 17, dA cD 3 (u 6)), (A 18, dA cD 3 (u 7)), (A 19, dA cD 3 (u 8)), (A 20, dA cD 3 (u 9)), (A 21, dA cD 3 (u 10)), (A 23, dA cD 3 (u 11)), (A 24, dA cD 3 (u 12)), (A 25, dA cD 3 (u 13)), (A 26, dA cD 3 (u 14)), (A 27, dA cD 3 (u 15))])) (yX D [A 0, A 1, A 28, A 29, A 30, A 31, A 32, A 33, A 34, A 8, A 13, A 9, A 10, A 11, A 12, A 14, A 17, A 18, A 19, A 20, A 21, A 23, A 24, A 25, A 26, A 27] (fun (E_ : String) (u : Nat → Nat → UInt64) => (((goP S i time).1 = 1 ∧ E_ = eIA) ∨ ((goP S i time).1 = 2 ∧ E_ = eAR)) ∧ enK (goP S i time).2 (u 17)) (fun (u : Nat → Nat → UInt64) => [(A 0, .inr (6, [.ref (A 1), .ref (A 2), .ref (A 3), .ref (A 8), .ref (A 28), .ref (A 33), .double (gt (goP S i time).2), .double (gh (goP S i time).2), .double (gtol (goP S i time).2), .int (gtk (goP S i time).2), .int (grf (goP S i time).2), .int (bI (ggo (goP S i time).2))])), (A 1, dA cD 3 (gy (goP S i time).2)), (A 28, .inr (2, [.ref (A 3), .ref (A 29), .ref (A 30), .ref (A 31), .ref (A 32), .int (bI (gkn (goP S i time).2)), .double (gt0 (goP S i time).2), .double (gsp (goP S i time).2)])), (A 29, dA cD 3 (gq (goP S i time).2)), (A 30, dA cD 3 (gy0 (goP S i time).2)), (A 31, dA cD 3 (gg (goP S i time).2)), (A 32, dA cD 3 (u 17)), (A 33, .inr (5, [.ref (A 34), .int (bI (gon (goP S i time).2)), .int (nI (gwh (goP S i time).2)), .double (glv (goP S i time).2), .int (nI (gev (goP S i time).2))])), (A 34, dA cD 8 (gtm (goP S i time).2)), (A 8, .inr (4, [.ref (A 3), .ref (A 15), .ref (A 22), .ref (A 9), .ref (A 10), .ref (A 11), .ref (A 12), .ref (A 1), .ref (A 13), .ref (A 14), .double (u 18 0), .double (u 18 1), .double (u 18 2)])), (A 13, dA cD 3 (u 4)), (A 9, dA cD 3 (u 0)), (A 10, dA cD 3 (u 1)), (A 11, dA cD 3 (u 2)), (A 12, dA cD 3 (u 3)), (A 14, dA cD 3 (u 5)), (A 17, dA cD 3 (u 6)), (A 18, dA cD 3 (u 7)), (A 19, dA cD 3 (u 8)), (A 20, dA cD 3 (u 9)), (A 21, dA cD 3 (u 10)), (A 23, dA cD 3 (u 11)), (A 24, dA cD 3 (u 12)), (A 25, dA cD 3 (u 13)), (A 26, dA cD 3 (u 14)), (A 27, dA cD 3 (u 15))])) 1 6 (fun q => q ∈ ([A 0, A 1, A 28, A 29, A 30, A 31, A 32, A 33, A 34, A 8, A 13, A 9, A 10, A 11, A 12, A 14, A 17, A 18, A 19, A 20, A 21, A 23, A 24, A 25, A 26, A 27] : List Nat)) := by
  refine xofT (by decide) (Nat.le_of_ble_eq_true rfl) ?_
  intro p e s m below meth c ls hx hb hr hml hg hown hlk hex hI hP hd hT hZ hS hl
  have hown : s.vm.findClass RX6 = some m.cls := hown
  have hd : dj [A 0, A 1, A 28, A 29, A 30, A 31, A 32, A 33, A 34, A 8, A 13, A 9, A 10, A 11, A 12, A 14, A 17, A 18, A 19, A 20, A 21, A 23, A 24, A 25, A 26, A 27, A 3, A 4, A 5, A 6, A 7, A 15, A 16, A 22] := hd
  have hl : lv_has ls 6 [(0, .ref (A 0)), (1, .int i), (2, .double time)] := hl
  have hB : ((N * 2 ^ 1074 : Nat) : Int) ≤ BT := Int.ofNat_le.mpr (Nat.mul_le_mul_right _ (by omega))
  refine lv_iload_n hx hb dX6_go_0 rfl (lv_at hl 1 rfl) ?_
  refine xci (xS (As := [.int i]) (rest := []) hx hb hml hown hg (c_isMethod l D cD cI cM cL i) mM_X6_113 ok_X6_isMethod rfl rfl ⟨Nat.le_of_ble_eq_true rfl, Nat.le_of_ble_eq_true rfl⟩ hI hP hd rfl [] rfl rfl rfl hl.1 rfl (Nat.le_of_ble_eq_true rfl) dX6_go_1 ⟨Nat.zero_le _, Nat.zero_le _⟩) hP hd hS fa0 [] rfl rfl (fun _ => rfl) (fun _u H locs hu hP hS => ?_)
  have hP : va_P D vwCl [(A 0, .inr (6, [.ref (A 1), .ref (A 2), .ref (A 3), .ref (A 8), .ref (A 28), .ref (A 33), .double (gt S), .double (gh S), .double (gtol S), .int (gtk S), .int (grf S), .int (bI (ggo S))])), (A 1, dA cD 3 (gy S)), (A 28, .inr (2, [.ref (A 3), .ref (A 29), .ref (A 30), .ref (A 31), .ref (A 32), .int (bI (gkn S)), .double (gt0 S), .double (gsp S)])), (A 29, dA cD 3 (gq S)), (A 30, dA cD 3 (gy0 S)), (A 31, dA cD 3 (gg S)), (A 32, dA cD 3 (v 17)), (A 33, .inr (5, [.ref (A 34), .int (bI (gon S)), .int (nI (gwh S)), .double (glv S), .int (nI (gev S))])), (A 34, dA cD 8 (gtm S)), (A 8, .inr (4, [.ref (A 3), .ref (A 15), .ref (A 22), .ref (A 9), .ref (A 10), .ref (A 11), .ref (A 12), .ref (A 1), .ref (A 13), .ref (A 14), .double (v 18 0), .double (v 18 1), .double (v 18 2)])), (A 13, dA cD 3 (v 4)), (A 9, dA cD 3 (v 0)), (A 10, dA cD 3 (v 1)), (A 11, dA cD 3 (v 2)), (A 12, dA cD 3 (v 3)), (A 14, dA cD 3 (v 5)), (A 17, dA cD 3 (v 6)), (A 18, dA cD 3 (v 7)), (A 19, dA cD 3 (v 8)), (A 20, dA cD 3 (v 9)), (A 21, dA cD 3 (v 10)), (A 23, dA cD 3 (v 11)), (A 24, dA cD 3 (v 12)), (A 25, dA cD 3 (v 13)), (A 26, dA cD 3 (v 14)), (A 27, dA cD 3 (v 15)), (A 3, .inr (0, [.ref (A 4), .ref (A 5), .ref (A 6), .ref (A 7), .int (nI (sn (gσ S))), .int (nI (sc (gσ S)))])), (A 4, iA cI 10 (so (gσ S))), (A 5, dA cD 10 (sk (gσ S))), (A 6, iA cI 10 (sl (gσ S))), (A 7, iA cI 10 (sr (gσ S))), (A 15, .inr (1, [.ref (A 3), .ref (A 16), .ref (A 20), .ref (A 21)])), (A 16, rA cM 3 rw), (A 22, .inr (3, [.ref (A 3), .ref (A 23), .ref (A 24), .ref (A 25), .ref (A 26), .ref (A 27)]))] H := hP
  refine lv_if_eq (tgt := 29) hx hb dX6_go_4 (by decide) (fun c_4 => ?_) (fun c_4 => ?_)
  ·
    rw [go_f1 (show mth i = false from bI_eq0.mp c_4)]
    refine xpc (q := 29) rfl ?_
    exact xthrow hx hb htr hown hg hT hZ hT.2.1.1 f_IA mK_X6_52 in_IA at_IA bt_IA ot_IA st_139 hP hS (hl.1.trans hml.symm) hex hlk ⟨Nat.le_of_ble_eq_true rfl, Nat.le_of_ble_eq_true rfl, Nat.le_of_ble_eq_true rfl, Nat.le_of_ble_eq_true rfl⟩ (fun tS hPt hFt => ⟨v, ⟨Or.inl ⟨rfl, rfl⟩, hen⟩, hPt.sub [0, 1, 2, 3, 4, 5, 6, 7, 8, 9, 10, 11, 12, 13, 14, 15, 16, 17, 18, 19, 20, 21, 22, 23, 24, 25] rfl, hFt⟩) dX6_go_29 dX6_go_32 dX6_go_33 dX6_go_35 dX6_go_38
  ·
    have hm0 : mth i = true := bI_ne0.mp c_4
    refine lv_dload_n hx hb dX6_go_7 rfl (lv_at hl 2 rfl) ?_
    refine lv_aload_n hx hb dX6_go_8 rfl (lv_at hl 0 rfl) ?_
    refine gX6 hx hb hg hown hI hP 0 rfl 6 rfl mF_X6_130 rfl dX6_go_9 ?_
    refine xl_le (tgt := 29) hx hb dX6_go_12 dX6_go_13 (by decide) (fun c_12 => ?_) (fun c_12 => ?_)
    ·
      rw [go_f2 c_12]
      refine xpc (q := 29) rfl ?_
      exact xthrow hx hb htr hown hg hT hZ hT.2.1.1 f_IA mK_X6_52 in_IA at_IA bt_IA ot_IA st_139 hP hS (hl.1.trans hml.symm) hex hlk ⟨Nat.le_of_ble_eq_true rfl, Nat.le_of_ble_eq_true rfl, Nat.le_of_ble_eq_true rfl, Nat.le_of_ble_eq_true rfl⟩ (fun tS hPt hFt => ⟨v, ⟨Or.inl ⟨rfl, rfl⟩, hen⟩, hPt.sub [0, 1, 2, 3, 4, 5, 6, 7, 8, 9, 10, 11, 12, 13, 14, 15, 16, 17, 18, 19, 20, 21, 22, 23, 24, 25] rfl, hFt⟩) dX6_go_29 dX6_go_32 dX6_go_33 dX6_go_35 dX6_go_38
    ·
      refine lv_dload_n hx hb dX6_go_16 rfl (lv_at hl 2 rfl) ?_
      refine lv_aload_n hx hb dX6_go_17 rfl (lv_at hl 0 rfl) ?_
      refine gX6 hx hb hg hown hI hP 0 rfl 6 rfl mF_X6_130 rfl dX6_go_18 ?_
      refine lv_ldc2d (v := k100) hx hb hown (hg _ mD_X6_137) dX6_go_21 ?_
      have b1 : bd 1 17 (FP.dadd (gt S) k100) := bd_add (hv.t hB) b_k100 (by decide) (by decide) (by decide)
      refine lv_dadd hx hb dX6_go_24 b1.nn ?_
      refine xl_le (tgt := 39) hx hb dX6_go_25 dX6_go_26 (by decide) (fun c_25 => ?_) (fun c_25 => ?_)
      ·
        obtain ⟨j, hmm, hji, hj3⟩ := mth_nat hm0
        subst hji
        have hl : lv_has ls 6 [(0, .ref (A 0)), (1, .int (nI j)), (2, .double time)] := hl
        rw [go_ok hm0 hj3 c_12 c_25]
        have hB2 := (go_B hv hN htf c_25).2
        have hlt := (dgt_iff htf hv.2.1.1).mp c_12
        have hv1 : Inv (zv time) (E + 0) S := hv.to hlt
        refine lv_aload_n hx hb dX6_go_39 rfl (lv_at hl 0 rfl) ?_
        refine gX6 hx hb hg hown hI hP 0 rfl 9 rfl mF_X6_141 rfl dX6_go_40 ?_
        refine lv_istore (lv' := [(4, .int (gtk S)), (0, .ref (A 0)), (1, .int (nI j)), (2, .double time)]) hx hb dX6_go_43 hl (by decide) rfl (fun ls hl => ?_)
        refine lv_iconst (v := nI 0) hx hb dX6_go_45 (by decide) ?_
        refine lv_istore (lv' := [(5, .int (nI 0)), (4, .int (gtk S)), (0, .ref (A 0)), (1, .int (nI j)), (2, .double time)]) hx hb dX6_go_46 hl (by decide) rfl (fun ls hl => ?_)
        refine xcut (I := fun H locs ls => ∃ (S2 : St) (v2 : Nat → Nat → UInt64), (goL j time 100 S = (S2, true)) ∧ (enK S2 (v2 17)) ∧ va_P D vwCl [(A 0, .inr (6, [.ref (A 1), .ref (A 2), .ref (A 3), .ref (A 8), .ref (A 28), .ref (A 33), .double (gt S2), .double (gh S2), .double (gtol S2), .int (gtk S2), .int (grf S2), .int (bI (ggo S2))])), (A 1, dA cD 3 (gy S2)), (A 28, .inr (2, [.ref (A 3), .ref (A 29), .ref (A 30), .ref (A 31), .ref (A 32), .int (bI (gkn S2)), .double (gt0 S2), .double (gsp S2)])), (A 29, dA cD 3 (gq S2)), (A 30, dA cD 3 (gy0 S2)), (A 31, dA cD 3 (gg S2)), (A 32, dA cD 3 (v2 17)), (A 33, .inr (5, [.ref (A 34), .int (bI (gon S2)), .int (nI (gwh S2)), .double (glv S2), .int (nI (gev S2))])), (A 34, dA cD 8 (gtm S2)), (A 8, .inr (4, [.ref (A 3), .ref (A 15), .ref (A 22), .ref (A 9), .ref (A 10), .ref (A 11), .ref (A 12), .ref (A 1), .ref (A 13), .ref (A 14), .double (v2 18 0), .double (v2 18 1), .double (v2 18 2)])), (A 13, dA cD 3 (v2 4)), (A 9, dA cD 3 (v2 0)), (A 10, dA cD 3 (v2 1)), (A 11, dA cD 3 (v2 2)), (A 12, dA cD 3 (v2 3)), (A 14, dA cD 3 (v2 5)), (A 17, dA cD 3 (v2 6)), (A 18, dA cD 3 (v2 7)), (A 19, dA cD 3 (v2 8)), (A 20, dA cD 3 (v2 9)), (A 21, dA cD 3 (v2 10)), (A 23, dA cD 3 (v2 11)), (A 24, dA cD 3 (v2 12)), (A 25, dA cD 3 (v2 13)), (A 26, dA cD 3 (v2 14)), (A 27, dA cD 3 (v2 15)), (A 3, .inr (0, [.ref (A 4), .ref (A 5), .ref (A 6), .ref (A 7), .int (nI (sn (gσ S2))), .int (nI (sc (gσ S2)))])), (A 4, iA cI 10 (so (gσ S2))), (A 5, dA cD 10 (sk (gσ S2))), (A 6, iA cI 10 (sl (gσ S2))), (A 7, iA cI 10 (sr (gσ S2))), (A 15, .inr (1, [.ref (A 3), .ref (A 16), .ref (A 20), .ref (A 21)])), (A 16, rA cM 3 rw), (A 22, .inr (3, [.ref (A 3), .ref (A 23), .ref (A 24), .ref (A 25), .ref (A 26), .ref (A 27)]))] H ∧ va_S (fun q => q ∈ ([A 0, A 1, A 28, A 29, A 30, A 31, A 32, A 33, A 34, A 8, A 13, A 9, A 10, A 11, A 12, A 14, A 17, A 18, A 19, A 20, A 21, A 23, A 24, A 25, A 26, A 27] : List Nat)) s.heap H locs ∧ lv_has ls 6 [(0, .ref (A 0)), (1, .int (nI j)), (2, .double time), (4, .int (gtk S))]) (pc2 := 89) (rest2 := []) (fun H locs ls hh => ?_) (fun KX => ?_)
        ·
          obtain ⟨S2, v2, hG, he2, hP, hS, hl⟩ := hh
          rw [hG]
          refine lv_aload_n hx hb dX6_go_89 rfl (lv_at hl 0 rfl) ?_
          refine gX6 hx hb hg hown hI hP 0 rfl 6 rfl mF_X6_130 rfl dX6_go_90 ?_
          refine lv_dload_n hx hb dX6_go_93 rfl (lv_at hl 2 rfl) ?_
          refine xg_ge (tgt := 108) hx hb dX6_go_94 dX6_go_95 (by decide) (fun c_94 => ?_) (fun c_94 => ?_)
          ·
            rw [goR_0 c_94]
            refine lv_aload_n hx hb dX6_go_108 rfl (lv_at hl 0 rfl) ?_
            refine gX6 hx hb hg hown hI hP 0 rfl 9 rfl mF_X6_141 rfl dX6_go_109 ?_
            refine lv_iload hx hb dX6_go_112 (lv_at hl 3 rfl) ?_
            refine lv_isub hx hb dX6_go_114 ?_
            exact W.widen (Nat.zero_le 1) (Nat.zero_le 6) (vx_ret (W.iret hx hb hr (fun tS hTS hWS => ⟨v2, rfl, ⟨rfl, he2⟩, by rw [hTS]; exact hP.sub [0, 1, 2, 3, 4, 5, 6, 7, 8, 9, 10, 11, 12, 13, 14, 15, 16, 17, 18, 19, 20, 21, 22, 23, 24, 25] rfl, hS.F hTS⟩) hS.2.2 dX6_go_115))
          ·
            rw [goR_2 c_94]
            refine xpc (q := 98) rfl ?_
            exact xthrow hx hb htr hown hg hT hZ hT.2.1.2.2.1 f_AR mK_X6_125 in_AR at_AR bt_AR ot_AR st_149 hP hS (hl.1.trans hml.symm) hex hlk ⟨Nat.le_of_ble_eq_true rfl, Nat.le_of_ble_eq_true rfl, Nat.le_of_ble_eq_true rfl, Nat.le_of_ble_eq_true rfl⟩ (fun tS hPt hFt => ⟨v2, ⟨Or.inr ⟨rfl, rfl⟩, he2⟩, hPt.sub [0, 1, 2, 3, 4, 5, 6, 7, 8, 9, 10, 11, 12, 13, 14, 15, 16, 17, 18, 19, 20, 21, 22, 23, 24, 25] rfl, hFt⟩) dX6_go_98 dX6_go_101 dX6_go_102 dX6_go_104 dX6_go_107
        ·
          refine xfor (I := fun q0 H locs ls => ∃ (S2 : St) (v2 : Nat → Nat → UInt64), (goL j time 100 S = goL j time (100 - q0) S2) ∧ (Inv (zv time) (E + q0) S2 ∧ enK S2 (v2 17)) ∧ va_P D vwCl [(A 0, .inr (6, [.ref (A 1), .ref (A 2), .ref (A 3), .ref (A 8), .ref (A 28), .ref (A 33), .double (gt S2), .double (gh S2), .double (gtol S2), .int (gtk S2), .int (grf S2), .int (bI (ggo S2))])), (A 1, dA cD 3 (gy S2)), (A 28, .inr (2, [.ref (A 3), .ref (A 29), .ref (A 30), .ref (A 31), .ref (A 32), .int (bI (gkn S2)), .double (gt0 S2), .double (gsp S2)])), (A 29, dA cD 3 (gq S2)), (A 30, dA cD 3 (gy0 S2)), (A 31, dA cD 3 (gg S2)), (A 32, dA cD 3 (v2 17)), (A 33, .inr (5, [.ref (A 34), .int (bI (gon S2)), .int (nI (gwh S2)), .double (glv S2), .int (nI (gev S2))])), (A 34, dA cD 8 (gtm S2)), (A 8, .inr (4, [.ref (A 3), .ref (A 15), .ref (A 22), .ref (A 9), .ref (A 10), .ref (A 11), .ref (A 12), .ref (A 1), .ref (A 13), .ref (A 14), .double (v2 18 0), .double (v2 18 1), .double (v2 18 2)])), (A 13, dA cD 3 (v2 4)), (A 9, dA cD 3 (v2 0)), (A 10, dA cD 3 (v2 1)), (A 11, dA cD 3 (v2 2)), (A 12, dA cD 3 (v2 3)), (A 14, dA cD 3 (v2 5)), (A 17, dA cD 3 (v2 6)), (A 18, dA cD 3 (v2 7)), (A 19, dA cD 3 (v2 8)), (A 20, dA cD 3 (v2 9)), (A 21, dA cD 3 (v2 10)), (A 23, dA cD 3 (v2 11)), (A 24, dA cD 3 (v2 12)), (A 25, dA cD 3 (v2 13)), (A 26, dA cD 3 (v2 14)), (A 27, dA cD 3 (v2 15)), (A 3, .inr (0, [.ref (A 4), .ref (A 5), .ref (A 6), .ref (A 7), .int (nI (sn (gσ S2))), .int (nI (sc (gσ S2)))])), (A 4, iA cI 10 (so (gσ S2))), (A 5, dA cD 10 (sk (gσ S2))), (A 6, iA cI 10 (sl (gσ S2))), (A 7, iA cI 10 (sr (gσ S2))), (A 15, .inr (1, [.ref (A 3), .ref (A 16), .ref (A 20), .ref (A 21)])), (A 16, rA cM 3 rw), (A 22, .inr (3, [.ref (A 3), .ref (A 23), .ref (A 24), .ref (A 25), .ref (A 26), .ref (A 27)]))] H ∧ va_S (fun q => q ∈ ([A 0, A 1, A 28, A 29, A 30, A 31, A 32, A 33, A 34, A 8, A 13, A 9, A 10, A 11, A 12, A 14, A 17, A 18, A 19, A 20, A 21, A 23, A 24, A 25, A 26, A 27] : List Nat)) s.heap H locs ∧ lv_has ls 6 [(0, .ref (A 0)), (1, .int (nI j)), (2, .double time), (4, .int (gtk S)), (5, .int (nI q0))]) 100 0 ⟨S, v, rfl, ⟨hv1, hen⟩, hP, hS, lv_sub hl [2, 3, 4, 1, 0] rfl⟩ (Nat.zero_le _) ?_ ?_
          ·
            intro q0 h_q0 ih H locs ls ⟨S2, v2, hG, hI3, hP, hS, hl⟩
            obtain ⟨hI2, he2⟩ := hI3
            refine lv_iload hx hb dX6_go_48 (lv_at hl 4 rfl) ?_
            refine lv_bipush (v := nI 100) hx hb dX6_go_50 (by decide) ?_
            refine lv_icmp_ge (tgt := 89) hx hb dX6_go_52 (by decide) (fun c_52 => absurd c_52 (nI_ge h_q0 (by omega))) (fun c_52 => ?_)
            refine lv_aload_n hx hb dX6_go_55 rfl (lv_at hl 0 rfl) ?_
            refine gX6 hx hb hg hown hI hP 0 rfl 6 rfl mF_X6_130 rfl dX6_go_56 ?_
            refine lv_dload_n hx hb dX6_go_59 rfl (lv_at hl 2 rfl) ?_
            refine xg_ge (tgt := 89) hx hb dX6_go_60 dX6_go_61 (by decide) (fun c_60 => ?_) (fun c_60 => ?_)
            ·
              exact KX _ _ _ ⟨S2, v2, hG.trans (goL_stop c_60 _), he2, hP, hS, lv_sub hl [0, 1, 2, 3] rfl⟩
            ·
              have hl2 := (dlt_iff hI2.2.1.1 htf).mp c_60
              refine lv_aload_n hx hb dX6_go_64 rfl (lv_at hl 0 rfl) ?_
              refine lv_iload_n hx hb dX6_go_65 rfl (lv_at hl 1 rfl) ?_
              refine lv_dload_n hx hb dX6_go_66 rfl (lv_at hl 2 rfl) ?_
              refine xciP (w0 := [(A 0, .inr (6, [.ref (A 1), .ref (A 2), .ref (A 3), .ref (A 8), .ref (A 28), .ref (A 33), .double (gt S2), .double (gh S2), .double (gtol S2), .int (gtk S2), .int (grf S2), .int (bI (ggo S2))])), (A 1, dA cD 3 (gy S2)), (A 28, .inr (2, [.ref (A 3), .ref (A 29), .ref (A 30), .ref (A 31), .ref (A 32), .int (bI (gkn S2)), .double (gt0 S2), .double (gsp S2)])), (A 29, dA cD 3 (gq S2)), (A 30, dA cD 3 (gy0 S2)), (A 31, dA cD 3 (gg S2)), (A 32, dA cD 3 (v2 17)), (A 33, .inr (5, [.ref (A 34), .int (bI (gon S2)), .int (nI (gwh S2)), .double (glv S2), .int (nI (gev S2))])), (A 34, dA cD 8 (gtm S2)), (A 8, .inr (4, [.ref (A 3), .ref (A 15), .ref (A 22), .ref (A 9), .ref (A 10), .ref (A 11), .ref (A 12), .ref (A 1), .ref (A 13), .ref (A 14), .double (v2 18 0), .double (v2 18 1), .double (v2 18 2)])), (A 13, dA cD 3 (v2 4)), (A 9, dA cD 3 (v2 0)), (A 10, dA cD 3 (v2 1)), (A 11, dA cD 3 (v2 2)), (A 12, dA cD 3 (v2 3)), (A 14, dA cD 3 (v2 5)), (A 17, dA cD 3 (v2 6)), (A 18, dA cD 3 (v2 7)), (A 19, dA cD 3 (v2 8)), (A 20, dA cD 3 (v2 9)), (A 21, dA cD 3 (v2 10)), (A 23, dA cD 3 (v2 11)), (A 24, dA cD 3 (v2 12)), (A 25, dA cD 3 (v2 13)), (A 26, dA cD 3 (v2 14)), (A 27, dA cD 3 (v2 15))]) (wk := [(A 3, .inr (0, [.ref (A 4), .ref (A 5), .ref (A 6), .ref (A 7), .int (nI (sn (gσ S2))), .int (nI (sc (gσ S2)))])), (A 4, iA cI 10 (so (gσ S2))), (A 5, dA cD 10 (sk (gσ S2))), (A 6, iA cI 10 (sl (gσ S2))), (A 7, iA cI 10 (sr (gσ S2))), (A 15, .inr (1, [.ref (A 3), .ref (A 16), .ref (A 20), .ref (A 21)])), (A 16, rA cM 3 rw), (A 22, .inr (3, [.ref (A 3), .ref (A 23), .ref (A 24), .ref (A 25), .ref (A 26), .ref (A 27)]))]) (xV (As := [.int (nI j), .double time]) (rest := []) hx hb hml hown hg (c_towards l D cD cI cM cL A rw S2 v2 j time (E + q0) hI2 hB2 htf hl2 hmm (by omega) he2 hrw) mM_X6_144 ok_X6_stepTowards rfl rfl ⟨Nat.le_of_ble_eq_true rfl, Nat.le_of_ble_eq_true rfl⟩ hI hP hd rfl [0, 1, 26, 27, 28, 29, 30, 9, 11, 12, 13, 14, 10, 15, 31, 32, 16, 17, 18, 19, 20, 33, 21, 22, 23, 24, 25, 2, 3, 4, 5, 6, 7, 8] rfl rfl rfl rfl rfl hl.1 rfl (Nat.le_of_ble_eq_true rfl) dX6_go_67 ⟨Nat.zero_le _, Nat.zero_le _⟩) hP hd hS (fa1 pm0 (fa1 (pmS pm0) (fa1 (pmS (pmS pm0)) (fa1 (pmS (pmS (pmS pm0))) (fa1 (pmS (pmS (pmS (pmS pm0)))) (fa1 (pmS (pmS (pmS (pmS (pmS pm0))))) (fa1 (pmS (pmS (pmS (pmS (pmS (pmS pm0)))))) (fa1 (pmS (pmS (pmS (pmS (pmS (pmS (pmS pm0))))))) (fa1 (pmS (pmS (pmS (pmS (pmS (pmS (pmS (pmS pm0)))))))) (fa1 (pmS (pmS (pmS (pmS (pmS (pmS (pmS (pmS (pmS pm0))))))))) (fa1 (pmS (pmS (pmS (pmS (pmS (pmS (pmS (pmS (pmS (pmS pm0)))))))))) (fa1 (pmS (pmS (pmS (pmS (pmS (pmS (pmS (pmS (pmS (pmS (pmS pm0))))))))))) (fa1 (pmS (pmS (pmS (pmS (pmS (pmS (pmS (pmS (pmS (pmS (pmS (pmS pm0)))))))))))) (fa1 (pmS (pmS (pmS (pmS (pmS (pmS (pmS (pmS (pmS (pmS (pmS (pmS (pmS pm0))))))))))))) (fa1 (pmS (pmS (pmS (pmS (pmS (pmS (pmS (pmS (pmS (pmS (pmS (pmS (pmS (pmS pm0)))))))))))))) (fa1 (pmS (pmS (pmS (pmS (pmS (pmS (pmS (pmS (pmS (pmS (pmS (pmS (pmS (pmS (pmS pm0))))))))))))))) (fa1 (pmS (pmS (pmS (pmS (pmS (pmS (pmS (pmS (pmS (pmS (pmS (pmS (pmS (pmS (pmS (pmS pm0)))))))))))))))) (fa1 (pmS (pmS (pmS (pmS (pmS (pmS (pmS (pmS (pmS (pmS (pmS (pmS (pmS (pmS (pmS (pmS (pmS pm0))))))))))))))))) (fa1 (pmS (pmS (pmS (pmS (pmS (pmS (pmS (pmS (pmS (pmS (pmS (pmS (pmS (pmS (pmS (pmS (pmS (pmS pm0)))))))))))))))))) (fa1 (pmS (pmS (pmS (pmS (pmS (pmS (pmS (pmS (pmS (pmS (pmS (pmS (pmS (pmS (pmS (pmS (pmS (pmS (pmS pm0))))))))))))))))))) (fa1 (pmS (pmS (pmS (pmS (pmS (pmS (pmS (pmS (pmS (pmS (pmS (pmS (pmS (pmS (pmS (pmS (pmS (pmS (pmS (pmS pm0)))))))))))))))))))) (fa1 (pmS (pmS (pmS (pmS (pmS (pmS (pmS (pmS (pmS (pmS (pmS (pmS (pmS (pmS (pmS (pmS (pmS (pmS (pmS (pmS (pmS pm0))))))))))))))))))))) (fa1 (pmS (pmS (pmS (pmS (pmS (pmS (pmS (pmS (pmS (pmS (pmS (pmS (pmS (pmS (pmS (pmS (pmS (pmS (pmS (pmS (pmS (pmS pm0)))))))))))))))))))))) (fa1 (pmS (pmS (pmS (pmS (pmS (pmS (pmS (pmS (pmS (pmS (pmS (pmS (pmS (pmS (pmS (pmS (pmS (pmS (pmS (pmS (pmS (pmS (pmS pm0))))))))))))))))))))))) (fa1 (pmS (pmS (pmS (pmS (pmS (pmS (pmS (pmS (pmS (pmS (pmS (pmS (pmS (pmS (pmS (pmS (pmS (pmS (pmS (pmS (pmS (pmS (pmS (pmS pm0)))))))))))))))))))))))) (fa1 (pmS (pmS (pmS (pmS (pmS (pmS (pmS (pmS (pmS (pmS (pmS (pmS (pmS (pmS (pmS (pmS (pmS (pmS (pmS (pmS (pmS (pmS (pmS (pmS (pmS pm0))))))))))))))))))))))))) fa0)))))))))))))))))))))))))) rfl rfl (fun _ => rfl) (fun u H locs hu hP hS => ?_)
              have e3 : gσ S2 = gσ u.1 := by rw [hu.1]; exact tow_σ.symm
              have hP : va_P D vwCl [(A 0, .inr (6, [.ref (A 1), .ref (A 2), .ref (A 3), .ref (A 8), .ref (A 28), .ref (A 33), .double (gt u.1), .double (gh u.1), .double (gtol u.1), .int (gtk u.1), .int (grf u.1), .int (bI (ggo u.1))])), (A 1, dA cD 3 (gy u.1)), (A 28, .inr (2, [.ref (A 3), .ref (A 29), .ref (A 30), .ref (A 31), .ref (A 32), .int (bI (gkn u.1)), .double (gt0 u.1), .double (gsp u.1)])), (A 29, dA cD 3 (gq u.1)), (A 30, dA cD 3 (gy0 u.1)), (A 31, dA cD 3 (gg u.1)), (A 32, dA cD 3 (u.2 17)), (A 33, .inr (5, [.ref (A 34), .int (bI (gon u.1)), .int (nI (gwh u.1)), .double (glv u.1), .int (nI (gev u.1))])), (A 34, dA cD 8 (gtm u.1)), (A 8, .inr (4, [.ref (A 3), .ref (A 15), .ref (A 22), .ref (A 9), .ref (A 10), .ref (A 11), .ref (A 12), .ref (A 1), .ref (A 13), .ref (A 14), .double (u.2 18 0), .double (u.2 18 1), .double (u.2 18 2)])), (A 13, dA cD 3 (u.2 4)), (A 9, dA cD 3 (u.2 0)), (A 10, dA cD 3 (u.2 1)), (A 11, dA cD 3 (u.2 2)), (A 12, dA cD 3 (u.2 3)), (A 14, dA cD 3 (u.2 5)), (A 17, dA cD 3 (u.2 6)), (A 18, dA cD 3 (u.2 7)), (A 19, dA cD 3 (u.2 8)), (A 20, dA cD 3 (u.2 9)), (A 21, dA cD 3 (u.2 10)), (A 23, dA cD 3 (u.2 11)), (A 24, dA cD 3 (u.2 12)), (A 25, dA cD 3 (u.2 13)), (A 26, dA cD 3 (u.2 14)), (A 27, dA cD 3 (u.2 15)), (A 3, .inr (0, [.ref (A 4), .ref (A 5), .ref (A 6), .ref (A 7), .int (nI (sn (gσ S2))), .int (nI (sc (gσ S2)))])), (A 4, iA cI 10 (so (gσ S2))), (A 5, dA cD 10 (sk (gσ S2))), (A 6, iA cI 10 (sl (gσ S2))), (A 7, iA cI 10 (sr (gσ S2))), (A 15, .inr (1, [.ref (A 3), .ref (A 16), .ref (A 20), .ref (A 21)])), (A 16, rA cM 3 rw), (A 22, .inr (3, [.ref (A 3), .ref (A 23), .ref (A 24), .ref (A 25), .ref (A 26), .ref (A 27)]))] H := hP
              have hP : va_P D vwCl [(A 0, .inr (6, [.ref (A 1), .ref (A 2), .ref (A 3), .ref (A 8), .ref (A 28), .ref (A 33), .double (gt u.1), .double (gh u.1), .double (gtol u.1), .int (gtk u.1), .int (grf u.1), .int (bI (ggo u.1))])), (A 1, dA cD 3 (gy u.1)), (A 28, .inr (2, [.ref (A 3), .ref (A 29), .ref (A 30), .ref (A 31), .ref (A 32), .int (bI (gkn u.1)), .double (gt0 u.1), .double (gsp u.1)])), (A 29, dA cD 3 (gq u.1)), (A 30, dA cD 3 (gy0 u.1)), (A 31, dA cD 3 (gg u.1)), (A 32, dA cD 3 (u.2 17)), (A 33, .inr (5, [.ref (A 34), .int (bI (gon u.1)), .int (nI (gwh u.1)), .double (glv u.1), .int (nI (gev u.1))])), (A 34, dA cD 8 (gtm u.1)), (A 8, .inr (4, [.ref (A 3), .ref (A 15), .ref (A 22), .ref (A 9), .ref (A 10), .ref (A 11), .ref (A 12), .ref (A 1), .ref (A 13), .ref (A 14), .double (u.2 18 0), .double (u.2 18 1), .double (u.2 18 2)])), (A 13, dA cD 3 (u.2 4)), (A 9, dA cD 3 (u.2 0)), (A 10, dA cD 3 (u.2 1)), (A 11, dA cD 3 (u.2 2)), (A 12, dA cD 3 (u.2 3)), (A 14, dA cD 3 (u.2 5)), (A 17, dA cD 3 (u.2 6)), (A 18, dA cD 3 (u.2 7)), (A 19, dA cD 3 (u.2 8)), (A 20, dA cD 3 (u.2 9)), (A 21, dA cD 3 (u.2 10)), (A 23, dA cD 3 (u.2 11)), (A 24, dA cD 3 (u.2 12)), (A 25, dA cD 3 (u.2 13)), (A 26, dA cD 3 (u.2 14)), (A 27, dA cD 3 (u.2 15)), (A 3, .inr (0, [.ref (A 4), .ref (A 5), .ref (A 6), .ref (A 7), .int (nI (sn (gσ u.1))), .int (nI (sc (gσ u.1)))])), (A 4, iA cI 10 (so (gσ u.1))), (A 5, dA cD 10 (sk (gσ u.1))), (A 6, iA cI 10 (sl (gσ u.1))), (A 7, iA cI 10 (sr (gσ u.1))), (A 15, .inr (1, [.ref (A 3), .ref (A 16), .ref (A 20), .ref (A 21)])), (A 16, rA cM 3 rw), (A 22, .inr (3, [.ref (A 3), .ref (A 23), .ref (A 24), .ref (A 25), .ref (A 26), .ref (A 27)]))] H := by rw [← e3]; exact hP
              refine lv_if_ne (tgt := 83) hx hb dX6_go_70 (by decide) (fun c_70 => ?_) (fun c_70 => ?_)
              ·
                refine lv_iinc (v := nI (q0 + 1)) (lv' := [(5, .int (nI (q0 + 1))), (0, .ref (A 0)), (1, .int (nI j)), (2, .double time), (4, .int (gtk S))]) hx hb dX6_go_83 hl (k := 4) rfl (nI_1 q0) (by decide) rfl (fun ls hl => ?_)
                refine lv_goto (tgt := 48) hx hb dX6_go_86 (by decide) ?_
                exact ih _ _ _ ⟨u.1, u.2, hG.trans ((goL_go c_60 (bI_ne0.mp c_70) h_q0).trans (by rw [hu.1])), ⟨by rw [hu.1]; exact hI2.tow hB2 htf hl2, hu.2⟩, hP, hS, lv_sub hl [1, 2, 3, 4, 0] rfl⟩
              ·
                rw [hG, goL_no c_60 (bI_eq0.mp c_70) h_q0, ← hu.1, goR_n]
                refine xpc (q := 73) rfl ?_
                exact xthrow hx hb htr hown hg hT hZ hT.2.1.2.2.1 f_AR mK_X6_125 in_AR at_AR bt_AR ot_AR st_147 hP hS (hl.1.trans hml.symm) hex hlk ⟨Nat.le_of_ble_eq_true rfl, Nat.le_of_ble_eq_true rfl, Nat.le_of_ble_eq_true rfl, Nat.le_of_ble_eq_true rfl⟩ (fun tS hPt hFt => ⟨u.2, ⟨Or.inr ⟨rfl, rfl⟩, hu.2⟩, hPt.sub [0, 1, 2, 3, 4, 5, 6, 7, 8, 9, 10, 11, 12, 13, 14, 15, 16, 17, 18, 19, 20, 21, 22, 23, 24, 25] rfl, hFt⟩) dX6_go_73 dX6_go_76 dX6_go_77 dX6_go_79 dX6_go_82
          ·
            intro H locs ls ⟨S2, v2, hG, hI3, hP, hS, hl⟩
            obtain ⟨hI2, he2⟩ := hI3
            refine lv_iload hx hb dX6_go_48 (lv_at hl 4 rfl) ?_
            refine lv_bipush (v := nI 100) hx hb dX6_go_50 (by decide) ?_
            refine lv_icmp_ge (tgt := 89) hx hb dX6_go_52 (by decide) (fun c_52 => ?_) (fun c_52 => absurd (Int32.le_refl _) c_52)
            exact KX _ _ _ ⟨S2, v2, hG, he2, hP, hS, lv_sub hl [0, 1, 2, 3] rfl⟩
      ·
        rw [go_f3 c_25]
        refine xpc (q := 29) rfl ?_
        exact xthrow hx hb htr hown hg hT hZ hT.2.1.1 f_IA mK_X6_52 in_IA at_IA bt_IA ot_IA st_139 hP hS (hl.1.trans hml.symm) hex hlk ⟨Nat.le_of_ble_eq_true rfl, Nat.le_of_ble_eq_true rfl, Nat.le_of_ble_eq_true rfl, Nat.le_of_ble_eq_true rfl⟩ (fun tS hPt hFt => ⟨v, ⟨Or.inl ⟨rfl, rfl⟩, hen⟩, hPt.sub [0, 1, 2, 3, 4, 5, 6, 7, 8, 9, 10, 11, 12, 13, 14, 15, 16, 17, 18, 19, 20, 21, 22, 23, 24, 25] rfl, hFt⟩) dX6_go_29 dX6_go_32 dX6_go_33 dX6_go_35 dX6_go_38
