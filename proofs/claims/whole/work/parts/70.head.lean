/-! what the start gives -/
theorem arr_k {args : Array Value} {s : State} {ty : FieldType} (h : (Cond.arrayClass ty).before args s = true) : ∃ cA : ClassId, ArrOfT s cA ty ∧ s.vm.findClass ("[" ++ ty.toString) = some cA := by
  obtain ⟨c, k, comp, h1, h2, h3⟩ := Cond.arrayClass_spec h
  exact ⟨c, fun n z => ⟨fun k h => (by cases h), k, h2, comp, h3⟩, h1⟩
theorem arr_o {args : Array Value} {s : State} {ty : FieldType} (h : (Cond.arrayOver (.array ty)).before args s = true) : ∃ cA : ClassId, ArrOfT s cA (.array ty) ∧ s.vm.findClass ("[" ++ (FieldType.array ty).toString) = some cA := by
  obtain ⟨comp, c, k, -, -, h2, h3, h4⟩ := arrayOverA_spec h
  exact ⟨c, fun n z => ⟨fun k h => (by cases h), k, h2, comp, h3⟩, h4⟩
set_option maxRecDepth 100000 in
theorem st_nest1 : Cond.methodLinkNest RX6 18 yX0_init RX6 ∈ lw_tbl := by decide +kernel
set_option maxRecDepth 100000 in
theorem st_nest2 : Cond.methodLinkNest RX6 43 yX5_init RX6 ∈ lw_tbl := by decide +kernel
set_option maxRecDepth 100000 in
theorem st_nest3 : Cond.methodLinkNest RX4 92 yX6_greatest RX6 ∈ lw_tbl := by decide +kernel
set_option maxRecDepth 100000 in
theorem st_nest4 : Cond.methodLinkNest RX1 73 yX6_sizeOf RX6 ∈ lw_tbl := by decide +kernel
set_option maxRecDepth 100000 in
theorem st_nest5 : Cond.methodLinkNest RX1 49 yX6_greatest RX6 ∈ lw_tbl := by decide +kernel
theorem st_nst {args : Array Value} {s : State} (hts : ∀ w ∈ lw_tbl, w.before args s = true) : nst s := ⟨va_Nw.of rfl (hts _ st_nest1), va_Nw.of rfl (hts _ st_nest2), va_Nw.of rfl (hts _ st_nest3), va_Nw.of rfl (hts _ st_nest4), va_Nw.of rfl (hts _ st_nest5)⟩
set_option maxRecDepth 100000 in
theorem st_over : Cond.arrayOver (.array .double) ∈ lw_tbl := by decide +kernel
set_option maxRecDepth 100000 in
theorem st_ceIA : Cond.castable eIA eIA ∈ lw_tbl := by decide +kernel
set_option maxRecDepth 100000 in
theorem st_ceIS : Cond.castable eIS eIS ∈ lw_tbl := by decide +kernel
set_option maxRecDepth 100000 in
theorem st_ceAR : Cond.castable eAR eAR ∈ lw_tbl := by decide +kernel
set_option maxRecDepth 100000 in
theorem st_ceNS : Cond.castable eNS eNS ∈ lw_tbl := by decide +kernel
set_option maxRecDepth 100000 in
theorem st_d0 : Cond.declares (Bundle.initS "java/lang/RuntimeException") ∈ lw_tbl := by decide +kernel
set_option maxRecDepth 100000 in
theorem st_d1 : Cond.declares (Bundle.initS "java/lang/Exception") ∈ lw_tbl := by decide +kernel
set_option maxRecDepth 100000 in
theorem st_d2 : Cond.declares (Bundle.initS Bundle.tN) ∈ lw_tbl := by decide +kernel
set_option maxRecDepth 100000 in
theorem st_s54 : Cond.stringRef RX6 54 "a system has 1 to 3 values" ∈ lw_tbl := by decide +kernel
set_option maxRecDepth 100000 in
theorem st_s66 : Cond.stringRef RX6 66 "no such value or factor" ∈ lw_tbl := by decide +kernel
set_option maxRecDepth 100000 in
theorem st_s74 : Cond.stringRef RX6 74 "c is not from -64.0 to 64.0" ∈ lw_tbl := by decide +kernel
set_option maxRecDepth 100000 in
theorem st_s82 : Cond.stringRef RX6 82 "there are 10 terms" ∈ lw_tbl := by decide +kernel
set_option maxRecDepth 100000 in
theorem st_s98 : Cond.stringRef RX6 98 "no such value, or it is not from -1000.0 to 1000.0" ∈ lw_tbl := by decide +kernel
set_option maxRecDepth 100000 in
theorem st_s104 : Cond.stringRef RX6 104 "not above 0.0, or above 4.0" ∈ lw_tbl := by decide +kernel
set_option maxRecDepth 100000 in
theorem st_s116 : Cond.stringRef RX6 116 "no such method" ∈ lw_tbl := by decide +kernel
set_option maxRecDepth 100000 in
theorem st_s127 : Cond.stringRef RX6 127 "the step fails" ∈ lw_tbl := by decide +kernel
set_option maxRecDepth 100000 in
theorem st_s139 : Cond.stringRef RX6 139 "no such method, or a time that can't be gone to" ∈ lw_tbl := by decide +kernel
set_option maxRecDepth 100000 in
theorem st_s147 : Cond.stringRef RX6 147 "a step fails" ∈ lw_tbl := by decide +kernel
set_option maxRecDepth 100000 in
theorem st_s149 : Cond.stringRef RX6 149 "the time is not reached in 100 steps" ∈ lw_tbl := by decide +kernel
set_option maxRecDepth 100000 in
theorem st_s151 : Cond.stringRef RX6 151 "no such value, or the level is not from -1000.0 to 1000.0" ∈ lw_tbl := by decide +kernel
set_option maxRecDepth 100000 in
theorem st_s162 : Cond.stringRef RX6 162 "no such event" ∈ lw_tbl := by decide +kernel
set_option maxRecDepth 100000 in
theorem st_s169 : Cond.stringRef RX6 169 "no such value" ∈ lw_tbl := by decide +kernel
set_option maxRecDepth 100000 in
theorem st_s175 : Cond.stringRef RX6 175 "no such value, or m is not from 0.0 to 1.0" ∈ lw_tbl := by decide +kernel
set_option maxRecDepth 100000 in
theorem st_s181 : Cond.stringRef RX6 181 "there is no last step" ∈ lw_tbl := by decide +kernel
theorem st_str {args : Array Value} {s : State} {k : Nat} {tx : String} (h1 : (Cond.stringRef RX6 k tx).before args s = true) (h2 : (Cond.exactly (.string RX6 k) "java/lang/String").before args s = true) : ∃ sa, vk_R RX6 k tx sa s := by
  obtain ⟨a, -, -, -, ha, -⟩ := Cond.exactly_spec h2
  exact ⟨a, vk_R.of h1 ha⟩
set_option maxRecDepth 100000 in
set_option maxHeartbeats 4000000 in
theorem st_ex {args : Array Value} {s : State} (h : (Jvm.Cond.and given_1 narrow_1).before args s = true) : (Cond.exactly (.string RX6 54) "java/lang/String").before args s = true ∧ (Cond.exactly (.string RX6 66) "java/lang/String").before args s = true ∧ (Cond.exactly (.string RX6 74) "java/lang/String").before args s = true ∧ (Cond.exactly (.string RX6 82) "java/lang/String").before args s = true ∧ (Cond.exactly (.string RX6 98) "java/lang/String").before args s = true ∧ (Cond.exactly (.string RX6 104) "java/lang/String").before args s = true ∧ (Cond.exactly (.string RX6 116) "java/lang/String").before args s = true ∧ (Cond.exactly (.string RX6 127) "java/lang/String").before args s = true ∧ (Cond.exactly (.string RX6 139) "java/lang/String").before args s = true ∧ (Cond.exactly (.string RX6 147) "java/lang/String").before args s = true ∧ (Cond.exactly (.string RX6 149) "java/lang/String").before args s = true ∧ (Cond.exactly (.string RX6 151) "java/lang/String").before args s = true ∧ (Cond.exactly (.string RX6 162) "java/lang/String").before args s = true ∧ (Cond.exactly (.string RX6 169) "java/lang/String").before args s = true ∧ (Cond.exactly (.string RX6 175) "java/lang/String").before args s = true ∧ (Cond.exactly (.string RX6 181) "java/lang/String").before args s = true := by
  have hs := flat_of_before _ h
  exact ⟨hs _ (by decide +kernel), hs _ (by decide +kernel), hs _ (by decide +kernel), hs _ (by decide +kernel), hs _ (by decide +kernel), hs _ (by decide +kernel), hs _ (by decide +kernel), hs _ (by decide +kernel), hs _ (by decide +kernel), hs _ (by decide +kernel), hs _ (by decide +kernel), hs _ (by decide +kernel), hs _ (by decide +kernel), hs _ (by decide +kernel), hs _ (by decide +kernel), hs _ (by decide +kernel)⟩
set_option maxRecDepth 100000 in
set_option maxHeartbeats 4000000 in
theorem st_nc {args : Array Value} {s : State} (h : (Jvm.Cond.and given_1 narrow_1).before args s = true) : nC s := by
  have hs := flat_of_before _ h
  exact ⟨va_Nc.of (hs (.not (.castable eIS eIA)) (by decide +kernel)), va_Nc.of (hs (.not (.castable eAR eIA)) (by decide +kernel)), va_Nc.of (hs (.not (.castable eNS eIA)) (by decide +kernel))⟩
set_option maxRecDepth 100000 in
theorem st_l1 : Cond.laysStatic Bundle.tN "UNASSIGNED_STACK" Bundle.steD ∈ lw_tbl := by decide +kernel
set_option maxRecDepth 100000 in
theorem st_l2 : Cond.laysStatic Bundle.tN "SUPPRESSED_SENTINEL" Bundle.listD ∈ lw_tbl := by decide +kernel
set_option maxRecDepth 100000 in
theorem st_it : Cond.initialized Bundle.tN ∈ lw_tbl := by decide +kernel
set_option maxRecDepth 100000 in
set_option maxHeartbeats 4000000 in
theorem st_z {args : Array Value} {s : State} (hts : ∀ w ∈ lw_tbl, w.before args s = true) (h : (Jvm.Cond.and given_1 narrow_1).before args s = true) : tZ (fun q => s.heap.size ≤ q) s s.heap := by
  have hs := flat_of_before _ h
  exact ⟨vx_Zqof (hts _ st_l1) (hts _ st_it) (hs (.isRef (.static Bundle.tN "UNASSIGNED_STACK" Bundle.steD)) (by decide +kernel)) (fun a ha => Nat.not_le.mpr ha), vx_Zqof (hts _ st_l2) (hts _ st_it) (hs (.isRef (.static Bundle.tN "SUPPRESSED_SENTINEL" Bundle.listD)) (by decide +kernel)) (fun a ha => Nat.not_le.mpr ha)⟩
theorem st_t {args : Array Value} {s : State} (hts : ∀ w ∈ lw_tbl, w.before args s = true) (h : (Jvm.Cond.and given_1 narrow_1).before args s = true) : tI s := by
  obtain ⟨e54, e66, e74, e82, e98, e104, e116, e127, e139, e147, e149, e151, e162, e169, e175, e181⟩ := st_ex h
  refine ⟨?_, ⟨va_Nw.of rfl (hts _ st_ceIA), va_Nw.of rfl (hts _ st_ceIS), va_Nw.of rfl (hts _ st_ceAR), va_Nw.of rfl (hts _ st_ceNS)⟩, va_Nw.of rfl (hts _ st_d0), va_Nw.of rfl (hts _ st_d1), va_Nw.of rfl (hts _ st_d2)⟩
  intro q hq
  unfold strT at hq
  simp only [List.mem_cons, List.not_mem_nil, or_false] at hq
  rcases hq with rfl | rfl | rfl | rfl | rfl | rfl | rfl | rfl | rfl | rfl | rfl | rfl | rfl | rfl | rfl | rfl
  · exact st_str (hts _ st_s54) e54
  · exact st_str (hts _ st_s66) e66
  · exact st_str (hts _ st_s74) e74
  · exact st_str (hts _ st_s82) e82
  · exact st_str (hts _ st_s98) e98
  · exact st_str (hts _ st_s104) e104
  · exact st_str (hts _ st_s116) e116
  · exact st_str (hts _ st_s127) e127
  · exact st_str (hts _ st_s139) e139
  · exact st_str (hts _ st_s147) e147
  · exact st_str (hts _ st_s149) e149
  · exact st_str (hts _ st_s151) e151
  · exact st_str (hts _ st_s162) e162
  · exact st_str (hts _ st_s169) e169
  · exact st_str (hts _ st_s175) e175
  · exact st_str (hts _ st_s181) e181
