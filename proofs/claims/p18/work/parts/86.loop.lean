set_option maxHeartbeats 4000000 in
set_option maxRecDepth 100000 in
/-- one tick of the law, from the head of its loop on -/
theorem law_tick (l : Launch) {pr : Program} {e : Env} {s : State} {m : MethodId} {args : Array Value} {below : List Frame} {meth : Method} {c : Code} {Q : State → Prop} (hx : pr.tables.exec = Jvm.exec) (hb : c.code = cL_law) (hml : c.maxLocals = 23) (hts : ∀ w ∈ wsL_law, w.before args s = true) (hown : s.vm.findClass RL = some m.cls) {D : va_G} {cI cJ cB : ClassId} {t0 z : Nat} {tx ad : Nat → Nat} (hG : fG D cI cJ cB t0 z tx s) {cells slots : Nat} {E : Nat → va_E} {H : Heap} {locs : List Loc} {ls : Array Slot} (hl9 : l.stackTraces = false) {T n : Nat} (hst : law_st cI cJ cB T n ad E) (hT : T < 2 ^ 19) {time : Nat} (ht : time < 70) (hc : cells ≤ 90000) (hs : slots ≤ 440000) (hI : fI D (fA z) s.heap ad (fLS n) E H locs) (hl : lv_has ls 23 [(0, .ref t0), (1, .ref (ad 0)), (2, .ref (ad 50)), (3, .int (nI time))])
    (kk : ∀ (n1 : Nat) (ad1 : Nat → Nat) (E1 : Nat → va_E) (H1 : Heap) (locs1 : List Loc) (ls1 : Array Slot) (c1 s1 : Nat), c1 ≤ cells + 900 → s1 ≤ slots + 5000 → law_st cI cJ cB (T + 1) n1 ad1 E1 → fI D (fA z) s.heap ad1 (fLS n1) E1 H1 locs1 → lv_has ls1 23 [(0, .ref t0), (1, .ref (ad1 0)), (2, .ref (ad1 50)), (3, .int (nI time))] → W pr l e ({ frames := 11, cells := 1200130, slots := 5501080, locals := 402 } : Room) s m args below meth c H1 locs1 c1 s1 Q (F0 m 1221 ls1 [])) : W pr l e ({ frames := 11, cells := 1200130, slots := 5501080, locals := 402 } : Room) s m args below meth c H locs cells slots Q (F0 m 28 ls []) := by
  refine law_A l hx hb hml hts hown hG ht (by omega) (by omega) hI hl (fun xv H1 locs1 ls1 hI1 hl1 => ?_)
  refine law_B l hx hb hml hts hown hG hl9 hst rfl (by omega) ht (by omega) (by omega) hI1 hl1 (fun n1 ad1 E1 H2 locs2 ls2 c2 s2 hc2 hs2 had hst1 hI2 hl2 => ?_)
  obtain ⟨w, p, g, nw, B, F, hL0, hX, hS⟩ := hst1
  have hn6 := hL0.2.1
  have hLt80 : ∀ k, k ∈ fLS n1 → k < 80 := fun k hk => (fLS_mem.mp hk).1
  refine law_C l hx hb hml hts hown hG hl9 hL0 (by omega) hLt80 fLS_x (fLS_s hn6) hX hS ht (by omega) (by omega) hI2 hl2 (fun ad2 E2 H3 locs3 ls3 c3 s3 hc3 hs3 had2 hX2 hS2 hW2 hI3 hl3 => ?_)
  have hLt3 := app_lt (j := 90) (mna_lt hn6 hLt80) (by omega) (by omega)
  have hXm3 : ∀ k, k < 5 ∨ (10 ≤ k ∧ k < 24) ∨ (30 ≤ k ∧ k < 44) → k ∈ fLS n1 ++ [80] ++ (List.range n1).map (fun i => 81 + i) ++ [90] := fun k hk => List.mem_append_left _ (List.mem_append_left _ (List.mem_append_left _ (fLS_x k hk)))
  have hSm3 : ∀ k, (50 ≤ k ∧ k < 55) ∨ (60 ≤ k ∧ k < 60 + n1) ∨ (70 ≤ k ∧ k < 70 + n1) → k ∈ fLS n1 ++ [80] ++ (List.range n1).map (fun i => 81 + i) ++ [90] := fun k hk => List.mem_append_left _ (List.mem_append_left _ (List.mem_append_left _ (fLS_s hn6 k hk)))
  have hWm3 : ∀ k, (80 ≤ k ∧ k < 81 + n1) ∨ k = 90 → k ∈ fLS n1 ++ [80] ++ (List.range n1).map (fun i => 81 + i) ++ [90] := fun k hk => by
    rcases hk with h | h
    · exact List.mem_append_left _ (mna_mem (by omega))
    · rw [h]; exact in_last
  refine law_D1 l hx hb hml hts hown hG hl9 hL0 (by omega) hLt3 hXm3 hSm3 hX2 hS2 hWm3 hW2 ht (by omega) (by omega) hI3 hl3 (fun ad3 E3 H4 locs4 ls4 c4 s4 hc4 hs4 had3 hX3 hS3 hW3 hpre hI4 hl4 => ?_)
  obtain ⟨f9, hf9, hpre⟩ := hpre
  have hLt4 := app_lt (j := 91) hLt3 (by omega) (by omega)
  have hXm4 := fun k hk => List.mem_append_left [91] (hXm3 k hk)
  have hSm4 := fun k hk => List.mem_append_left [91] (hSm3 k hk)
  have hWm4 := fun k hk => List.mem_append_left [91] (hWm3 k hk)
  have hL1 := hL0.go (F := F) (by omega)
  have hBB : ∀ i, i < n1 → p_run w p g nw T n1 F B 1 i = p_tick w p g nw (nI T) (F i) (B i) := fun i hi => run_1 hi
  refine law_E l hx hb hml hts hown hG hl9 hL1 hL0 rfl hBB rfl (by omega) hLt4 hXm4 hSm4 hX3 hS3 hWm4 hW3 in_last hf9 hpre ht (by omega) (by omega) hI4 hl4 (fun E5 H5 locs5 ls5 c5 s5 hc5 hs5 hX5 hS5 hW5 hI5 hl5 => ?_)
  refine law_F l hx hb hml hts hown hG hl9 hL1 hL0 rfl hBB rfl (by omega) hLt4 hXm4 hSm4 hX5 hS5 hWm4 hW5 ht (by omega) (by omega) hI5 hl5 (fun E6 H6 locs6 ls6 c6 s6 hc6 hs6 hX6 hS6 hW6 hI6 hl6 => ?_)
  refine law_H l hx hb hml hts hown hG hl9 hL1 hL0 rfl hBB rfl (by omega) hXm4 hSm4 hX6 hS6 hWm4 hW6 ht (by omega) (by omega) hI6 hl6 (fun E7 H7 locs7 ls7 c7 s7 hc7 hs7 hX7 hS7 hW7 hI7 hl7 => ?_)
  refine law_I l hx hb hml hts hown hG hl9 hL1 hL0 rfl hBB rfl (by omega) hXm4 hSm4 hX7 hS7 hWm4 hW7 ht (by omega) (by omega) hI7 hl7 (fun E8 H8 locs8 ls8 c8 s8 hc8 hs8 hX8 hS8 hI8 hl8 => ?_)
  have hI9 : fI D (fA z) s.heap ad3 (fLS n1) E8 H8 locs8 := fI_ren hI8 (fun k => k) (fLS_pw _) (fun k hk => ⟨List.mem_append_left _ (List.mem_append_left _ (List.mem_append_left _ (List.mem_append_left _ hk))), rfl, rfl⟩) (fun a _ b _ h => h)
  exact kk n1 ad3 E8 H8 locs8 ls8 c8 s8 (by omega) (by omega) ⟨w, p, g, nw, _, F, hL1, hX8, hS8⟩ hI9 hl8
set_option maxHeartbeats 4000000 in
set_option maxRecDepth 100000 in
theorem law_Z (l : Launch) {pr : Program} {e : Env} {s : State} {m : MethodId} {args : Array Value} {below : List Frame} {meth : Method} {c : Code} {Q : State → Prop} (hx : pr.tables.exec = Jvm.exec) (hb : c.code = cL_law) (hml : c.maxLocals = 23) (hts : ∀ w ∈ wsL_law, w.before args s = true) (hown : s.vm.findClass RL = some m.cls) {D : va_G} {cI cJ cB : ClassId} {t0 z : Nat} {tx ad : Nat → Nat} {L : List Nat} (hG : fG D cI cJ cB t0 z tx s) {cells slots : Nat} {E : Nat → va_E} {H : Heap} {locs : List Loc} {ls : Array Slot} (hl9 : l.stackTraces = false) {w p g : Nat → Int32} {nw n T : Nat} {B F : Nat → Nat → Int32} (hL0 : okL w p g nw n T B) (hT : T < 2 ^ 20) (hLt : ∀ k, k ∈ L → k < 80) (hXm : ∀ k, k < 5 ∨ (10 ≤ k ∧ k < 24) ∨ (30 ≤ k ∧ k < 44) → k ∈ L) (hSm : ∀ k, (50 ≤ k ∧ k < 55) ∨ (60 ≤ k ∧ k < 60 + n) ∨ (70 ≤ k ∧ k < 70 + n) → k ∈ L) (hX : x_at cI cB ad E w p g nw n T B F) (hS : s_at cI cJ ad E w p g nw n T B F) {time : Nat} (hc : cells ≤ 100000) (hs : slots ≤ 500000) (hI : fI D (fA z) s.heap ad L E H locs) (hl : lv_has ls 23 [(0, .ref t0), (1, .ref (ad 0)), (2, .ref (ad 50)), (3, .int (nI time))]) (kk : ∀ (H1 : Heap) (locs1 : List Loc) (ls1 : Array Slot) (c1 s1 : Nat), c1 ≤ cells + 100 → s1 ≤ slots + 700 → va_S (fA z) s.heap H1 locs1 → W pr l e ({ frames := 11, cells := 1200130, slots := 5501080, locals := 402 } : Room) s m args below meth c H1 locs1 c1 s1 Q (F0 m 1232 ls1 [.int 1])) : W pr l e ({ frames := 11, cells := 1200130, slots := 5501080, locals := 402 } : Room) s m args below meth c H locs cells slots Q (F0 m 1227 ls []) := by
  have hT : T < 2 ^ 30 := by omega
  have hnw := hL0.1
  have hn6 := hL0.2.1
  have h8 := hL0.h8
  have hok := hL0.2.2.2.1
  refine lv_aload_n hx hb dL_law_1227 rfl (lv_at hl 2 rfl) ?_
  refine lv_aload_n hx hb dL_law_1228 rfl (lv_at hl 1 rfl) ?_
  have hS50 : E 50 = .inr (4, [.int (nI T), .ref (ad 51), .ref (ad 52), .int (nI nw), .ref (ad 53), .ref (ad 54)]) := hS.1
  refine f_calli (va_runV (As := [.ref (ad 0)]) (rest := []) ⟨hx, hb, hml, hown, hts⟩ (m_X4_isSame l hl9 hL0 hT hLt hXm hSm hX hS) (cwV 1 hts gL_law_X4_isSame rfl rfl rfl (by decide +kernel) ⟨(Nat.le_of_ble_eq_true rfl), (Nat.le_of_ble_eq_true rfl)⟩) (fPre_ofV hG hI rfl (hSm _ (by omega)) hS50 rfl rfl) rfl rfl hl.1 rfl (lv_room (Nat.le_of_ble_eq_true rfl)) dL_law_1229 ⟨(by show _ ≤ 1200130; omega), (by show _ ≤ 5501080; omega)⟩) hI.2.2 (fun r9 u9 t9 H locs ht9 hp hb9 hS9 => ?_)
  have hp : r9 = 1 := hp
  subst hp
  exact kk H locs ls _ _ (by omega) (by omega) hS9

set_option maxHeartbeats 4000000 in
set_option maxRecDepth 100000 in
theorem law_loop (l : Launch) {pr : Program} {e : Env} {s : State} {m : MethodId} {args : Array Value} {below : List Frame} {meth : Method} {c : Code} {Q : State → Prop} (hx : pr.tables.exec = Jvm.exec) (hb : c.code = cL_law) (hml : c.maxLocals = 23) (hts : ∀ w ∈ wsL_law, w.before args s = true) (hown : s.vm.findClass RL = some m.cls) {D : va_G} {cI cJ cB : ClassId} {t0 z : Nat} {tx : Nat → Nat} (hG : fG D cI cJ cB t0 z tx s) (hl9 : l.stackTraces = false) (kk : ∀ (H1 : Heap) (locs1 : List Loc) (ls1 : Array Slot) (c1 s1 : Nat), c1 ≤ 1200130 → s1 ≤ 5501080 → va_S (fA z) s.heap H1 locs1 → W pr l e ({ frames := 11, cells := 1200130, slots := 5501080, locals := 402 } : Room) s m args below meth c H1 locs1 c1 s1 Q (F0 m 1232 ls1 [.int 1])) : ∀ (d time : Nat), time ≤ 70 → 71 ≤ time + d → ∀ (T n : Nat) (ad : Nat → Nat) (E : Nat → va_E) (H : Heap) (locs : List Loc) (ls : Array Slot) (c1 s1 : Nat), T ≤ 26 + time → c1 ≤ 2000 + 900 * time → s1 ≤ 10000 + 5000 * time → law_st cI cJ cB T n ad E → fI D (fA z) s.heap ad (fLS n) E H locs → lv_has ls 23 [(0, .ref t0), (1, .ref (ad 0)), (2, .ref (ad 50)), (3, .int (nI time))] → W pr l e ({ frames := 11, cells := 1200130, slots := 5501080, locals := 402 } : Room) s m args below meth c H locs c1 s1 Q (F0 m 22 ls []) := by
  intro d
  induction d with
  | zero => intro time h1 h2; exact absurd h2 (by omega)
  | succ d ih =>
    intro time ht1 ht2 T n ad E H locs ls c1 s1 hT hc hs hst hI hl
    refine lv_iload_n hx hb dL_law_22 rfl (lv_at hl 3 rfl) ?_
    refine lv_bipush (v := 70) hx hb dL_law_23 (by decide) ?_
    refine lv_icmp_ge (tgt := 1227) hx hb dL_law_25 (by decide) (fun c_25 => ?_) (fun c_25 => ?_)
    · obtain ⟨w, p, g, nw, B, F, hL0, hX, hS⟩ := hst
      exact law_Z l hx hb hml hts hown hG hl9 hL0 (by omega) (fun k hk => (fLS_mem.mp hk).1) fLS_x (fLS_s hL0.2.1) hX hS (time := time) (by omega) (by omega) hI hl (fun H1 locs1 ls1 c2 s2 hc2 hs2 hS1 => kk H1 locs1 ls1 c2 s2 (by omega) (by omega) hS1)
    · have ht : time < 70 := (nI_ltI (by omega) (by omega) (b := 70)).mp (i_nle.mp c_25)
      refine law_tick l hx hb hml hts hown hG hl9 hst (by omega) ht (by omega) (by omega) hI hl (fun n1 ad1 E1 H locs ls c2 s2 hc2 hs2 hst hI hl => ?_)
      refine lv_iinc (v := (nI (time + 1))) (lv' := [(3, .int (nI (time + 1))), (0, .ref t0), (1, .ref (ad1 0)), (2, .ref (ad1 50))]) hx hb dL_law_1221 hl (k := 3) rfl (nI_1 time) (by decide) rfl (fun ls hl => ?_)
      refine lv_goto (tgt := 22) hx hb dL_law_1224 (by decide) ?_
      exact ih (time + 1) (by omega) (by omega) (T + 1) n1 ad1 E1 H locs ls c2 s2 (by omega) (by omega) (by omega) hst hI (lv_sub hl [1, 2, 3, 0] rfl)
set_option maxHeartbeats 4000000 in
set_option maxRecDepth 100000 in
theorem law_start (l : Launch) {pr : Program} {e : Env} {s : State} {m : MethodId} {args : Array Value} {below : List Frame} {meth : Method} {c : Code} {Q : State → Prop} (hx : pr.tables.exec = Jvm.exec) (hb : c.code = cL_law) (hml : c.maxLocals = 23) (hts : ∀ w ∈ wsL_law, w.before args s = true) (hown : s.vm.findClass RL = some m.cls) {D : va_G} {cI cJ cB : ClassId} {t0 z : Nat} {tx ad : Nat → Nat} (hG : fG D cI cJ cB t0 z tx s) {E : Nat → va_E} {H : Heap} {locs : List Loc} {ls : Array Slot} (hl9 : l.stackTraces = false) (hI : fI D (fA z) s.heap ad [] E H locs) (hl : lv_has ls 23 [(0, .ref t0)]) (kk : ∀ (H1 : Heap) (locs1 : List Loc) (ls1 : Array Slot) (c1 s1 : Nat), c1 ≤ 1200130 → s1 ≤ 5501080 → va_S (fA z) s.heap H1 locs1 → W pr l e ({ frames := 11, cells := 1200130, slots := 5501080, locals := 402 } : Room) s m args below meth c H1 locs1 c1 s1 Q (F0 m 1232 ls1 [.int 1])) : W pr l e ({ frames := 11, cells := 1200130, slots := 5501080, locals := 402 } : Room) s m args below meth c H locs 0 0 Q (F0 m 0 ls []) := by
  refine f_new (ci := 3) (C := RX3) (T := TX3) (N := 3) (k := 0) (fs := [.null, .null, .null]) hx hb hts (by decide +kernel) tyX3 tyX3_ok hown (hts (.classLink RL 26 RX3) (by decide +kernel)) (hts (.instantiable RX3 3) (by decide +kernel)) (hts (.initialized RX3) (by decide +kernel)) hG.1 hI (fG_A hG) rfl (by decide) (fun h9 => absurd h9 List.not_mem_nil) (Nat.le_of_ble_eq_true rfl) (Nat.le_of_ble_eq_true rfl) dL_law_0 (fun aN adN EN H hk hr9 hE hEr hI => ?_)
  refine lv_dup hx hb dL_law_3 rfl ?_
  refine f_callc (va_runI (As := []) (rest := [.ref aN]) ⟨hx, hb, hml, hown, hts⟩ (m_X3_init l hk in_last (fun k h1 h2 => nin_app List.not_mem_nil (by omega)) hE) ⟨callB_of 0 hts gL_law_X3_init rfl rfl rfl (hts (.initialized RX3) (by decide +kernel)) (hts (.methodLink RL 75 yX3_init) (by decide +kernel)) (by decide +kernel) ⟨(Nat.le_of_ble_eq_true rfl), (Nat.le_of_ble_eq_true rfl)⟩, rfl, (hts (.instanceMethod yX3_init) (by decide +kernel))⟩ (fPre_of hG hI) rfl rfl hl.1 rfl (lv_room (Nat.le_of_ble_eq_true rfl)) dL_law_4 ⟨(Nat.le_of_ble_eq_true rfl), (Nat.le_of_ble_eq_true rfl)⟩) hI (fun adM EM H locs hp hI => ?_)
  obtain ⟨hA9, hE9, hX⟩ := hp
  have h0 : aN = adM 0 := ((hA9 0 (Or.inl rfl)).trans hk).symm
  subst h0
  have hXm : ∀ k, k < 5 ∨ (10 ≤ k ∧ k < 24) ∨ (30 ≤ k ∧ k < 44) → k ∈ [] ++ [0] ++ [1] ++ [2] ++ [3] ++ [4] ++ [10] ++ [10 + 1] ++ [10 + 2 + 2 * 0] ++ [10 + 2 + 2 * 0 + 1] ++ [10 + 2 + 2 * 1] ++ [10 + 2 + 2 * 1 + 1] ++ [10 + 2 + 2 * 2] ++ [10 + 2 + 2 * 2 + 1] ++ [10 + 2 + 2 * 3] ++ [10 + 2 + 2 * 3 + 1] ++ [10 + 2 + 2 * 4] ++ [10 + 2 + 2 * 4 + 1] ++ [10 + 2 + 2 * 5] ++ [10 + 2 + 2 * 5 + 1] ++ [30] ++ [30 + 1] ++ [30 + 2 + 2 * 0] ++ [30 + 2 + 2 * 0 + 1] ++ [30 + 2 + 2 * 1] ++ [30 + 2 + 2 * 1 + 1] ++ [30 + 2 + 2 * 2] ++ [30 + 2 + 2 * 2 + 1] ++ [30 + 2 + 2 * 3] ++ [30 + 2 + 2 * 3 + 1] ++ [30 + 2 + 2 * 4] ++ [30 + 2 + 2 * 4 + 1] ++ [30 + 2 + 2 * 5] ++ [30 + 2 + 2 * 5 + 1] := fun k hk => (by decide +kernel : ∀ k, k < 44 → (k < 5 ∨ (10 ≤ k ∧ k < 24) ∨ (30 ≤ k ∧ k < 44)) → k ∈ [] ++ [0] ++ [1] ++ [2] ++ [3] ++ [4] ++ [10] ++ [10 + 1] ++ [10 + 2 + 2 * 0] ++ [10 + 2 + 2 * 0 + 1] ++ [10 + 2 + 2 * 1] ++ [10 + 2 + 2 * 1 + 1] ++ [10 + 2 + 2 * 2] ++ [10 + 2 + 2 * 2 + 1] ++ [10 + 2 + 2 * 3] ++ [10 + 2 + 2 * 3 + 1] ++ [10 + 2 + 2 * 4] ++ [10 + 2 + 2 * 4 + 1] ++ [10 + 2 + 2 * 5] ++ [10 + 2 + 2 * 5 + 1] ++ [30] ++ [30 + 1] ++ [30 + 2 + 2 * 0] ++ [30 + 2 + 2 * 0 + 1] ++ [30 + 2 + 2 * 1] ++ [30 + 2 + 2 * 1 + 1] ++ [30 + 2 + 2 * 2] ++ [30 + 2 + 2 * 2 + 1] ++ [30 + 2 + 2 * 3] ++ [30 + 2 + 2 * 3 + 1] ++ [30 + 2 + 2 * 4] ++ [30 + 2 + 2 * 4 + 1] ++ [30 + 2 + 2 * 5] ++ [30 + 2 + 2 * 5 + 1]) k (by omega) hk
  have hLt : ∀ k, k ∈ [] ++ [0] ++ [1] ++ [2] ++ [3] ++ [4] ++ [10] ++ [10 + 1] ++ [10 + 2 + 2 * 0] ++ [10 + 2 + 2 * 0 + 1] ++ [10 + 2 + 2 * 1] ++ [10 + 2 + 2 * 1 + 1] ++ [10 + 2 + 2 * 2] ++ [10 + 2 + 2 * 2 + 1] ++ [10 + 2 + 2 * 3] ++ [10 + 2 + 2 * 3 + 1] ++ [10 + 2 + 2 * 4] ++ [10 + 2 + 2 * 4 + 1] ++ [10 + 2 + 2 * 5] ++ [10 + 2 + 2 * 5 + 1] ++ [30] ++ [30 + 1] ++ [30 + 2 + 2 * 0] ++ [30 + 2 + 2 * 0 + 1] ++ [30 + 2 + 2 * 1] ++ [30 + 2 + 2 * 1 + 1] ++ [30 + 2 + 2 * 2] ++ [30 + 2 + 2 * 2 + 1] ++ [30 + 2 + 2 * 3] ++ [30 + 2 + 2 * 3 + 1] ++ [30 + 2 + 2 * 4] ++ [30 + 2 + 2 * 4 + 1] ++ [30 + 2 + 2 * 5] ++ [30 + 2 + 2 * 5 + 1] → k < 50 := by decide +kernel
  refine lv_astore_n (lv' := [(1, .ref (adM 0)), (0, .ref t0)]) hx hb dL_law_7 rfl hl (by decide) rfl (fun ls hl => ?_)
  refine lv_aload_n hx hb dL_law_8 rfl (lv_at hl 0 rfl) ?_
  refine lv_aload_n hx hb dL_law_9 rfl (lv_at hl 1 rfl) ?_
  refine f_callb (va_runS (As := [.ref (adM 0), .ref t0]) (rest := []) ⟨hx, hb, hml, hown, hts⟩ (m_L_build l hl9 hXm hLt hX) (va_cwS 2 hts gL_law_L_build rfl rfl rfl (by decide +kernel) ⟨(Nat.le_of_ble_eq_true rfl), (Nat.le_of_ble_eq_true rfl)⟩) (fPre_of hG hI) rfl rfl hl.1 rfl (lv_room (Nat.le_of_ble_eq_true rfl)) dL_law_10 ⟨(Nat.le_of_ble_eq_true rfl), (Nat.le_of_ble_eq_true rfl)⟩) hI (fun T n1 ad1 E1 H locs ra hra hp hI => ?_)
  obtain ⟨hT, hq0, hst⟩ := hp
  have hT : T ≤ 26 := hT
  have hq0 : ad1 0 = adM 0 := hq0
  have hst : law_st cI cJ cB T n1 ad1 E1 := hst
  subst hra
  refine lv_astore_n (lv' := [(2, .ref (ad1 50)), (1, .ref (adM 0)), (0, .ref t0)]) hx hb dL_law_13 rfl hl (by decide) rfl (fun ls hl => ?_)
  refine lv_aload_n hx hb dL_law_14 rfl (lv_at hl 0 rfl) ?_
  refine lv_ifnonnull (tgt := 20) hx hb dL_law_15 (by decide) ?_
  refine lv_iconst (v := 0) hx hb dL_law_20 (by decide) ?_
  refine lv_istore_n (lv' := [(3, .int 0), (2, .ref (ad1 50)), (1, .ref (adM 0)), (0, .ref t0)]) hx hb dL_law_21 rfl hl (by decide) rfl (fun ls hl => ?_)
  exact law_loop l hx hb hml hts hown hG hl9 kk 71 0 (by omega) (by omega) T n1 ad1 E1 H locs ls _ _ (by omega) (by omega) (by omega) hst hI (by rw [hq0]; exact lv_sub hl [3, 2, 1, 0] rfl)
