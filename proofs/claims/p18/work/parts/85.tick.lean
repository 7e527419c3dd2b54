set_option maxHeartbeats 4000000 in
set_option maxRecDepth 100000 in
theorem law_boat (l : Launch) {pr : Program} {e : Env} {s : State} {m : MethodId} {args : Array Value} {below : List Frame} {meth : Method} {c : Code} {Q : State → Prop} (hx : pr.tables.exec = Jvm.exec) (hb : c.code = cL_law) (hml : c.maxLocals = 23) (hts : ∀ w ∈ wsL_law, w.before args s = true) (hown : s.vm.findClass RL = some m.cls) {D : va_G} {cI cJ cB : ClassId} {t0 z : Nat} {tx ad : Nat → Nat} {L : List Nat} (hG : fG D cI cJ cB t0 z tx s) {cells slots : Nat} {E : Nat → va_E} {H : Heap} {locs : List Loc} {ls : Array Slot} (hl9 : l.stackTraces = false) {w p g : Nat → Int32} {nw n T T0 : Nat} {B F B0 : Nat → Nat → Int32} {G : Nat → Int32} (hL0 : okL w p g nw n T B) (hOld : okL w p g nw n T0 B0) (hTT : T = T0 + 1) (hBB : ∀ i, i < n → B i = p_tick w p g nw (nI T0) (F i) (B0 i)) (hG0 : G = fun i => p_arr w p g nw T0 (F i) (B0 i) 0 401) (hT : T < 2 ^ 20) (hLt : ∀ k, k ∈ L → k < 92) (hXm : ∀ k, k < 5 ∨ (10 ≤ k ∧ k < 24) ∨ (30 ≤ k ∧ k < 44) → k ∈ L) (hSm : ∀ k, (50 ≤ k ∧ k < 55) ∨ (60 ≤ k ∧ k < 60 + n) ∨ (70 ≤ k ∧ k < 70 + n) → k ∈ L) (hX : x_at cI cB ad E w p g nw n T B F) (hS : s_at cI cJ ad E w p g nw n T B F) (hWm : ∀ k, (80 ≤ k ∧ k < 81 + n) ∨ k = 90 → k ∈ L) (hW : w_at cI cJ ad E n B0 G) {i : Nat} (hi : i < n) {time : Nat} {xv : Int32} (ht : time < 70) (hc : cells ≤ 99000) (hs : slots ≤ 490000) (hI : fI D (fA z) s.heap ad L E H locs) (hl : lv_has ls 23 [(0, .ref t0), (1, .ref (ad 0)), (2, .ref (ad 50)), (3, .int (nI time)), (4, .int xv), (5, .int (nI n)), (6, .ref (ad 80)), (7, .ref (ad 90)), (11, .int (nI T0)), (14, .int (p_ones B n i)), (15, .int (p_psum B i)), (16, .int (nI i))])
    (kk : ∀ (E1 : Nat → va_E) (H1 : Heap) (locs1 : List Loc) (ls1 : Array Slot) (c1 s1 : Nat), c1 ≤ cells + 100 → s1 ≤ slots + 600 → x_at cI cB ad E1 w p g nw n T B F → s_at cI cJ ad E1 w p g nw n T B F → w_at cI cJ ad E1 n B0 G → fI D (fA z) s.heap ad L E1 H1 locs1 → lv_has ls1 23 [(0, .ref t0), (1, .ref (ad 0)), (2, .ref (ad 50)), (3, .int (nI time)), (4, .int xv), (5, .int (nI n)), (6, .ref (ad 80)), (7, .ref (ad 90)), (11, .int (nI T0)), (14, .int (p_ones B n (i + 1))), (15, .int (p_psum B (i + 1))), (16, .int (nI i))] → W pr l e ({ frames := 11, cells := 1200130, slots := 5501080, locals := 402 } : Room) s m args below meth c H1 locs1 c1 s1 Q (F0 m 1011 ls1 [])) : W pr l e ({ frames := 11, cells := 1200130, slots := 5501080, locals := 402 } : Room) s m args below meth c H locs cells slots Q (F0 m 308 ls []) := by
  have hn6 := hL0.2.1
  refine law_G1 l hx hb hml hts hown hG hl9 hL0 hOld hTT hBB hG0 hT hLt hXm hSm hX hS hWm hW hi ht (by omega) (by omega) hI hl (fun ad1 E1 H1 locs1 ls1 c1 s1 hc1 hs1 had hX1 hS1 hW1 hnow1 hI1 hl1 => ?_)
  have hXm1 := fun k hk => List.mem_append_left [92] (hXm k hk)
  have hSm1 := fun k hk => List.mem_append_left [92] (hSm k hk)
  have hWm1 := fun k hk => List.mem_append_left [92] (hWm k hk)
  have hnm : 92 ∈ L ++ [92] := in_last
  have KR : ∀ (E1 : Nat → va_E) (H1 : Heap) (locs1 : List Loc) (ls1 : Array Slot) (c2 s2 : Nat), c2 ≤ cells + 76 → s2 ≤ slots + 456 → x_at cI cB ad1 E1 w p g nw n T B F → s_at cI cJ ad1 E1 w p g nw n T B F → w_at cI cJ ad1 E1 n B0 G → E1 92 = .inl (cI, 9, .inl (p_fact (B i))) → fI D (fA z) s.heap ad1 (L ++ [92]) E1 H1 locs1 → lv_has ls1 23 [(0, .ref t0), (1, .ref (ad1 0)), (2, .ref (ad1 50)), (3, .int (nI time)), (4, .int xv), (5, .int (nI n)), (6, .ref (ad1 80)), (7, .ref (ad1 90)), (11, .int (nI T0)), (14, .int (p_ones B n i)), (15, .int (p_psum B (i + 1))), (16, .int (nI i)), (17, .ref (ad1 92))] → W pr l e ({ frames := 11, cells := 1200130, slots := 5501080, locals := 402 } : Room) s m args below meth c H1 locs1 c2 s2 Q (F0 m 862 ls1 []) := fun E1 H1 locs1 ls1 c2 s2 hc2 hs2 hX1 hS1 hW1 hnow1 hI1 hl1 => by
    refine law_Gr l hx hb hml hts hown hG hl9 hL0 hOld hTT hBB hG0 hT hXm1 hSm1 hX1 hS1 hWm1 hW1 hnm hi hnow1 ht (by omega) (by omega) hI1 hl1 (fun E3 H3 locs3 ls3 c3 s3 hc3 hs3 hX3 hS3 hW3 _ hI3 hl3 => ?_)
    have hI4 := fI_sub (E := E3) hI3 (fun q hq => had q (hLt q hq)) (fun _ _ => rfl)
    refine kk E3 H3 locs3 ls3 c3 s3 (by omega) (by omega) (hX3.ad (fun q h1 => (had q (by omega)).symm)) (hS3.ad hn6 (fun q h1 h2 => (had q (by omega)).symm)) (hW3.ad hn6 (fun q h1 h2 => (had q (by omega)).symm)) hI4 ?_
    rw [← had 0 (by omega), ← had 50 (by omega), ← had 80 (by omega), ← had 90 (by omega)]
    exact lv_sub hl3 [0, 1, 2, 3, 4, 5, 6, 7, 8, 9, 10, 11] rfl
  by_cases h0 : B0 i 8 = 0
  · refine law_Go1 l hx hb hml hts hown hG hl9 hL0 hOld hTT hBB hG0 hT hXm1 hSm1 hX1 hS1 hWm1 hW1 hnm hi hnow1 h0 ht (by omega) (by omega) hI1 hl1 (fun E2 H2 locs2 ls2 c2 s2 hc2 hs2 hX2 hS2 hW2 hnow2 hI2 hl2 => ?_)
    refine law_Go2 l hx hb hml hts hown hG hl9 hL0 hOld hTT hBB hG0 hT hXm1 hSm1 hX2 hS2 hWm1 hW2 hnm hi hnow2 h0 ht (by omega) (by omega) hI2 hl2 (fun E3 H3 locs3 ls3 c3 s3 hc3 hs3 hX3 hS3 hW3 hnow3 hI3 hl3 => ?_)
    refine law_Go3 l hx hb hml hts hown hG hl9 hL0 hOld hTT hBB hG0 hT hXm1 hSm1 hX3 hS3 hWm1 hW3 hnm hi hnow3 h0 ht (by omega) (by omega) hI3 hl3 (fun E4 H4 locs4 ls4 c4 s4 hc4 hs4 hX4 hS4 hW4 hnow4 hI4 hl4 => ?_)
    exact law_Go4 l hx hb hml hts hown hG hl9 hL0 hOld hTT hBB hG0 hT hXm1 hSm1 hX4 hS4 hWm1 hW4 hnm hi hnow4 h0 ht (by omega) (by omega) hI4 hl4 (fun E5 H5 locs5 ls5 c5 s5 hc5 hs5 hX5 hS5 hW5 hnow5 hI5 hl5 => KR E5 H5 locs5 ls5 c5 s5 (by omega) (by omega) hX5 hS5 hW5 hnow5 hI5 hl5)
  · exact law_Gin l hx hb hml hts hown hG hl9 hL0 hOld hTT hBB hG0 hT hXm1 hSm1 hX1 hS1 hWm1 hW1 hnm hi hnow1 h0 ht (by omega) (by omega) hI1 hl1 (fun E5 H5 locs5 ls5 c5 s5 hc5 hs5 hX5 hS5 hW5 hnow5 hI5 hl5 => KR E5 H5 locs5 ls5 c5 s5 (by omega) (by omega) hX5 hS5 hW5 hnow5 hI5 hl5)

set_option maxHeartbeats 4000000 in
set_option maxRecDepth 100000 in
theorem law_F (l : Launch) {pr : Program} {e : Env} {s : State} {m : MethodId} {args : Array Value} {below : List Frame} {meth : Method} {c : Code} {Q : State → Prop} (hx : pr.tables.exec = Jvm.exec) (hb : c.code = cL_law) (hml : c.maxLocals = 23) (hts : ∀ w ∈ wsL_law, w.before args s = true) (hown : s.vm.findClass RL = some m.cls) {D : va_G} {cI cJ cB : ClassId} {t0 z : Nat} {tx ad : Nat → Nat} {L : List Nat} (hG : fG D cI cJ cB t0 z tx s) {cells slots : Nat} {E : Nat → va_E} {H : Heap} {locs : List Loc} {ls : Array Slot} (hl9 : l.stackTraces = false) {w p g : Nat → Int32} {nw n T T0 : Nat} {B F B0 : Nat → Nat → Int32} {G : Nat → Int32} (hL0 : okL w p g nw n T B) (hOld : okL w p g nw n T0 B0) (hTT : T = T0 + 1) (hBB : ∀ i, i < n → B i = p_tick w p g nw (nI T0) (F i) (B0 i)) (hG0 : G = fun i => p_arr w p g nw T0 (F i) (B0 i) 0 401) (hT : T < 2 ^ 20) (hLt : ∀ k, k ∈ L → k < 92) (hXm : ∀ k, k < 5 ∨ (10 ≤ k ∧ k < 24) ∨ (30 ≤ k ∧ k < 44) → k ∈ L) (hSm : ∀ k, (50 ≤ k ∧ k < 55) ∨ (60 ≤ k ∧ k < 60 + n) ∨ (70 ≤ k ∧ k < 70 + n) → k ∈ L) (hX : x_at cI cB ad E w p g nw n T B F) (hS : s_at cI cJ ad E w p g nw n T B F) (hWm : ∀ k, (80 ≤ k ∧ k < 81 + n) ∨ k = 90 → k ∈ L) (hW : w_at cI cJ ad E n B0 G) {time : Nat} {xv : Int32} (ht : time < 70) (hc : cells ≤ 98000) (hs : slots ≤ 480000) (hI : fI D (fA z) s.heap ad L E H locs) (hl : lv_has ls 23 [(0, .ref t0), (1, .ref (ad 0)), (2, .ref (ad 50)), (3, .int (nI time)), (4, .int xv), (5, .int (nI n)), (6, .ref (ad 80)), (7, .ref (ad 90)), (11, .int (nI T0))]) (kk : ∀ (E1 : Nat → va_E) (H1 : Heap) (locs1 : List Loc) (ls1 : Array Slot) (c1 s1 : Nat), c1 ≤ cells + 600 → s1 ≤ slots + 3600 → x_at cI cB ad E1 w p g nw n T B F → s_at cI cJ ad E1 w p g nw n T B F → w_at cI cJ ad E1 n B0 G → fI D (fA z) s.heap ad L E1 H1 locs1 → lv_has ls1 23 [(0, .ref t0), (1, .ref (ad 0)), (2, .ref (ad 50)), (3, .int (nI time)), (4, .int xv), (5, .int (nI n)), (6, .ref (ad 80)), (7, .ref (ad 90)), (11, .int (nI T0)), (14, .int (p_ones B n n)), (15, .int (p_psum B n))] → W pr l e ({ frames := 11, cells := 1200130, slots := 5501080, locals := 402 } : Room) s m args below meth c H1 locs1 c1 s1 Q (F0 m 1017 ls1 [])) : W pr l e ({ frames := 11, cells := 1200130, slots := 5501080, locals := 402 } : Room) s m args below meth c H locs cells slots Q (F0 m 292 ls []) := by
  have hT0 : T < 2 ^ 20 := hT
  have hT : T < 2 ^ 30 := by omega
  have hnw := hL0.1
  have hn6 := hL0.2.1
  have h8 := hL0.h8
  have hok := hL0.2.2.2.1
  refine lv_iconst (v := 0) hx hb dL_law_292 (by decide) ?_
  refine lv_istore (lv' := [(14, .int 0), (0, .ref t0), (1, .ref (ad 0)), (2, .ref (ad 50)), (3, .int (nI time)), (4, .int xv), (5, .int (nI n)), (6, .ref (ad 80)), (7, .ref (ad 90)), (11, .int (nI T0))]) hx hb dL_law_293 hl (by decide) rfl (fun ls hl => ?_)
  refine lv_iconst (v := 0) hx hb dL_law_295 (by decide) ?_
  refine lv_istore (lv' := [(15, .int 0), (14, .int 0), (0, .ref t0), (1, .ref (ad 0)), (2, .ref (ad 50)), (3, .int (nI time)), (4, .int xv), (5, .int (nI n)), (6, .ref (ad 80)), (7, .ref (ad 90)), (11, .int (nI T0))]) hx hb dL_law_296 hl (by decide) rfl (fun ls hl => ?_)
  refine lv_iconst (v := 0) hx hb dL_law_298 (by decide) ?_
  refine lv_istore (lv' := [(16, .int 0), (15, .int 0), (14, .int 0), (0, .ref t0), (1, .ref (ad 0)), (2, .ref (ad 50)), (3, .int (nI time)), (4, .int xv), (5, .int (nI n)), (6, .ref (ad 80)), (7, .ref (ad 90)), (11, .int (nI T0))]) hx hb dL_law_299 hl (by decide) rfl (fun ls hl => ?_)
  have Kih : ∀ (di i : Nat), 0 ≤ i → i ≤ n → n + 1 ≤ i + di → ∀ (Ea : Nat → va_E), ∀ (H : Heap) (locs : List Loc) (ls : Array Slot), ∀ (cci ssi : Nat), cci ≤ cells + 100 * i → ssi ≤ slots + 600 * i → (x_at cI cB ad Ea w p g nw n T B F) → (s_at cI cJ ad Ea w p g nw n T B F) → (w_at cI cJ ad Ea n B0 G) → fI D (fA z) s.heap ad L Ea H locs → lv_has ls 23 [(16, .int (nI i)), (15, .int (p_psum B i)), (14, .int (p_ones B n i)), (0, .ref t0), (1, .ref (ad 0)), (2, .ref (ad 50)), (3, .int (nI time)), (4, .int xv), (5, .int (nI n)), (6, .ref (ad 80)), (7, .ref (ad 90)), (11, .int (nI T0))] → W pr l e ({ frames := 11, cells := 1200130, slots := 5501080, locals := 402 } : Room) s m args below meth c H locs cci ssi Q (F0 m 301 ls []) := by
    intro di
    induction di with
    | zero => intro i h0 h1 h2; exact absurd h2 (by omega)
    | succ di ih =>
      intro i hi0i hi1i hi2i Ea  H locs ls cci ssi hcih hsih hX hS hW hI hl
      refine lv_iload hx hb dL_law_301 (lv_at hl 0 rfl) ?_
      refine lv_iload hx hb dL_law_303 (lv_at hl 8 rfl) ?_
      refine lv_icmp_ge (tgt := 1017) hx hb dL_law_305 (by decide) (fun c_305 => ?_) (fun c_305 => ?_)
      · have n_305 := i_nlt.mpr c_305
        have hi : n = i := by have := (nI_leI (by omega) (by omega)).mp c_305; omega
        subst hi
        exact kk Ea H locs ls _ _ (by omega) (by omega) hX hS hW hI (lv_sub hl [3, 4, 5, 6, 7, 8, 9, 10, 11, 2, 1] rfl)
      · have n_305 := c_305
        have c_305 := i_nle.mp n_305
        have hi : i < n := (nI_ltI (by omega) (by omega)).mp c_305
        refine law_boat l hx hb hml hts hown hG hl9 hL0 hOld hTT hBB hG0 hT0 hLt hXm hSm hX hS hWm hW hi ht (by omega) (by omega) hI (lv_sub hl [3, 4, 5, 6, 7, 8, 9, 10, 11, 2, 1, 0] rfl) (fun E2 H locs ls c2 s2 hc2 hs2 hX hS hW hI hl => ?_)
        refine lv_iinc (v := (nI (i + 1))) (lv' := [(16, .int (nI (i + 1))), (0, .ref t0), (1, .ref (ad 0)), (2, .ref (ad 50)), (3, .int (nI time)), (4, .int xv), (5, .int (nI n)), (6, .ref (ad 80)), (7, .ref (ad 90)), (11, .int (nI T0)), (14, .int (p_ones B n (i + 1))), (15, .int (p_psum B (i + 1)))]) hx hb dL_law_1011 hl (k := 11) rfl (nI_1 i) (by decide) rfl (fun ls hl => ?_)
        refine lv_goto (tgt := 301) hx hb dL_law_1014 (by decide) ?_
        exact ih (i + 1) (by omega) (by omega) (by omega) E2 H locs ls _ _ (by omega) (by omega) hX hS hW  hI (lv_sub hl [0, 11, 10, 1, 2, 3, 4, 5, 6, 7, 8, 9] rfl)
  exact Kih (n + 1) 0 (by omega) (by omega) (by omega) E H locs ls _ _ (by omega) (by omega) hX hS hW  hI (lv_sub hl [0, 1, 2, 3, 4, 5, 6, 7, 8, 9, 10, 11] rfl)

set_option maxHeartbeats 4000000 in
set_option maxRecDepth 100000 in
theorem law_H (l : Launch) {pr : Program} {e : Env} {s : State} {m : MethodId} {args : Array Value} {below : List Frame} {meth : Method} {c : Code} {Q : State → Prop} (hx : pr.tables.exec = Jvm.exec) (hb : c.code = cL_law) (hml : c.maxLocals = 23) (hts : ∀ w ∈ wsL_law, w.before args s = true) (hown : s.vm.findClass RL = some m.cls) {D : va_G} {cI cJ cB : ClassId} {t0 z : Nat} {tx ad : Nat → Nat} {L : List Nat} (hG : fG D cI cJ cB t0 z tx s) {cells slots : Nat} {E : Nat → va_E} {H : Heap} {locs : List Loc} {ls : Array Slot} (hl9 : l.stackTraces = false) {w p g : Nat → Int32} {nw n T T0 : Nat} {B F B0 : Nat → Nat → Int32} {G : Nat → Int32} (hL0 : okL w p g nw n T B) (hOld : okL w p g nw n T0 B0) (hTT : T = T0 + 1) (hBB : ∀ i, i < n → B i = p_tick w p g nw (nI T0) (F i) (B0 i)) (hG0 : G = fun i => p_arr w p g nw T0 (F i) (B0 i) 0 401) (hT : T < 2 ^ 20) (hXm : ∀ k, k < 5 ∨ (10 ≤ k ∧ k < 24) ∨ (30 ≤ k ∧ k < 44) → k ∈ L) (hSm : ∀ k, (50 ≤ k ∧ k < 55) ∨ (60 ≤ k ∧ k < 60 + n) ∨ (70 ≤ k ∧ k < 70 + n) → k ∈ L) (hX : x_at cI cB ad E w p g nw n T B F) (hS : s_at cI cJ ad E w p g nw n T B F) (hWm : ∀ k, (80 ≤ k ∧ k < 81 + n) ∨ k = 90 → k ∈ L) (hW : w_at cI cJ ad E n B0 G) {time : Nat} {xv : Int32} (ht : time < 70) (hc : cells ≤ 100000) (hs : slots ≤ 500000) (hI : fI D (fA z) s.heap ad L E H locs) (hl : lv_has ls 23 [(0, .ref t0), (1, .ref (ad 0)), (2, .ref (ad 50)), (3, .int (nI time)), (4, .int xv), (5, .int (nI n)), (6, .ref (ad 80)), (7, .ref (ad 90)), (11, .int (nI T0)), (14, .int (p_ones B n n)), (15, .int (p_psum B n))]) (kk : ∀ (E1 : Nat → va_E) (H1 : Heap) (locs1 : List Loc) (ls1 : Array Slot) (c1 s1 : Nat), c1 ≤ cells + 10 → s1 ≤ slots + 60 → x_at cI cB ad E1 w p g nw n T B F → s_at cI cJ ad E1 w p g nw n T B F → w_at cI cJ ad E1 n B0 G → fI D (fA z) s.heap ad L E1 H1 locs1 → lv_has ls1 23 [(0, .ref t0), (1, .ref (ad 0)), (2, .ref (ad 50)), (3, .int (nI time)), (4, .int xv), (5, .int (nI n)), (6, .ref (ad 80)), (7, .ref (ad 90)), (11, .int (nI T0))] → W pr l e ({ frames := 11, cells := 1200130, slots := 5501080, locals := 402 } : Room) s m args below meth c H1 locs1 c1 s1 Q (F0 m 1149 ls1 [])) : W pr l e ({ frames := 11, cells := 1200130, slots := 5501080, locals := 402 } : Room) s m args below meth c H locs cells slots Q (F0 m 1017 ls []) := by
  have hT : T < 2 ^ 30 := by omega
  have hnw := hL0.1
  have hn6 := hL0.2.1
  have h8 := hL0.h8
  have hok := hL0.2.2.2.1
  refine lv_aload_n hx hb dL_law_1017 rfl (lv_at hl 1 rfl) ?_
  refine lv_iconst (v := 5) hx hb dL_law_1018 (by decide) ?_
  refine f_xcalli (vx_runV (As := [.int 5]) (rest := []) ⟨hx, hb, hml, hown, hts⟩ (m_X3_count l hl9 hX hnw hn6 hT h8 hXm 5) (cwV 1 hts gL_law_X3_count rfl rfl rfl (by decide +kernel) ⟨(Nat.le_of_ble_eq_true rfl), (Nat.le_of_ble_eq_true rfl)⟩) (fPre_ofV hG hI rfl (hXm 0 (by omega)) hX.1 rfl rfl) rfl rfl hl.1 rfl (lv_room (Nat.le_of_ble_eq_true rfl)) dL_law_1019 ⟨(by show _ ≤ 1200130; omega), (by show _ ≤ 5501080; omega)⟩) hI (fun En ce q9 H locs hok hI hq1 hq2 hq3 => ?_) (fun r1 E2 H locs hp hI => ?_)
  · exact absurd hok.1 (by rw [(show c_count 5 = 0 by decide)]; decide)
  obtain ⟨-, hr9, hX, hn9⟩ := hp
  have hr9 : r1 = (p_cnt nw n T B 5) := hr9.trans (rfl)
  subst hr9
  have hS := hS.kept hn6 (fun q h1 h2 => hn9 q (by omega))
  have hW := hW.kept hn6 (fun q h1 h2 => hn9 q (by omega))
  refine lv_istore (lv' := [(16, .int (p_cnt nw n T B 5)), (0, .ref t0), (1, .ref (ad 0)), (2, .ref (ad 50)), (3, .int (nI time)), (4, .int xv), (5, .int (nI n)), (6, .ref (ad 80)), (7, .ref (ad 90)), (11, .int (nI T0)), (14, .int (p_ones B n n)), (15, .int (p_psum B n))]) hx hb dL_law_1022 hl (by decide) rfl (fun ls hl => ?_)
  refine lv_aload_n hx hb dL_law_1024 rfl (lv_at hl 2 rfl) ?_
  refine lv_bipush (v := 6) hx hb dL_law_1025 (by decide) ?_
  refine f_xcalli (vx_runV (As := [.int 6]) (rest := []) ⟨hx, hb, hml, hown, hts⟩ (m_X3_count l hl9 hX hnw hn6 hT h8 hXm 6) (cwV 1 hts gL_law_X3_count rfl rfl rfl (by decide +kernel) ⟨(Nat.le_of_ble_eq_true rfl), (Nat.le_of_ble_eq_true rfl)⟩) (fPre_ofV hG hI rfl (hXm 0 (by omega)) hX.1 rfl rfl) rfl rfl hl.1 rfl (lv_room (Nat.le_of_ble_eq_true rfl)) dL_law_1027 ⟨(by show _ ≤ 1200130; omega), (by show _ ≤ 5501080; omega)⟩) hI (fun En ce q9 H locs hok hI hq1 hq2 hq3 => ?_) (fun r3 E4 H locs hp hI => ?_)
  · exact absurd hok.1 (by rw [(show c_count 6 = 0 by decide)]; decide)
  obtain ⟨-, hr9, hX, hn9⟩ := hp
  have hr9 : r3 = (p_cnt nw n T B 6) := hr9.trans (rfl)
  subst hr9
  have hS := hS.kept hn6 (fun q h1 h2 => hn9 q (by omega))
  have hW := hW.kept hn6 (fun q h1 h2 => hn9 q (by omega))
  refine lv_istore (lv' := [(17, .int (p_cnt nw n T B 6)), (16, .int (p_cnt nw n T B 5)), (0, .ref t0), (1, .ref (ad 0)), (2, .ref (ad 50)), (3, .int (nI time)), (4, .int xv), (5, .int (nI n)), (6, .ref (ad 80)), (7, .ref (ad 90)), (11, .int (nI T0)), (14, .int (p_ones B n n)), (15, .int (p_psum B n))]) hx hb dL_law_1030 hl (by decide) rfl (fun ls hl => ?_)
  refine lv_iload hx hb dL_law_1032 (lv_at hl 7 rfl) ?_
  refine lv_if_le (tgt := 1058) hx hb dL_law_1034 (by decide) (fun c_1034 => ?_) (fun c_1034 => ?_)
  · have n_1034 := i_nlt.mpr c_1034
    obtain ⟨ci, hci, ei, hi0, hin⟩ := in_cnt (B := B) (n := n)
    rcases win_spec (B := B) (n := n) (by omega) with ⟨ew, haw⟩ | ⟨qw, hqw, ew, -, hw8, hwm, -⟩
    · have hin0 : p_cnt nw n T B 3 = 0 := by show p_in B n = 0; rw [ei, hi0.mpr haw]; rfl
      have hl : lv_has ls 23 [(17, .int (-1)), (16, .int (p_cnt nw n T B 5)), (0, .ref t0), (1, .ref (ad 0)), (2, .ref (ad 50)), (3, .int (nI time)), (4, .int xv), (5, .int (nI n)), (6, .ref (ad 80)), (7, .ref (ad 90)), (11, .int (nI T0)), (14, .int (p_ones B n n)), (15, .int (p_psum B n))] := by rw [show p_cnt nw n T B 6 = (-1) from ew] at hl; exact hl
      rcases lead_spec (B := B) (n := n) (fun i hi => (hL0.h3 i hi).1) with ⟨ed, -, had9⟩ | ⟨qd, hqd, ed, -, hd8, hdm, -⟩
      · have hinn : p_cnt nw n T B 3 = nI n := by show p_in B n = nI n; rw [ei, hin.mpr had9]
        have hl : lv_has ls 23 [(17, .int (-1)), (16, .int (-1)), (0, .ref t0), (1, .ref (ad 0)), (2, .ref (ad 50)), (3, .int (nI time)), (4, .int xv), (5, .int (nI n)), (6, .ref (ad 80)), (7, .ref (ad 90)), (11, .int (nI T0)), (14, .int (p_ones B n n)), (15, .int (p_psum B n))] := by rw [show p_cnt nw n T B 5 = (-1) from ed] at hl; exact hl
        refine lv_iload hx hb dL_law_1058 (lv_at hl 0 rfl) ?_
        refine lv_if_ge (tgt := 1067) hx hb dL_law_1060 (by decide) (fun c_1060 => ?_) (fun c_1060 => ?_)
        · exact absurd c_1060 (by decide)
        · have n_1060 := c_1060
          have c_1060 := i_nle.mp n_1060
          refine lv_iconst (v := 1) hx hb dL_law_1063 (by decide) ?_
          refine lv_goto (tgt := 1068) hx hb dL_law_1064 (by decide) ?_
          refine lv_aload_n hx hb dL_law_1068 rfl (lv_at hl 3 rfl) ?_
          refine lv_iconst (v := 3) hx hb dL_law_1069 (by decide) ?_
          refine f_xcalli (vx_runV (As := [.int 3]) (rest := [.int 1]) ⟨hx, hb, hml, hown, hts⟩ (m_X3_count l hl9 hX hnw hn6 hT h8 hXm 3) (cwV 1 hts gL_law_X3_count rfl rfl rfl (by decide +kernel) ⟨(Nat.le_of_ble_eq_true rfl), (Nat.le_of_ble_eq_true rfl)⟩) (fPre_ofV hG hI rfl (hXm 0 (by omega)) hX.1 rfl rfl) rfl rfl hl.1 rfl (lv_room (Nat.le_of_ble_eq_true rfl)) dL_law_1070 ⟨(by show _ ≤ 1200130; omega), (by show _ ≤ 5501080; omega)⟩) hI (fun En ce q9 H locs hok hI hq1 hq2 hq3 => ?_) (fun r5 E6 H locs hp hI => ?_)
          · exact absurd hok.1 (by rw [(show c_count 3 = 0 by decide)]; decide)
          obtain ⟨-, hr9, hX, hn9⟩ := hp
          have hr9 : r5 = (p_cnt nw n T B 3) := hr9.trans (rfl)
          subst hr9
          have hS := hS.kept hn6 (fun q h1 h2 => hn9 q (by omega))
          have hW := hW.kept hn6 (fun q h1 h2 => hn9 q (by omega))
          refine lv_if_ne (tgt := 1080) hx hb dL_law_1073 (by decide) (fun c_1073 => ?_) (fun c_1073 => ?_)
          · exact absurd hin0 c_1073
          · refine lv_iconst (v := 1) hx hb dL_law_1076 (by decide) ?_
            refine lv_goto (tgt := 1081) hx hb dL_law_1077 (by decide) ?_
            refine lv_icmp_ne (tgt := 1147) hx hb dL_law_1081 (by decide) (fun c_1081 => ?_) (fun c_1081 => ?_)
            · exact absurd c_1081 (by decide)
            · refine lv_iload hx hb dL_law_1084 (lv_at hl 1 rfl) ?_
              refine lv_if_ge (tgt := 1093) hx hb dL_law_1086 (by decide) (fun c_1086 => ?_) (fun c_1086 => ?_)
              · exact absurd c_1086 (by decide)
              · have n_1086 := c_1086
                have c_1086 := i_nle.mp n_1086
                refine lv_iconst (v := 1) hx hb dL_law_1089 (by decide) ?_
                refine lv_goto (tgt := 1094) hx hb dL_law_1090 (by decide) ?_
                refine lv_aload_n hx hb dL_law_1094 rfl (lv_at hl 3 rfl) ?_
                refine lv_iconst (v := 3) hx hb dL_law_1095 (by decide) ?_
                refine f_xcalli (vx_runV (As := [.int 3]) (rest := [.int 1]) ⟨hx, hb, hml, hown, hts⟩ (m_X3_count l hl9 hX hnw hn6 hT h8 hXm 3) (cwV 1 hts gL_law_X3_count rfl rfl rfl (by decide +kernel) ⟨(Nat.le_of_ble_eq_true rfl), (Nat.le_of_ble_eq_true rfl)⟩) (fPre_ofV hG hI rfl (hXm 0 (by omega)) hX.1 rfl rfl) rfl rfl hl.1 rfl (lv_room (Nat.le_of_ble_eq_true rfl)) dL_law_1096 ⟨(by show _ ≤ 1200130; omega), (by show _ ≤ 5501080; omega)⟩) hI (fun En ce q9 H locs hok hI hq1 hq2 hq3 => ?_) (fun r7 E8 H locs hp hI => ?_)
                · exact absurd hok.1 (by rw [(show c_count 3 = 0 by decide)]; decide)
                obtain ⟨-, hr9, hX, hn9⟩ := hp
                have hr9 : r7 = (p_cnt nw n T B 3) := hr9.trans (rfl)
                subst hr9
                have hS := hS.kept hn6 (fun q h1 h2 => hn9 q (by omega))
                have hW := hW.kept hn6 (fun q h1 h2 => hn9 q (by omega))
                refine lv_iload hx hb dL_law_1099 (lv_at hl 7 rfl) ?_
                refine lv_icmp_ne (tgt := 1108) hx hb dL_law_1101 (by decide) (fun c_1101 => ?_) (fun c_1101 => ?_)
                · exact absurd hinn c_1101
                · refine lv_iconst (v := 1) hx hb dL_law_1104 (by decide) ?_
                  refine lv_goto (tgt := 1109) hx hb dL_law_1105 (by decide) ?_
                  refine lv_icmp_ne (tgt := 1147) hx hb dL_law_1109 (by decide) (fun c_1109 => ?_) (fun c_1109 => ?_)
                  · exact absurd c_1109 (by decide)
                  · refine lv_iload hx hb dL_law_1112 (lv_at hl 0 rfl) ?_
                    refine lv_if_lt (tgt := 1127) hx hb dL_law_1114 (by decide) (fun c_1114 => ?_) (fun c_1114 => ?_)
                    · have n_1114 := i_nle.mpr c_1114
                      refine lv_iload hx hb dL_law_1127 (lv_at hl 0 rfl) ?_
                      refine lv_if_ge (tgt := 1149) hx hb dL_law_1129 (by decide) (fun c_1129 => ?_) (fun c_1129 => ?_)
                      · exact absurd c_1129 (by decide)
                      · have n_1129 := c_1129
                        have c_1129 := i_nle.mp n_1129
                        refine lv_iload hx hb dL_law_1132 (lv_at hl 1 rfl) ?_
                        refine lv_if_lt (tgt := 1149) hx hb dL_law_1134 (by decide) (fun c_1134 => ?_) (fun c_1134 => ?_)
                        · have n_1134 := i_nle.mpr c_1134
                          exact kk E8 H locs ls _ _ (by omega) (by omega) hX hS hW hI (lv_sub hl [2, 3, 4, 5, 6, 7, 8, 9, 10] rfl)
                        · exact absurd c_1134 (by decide)
                    · exact absurd c_1114 (by decide)
      · have hinm : ¬ p_cnt nw n T B 3 = nI n := fun zq => hin.mp ((nI_eq (by omega) (by omega)).mp (ei.symm.trans zq)) qd hqd hd8
        have hl : lv_has ls 23 [(17, .int (-1)), (16, .int (nI qd)), (0, .ref t0), (1, .ref (ad 0)), (2, .ref (ad 50)), (3, .int (nI time)), (4, .int xv), (5, .int (nI n)), (6, .ref (ad 80)), (7, .ref (ad 90)), (11, .int (nI T0)), (14, .int (p_ones B n n)), (15, .int (p_psum B n))] := by rw [show p_cnt nw n T B 5 = (nI qd) from ed] at hl; exact hl
        refine lv_iload hx hb dL_law_1058 (lv_at hl 0 rfl) ?_
        refine lv_if_ge (tgt := 1067) hx hb dL_law_1060 (by decide) (fun c_1060 => ?_) (fun c_1060 => ?_)
        · exact absurd c_1060 (by decide)
        · have n_1060 := c_1060
          have c_1060 := i_nle.mp n_1060
          refine lv_iconst (v := 1) hx hb dL_law_1063 (by decide) ?_
          refine lv_goto (tgt := 1068) hx hb dL_law_1064 (by decide) ?_
          refine lv_aload_n hx hb dL_law_1068 rfl (lv_at hl 3 rfl) ?_
          refine lv_iconst (v := 3) hx hb dL_law_1069 (by decide) ?_
          refine f_xcalli (vx_runV (As := [.int 3]) (rest := [.int 1]) ⟨hx, hb, hml, hown, hts⟩ (m_X3_count l hl9 hX hnw hn6 hT h8 hXm 3) (cwV 1 hts gL_law_X3_count rfl rfl rfl (by decide +kernel) ⟨(Nat.le_of_ble_eq_true rfl), (Nat.le_of_ble_eq_true rfl)⟩) (fPre_ofV hG hI rfl (hXm 0 (by omega)) hX.1 rfl rfl) rfl rfl hl.1 rfl (lv_room (Nat.le_of_ble_eq_true rfl)) dL_law_1070 ⟨(by show _ ≤ 1200130; omega), (by show _ ≤ 5501080; omega)⟩) hI (fun En ce q9 H locs hok hI hq1 hq2 hq3 => ?_) (fun r9 E10 H locs hp hI => ?_)
          · exact absurd hok.1 (by rw [(show c_count 3 = 0 by decide)]; decide)
          obtain ⟨-, hr9, hX, hn9⟩ := hp
          have hr9 : r9 = (p_cnt nw n T B 3) := hr9.trans (rfl)
          subst hr9
          have hS := hS.kept hn6 (fun q h1 h2 => hn9 q (by omega))
          have hW := hW.kept hn6 (fun q h1 h2 => hn9 q (by omega))
          refine lv_if_ne (tgt := 1080) hx hb dL_law_1073 (by decide) (fun c_1073 => ?_) (fun c_1073 => ?_)
          · exact absurd hin0 c_1073
          · refine lv_iconst (v := 1) hx hb dL_law_1076 (by decide) ?_
            refine lv_goto (tgt := 1081) hx hb dL_law_1077 (by decide) ?_
            refine lv_icmp_ne (tgt := 1147) hx hb dL_law_1081 (by decide) (fun c_1081 => ?_) (fun c_1081 => ?_)
            · exact absurd c_1081 (by decide)
            · refine lv_iload hx hb dL_law_1084 (lv_at hl 1 rfl) ?_
              refine lv_if_ge (tgt := 1093) hx hb dL_law_1086 (by decide) (fun c_1086 => ?_) (fun c_1086 => ?_)
              · have n_1086 := i_nlt.mpr c_1086
                refine lv_iconst (v := 0) hx hb dL_law_1093 (by decide) ?_
                refine lv_aload_n hx hb dL_law_1094 rfl (lv_at hl 3 rfl) ?_
                refine lv_iconst (v := 3) hx hb dL_law_1095 (by decide) ?_
                refine f_xcalli (vx_runV (As := [.int 3]) (rest := [.int 0]) ⟨hx, hb, hml, hown, hts⟩ (m_X3_count l hl9 hX hnw hn6 hT h8 hXm 3) (cwV 1 hts gL_law_X3_count rfl rfl rfl (by decide +kernel) ⟨(Nat.le_of_ble_eq_true rfl), (Nat.le_of_ble_eq_true rfl)⟩) (fPre_ofV hG hI rfl (hXm 0 (by omega)) hX.1 rfl rfl) rfl rfl hl.1 rfl (lv_room (Nat.le_of_ble_eq_true rfl)) dL_law_1096 ⟨(by show _ ≤ 1200130; omega), (by show _ ≤ 5501080; omega)⟩) hI (fun En ce q9 H locs hok hI hq1 hq2 hq3 => ?_) (fun r11 E12 H locs hp hI => ?_)
                · exact absurd hok.1 (by rw [(show c_count 3 = 0 by decide)]; decide)
                obtain ⟨-, hr9, hX, hn9⟩ := hp
                have hr9 : r11 = (p_cnt nw n T B 3) := hr9.trans (rfl)
                subst hr9
                have hS := hS.kept hn6 (fun q h1 h2 => hn9 q (by omega))
                have hW := hW.kept hn6 (fun q h1 h2 => hn9 q (by omega))
                refine lv_iload hx hb dL_law_1099 (lv_at hl 7 rfl) ?_
                refine lv_icmp_ne (tgt := 1108) hx hb dL_law_1101 (by decide) (fun c_1101 => ?_) (fun c_1101 => ?_)
                · refine lv_iconst (v := 0) hx hb dL_law_1108 (by decide) ?_
                  refine lv_icmp_ne (tgt := 1147) hx hb dL_law_1109 (by decide) (fun c_1109 => ?_) (fun c_1109 => ?_)
                  · exact absurd c_1109 (by decide)
                  · refine lv_iload hx hb dL_law_1112 (lv_at hl 0 rfl) ?_
                    refine lv_if_lt (tgt := 1127) hx hb dL_law_1114 (by decide) (fun c_1114 => ?_) (fun c_1114 => ?_)
                    · have n_1114 := i_nle.mpr c_1114
                      refine lv_iload hx hb dL_law_1127 (lv_at hl 0 rfl) ?_
                      refine lv_if_ge (tgt := 1149) hx hb dL_law_1129 (by decide) (fun c_1129 => ?_) (fun c_1129 => ?_)
                      · exact absurd c_1129 (by decide)
                      · have n_1129 := c_1129
                        have c_1129 := i_nle.mp n_1129
                        refine lv_iload hx hb dL_law_1132 (lv_at hl 1 rfl) ?_
                        refine lv_if_lt (tgt := 1149) hx hb dL_law_1134 (by decide) (fun c_1134 => ?_) (fun c_1134 => ?_)
                        · exact absurd c_1134 (nI_pos (by omega))
                        · have n_1134 := c_1134
                          have c_1134 := i_nlt.mp n_1134
                          refine lv_aload_n hx hb dL_law_1137 rfl (lv_at hl 3 rfl) ?_
                          refine lv_iload hx hb dL_law_1138 (lv_at hl 1 rfl) ?_
                          refine f_xcalli (vx_runV (As := [.int (nI qd)]) (rest := []) ⟨hx, hb, hml, hown, hts⟩ (m_X3_rank l hl9 hX hnw hn6 hT h8 hXm (nI qd)) (cwV 1 hts gL_law_X3_rank rfl rfl rfl (by decide +kernel) ⟨(Nat.le_of_ble_eq_true rfl), (Nat.le_of_ble_eq_true rfl)⟩) (fPre_ofV hG hI rfl (hXm 0 (by omega)) hX.1 rfl rfl) rfl rfl hl.1 rfl (lv_room (Nat.le_of_ble_eq_true rfl)) dL_law_1140 ⟨(by show _ ≤ 1200130; omega), (by show _ ≤ 5501080; omega)⟩) hI (fun En ce q9 H locs hok hI hq1 hq2 hq3 => ?_) (fun r13 E14 H locs hp hI => ?_)
                          · exact absurd hok.1 (by rw [crank_0 (n := n) (b := qd) (by omega) hn6]; decide)
                          obtain ⟨-, hr9, hX, hn9⟩ := hp
                          have hr9 : r13 = (1 + p_rk B (B qd) n) := hr9.trans (by rw [show (nI qd).toNatClampNeg = qd from nI_clamp (by omega)])
                          subst hr9
                          have hS := hS.kept hn6 (fun q h1 h2 => hn9 q (by omega))
                          have hW := hW.kept hn6 (fun q h1 h2 => hn9 q (by omega))
                          refine lv_iconst (v := 1) hx hb dL_law_1143 (by decide) ?_
                          refine lv_icmp_eq (tgt := 1149) hx hb dL_law_1144 (by decide) (fun c_1144 => ?_) (fun c_1144 => ?_)
                          · exact kk E14 H locs ls _ _ (by omega) (by omega) hX hS hW hI (lv_sub hl [2, 3, 4, 5, 6, 7, 8, 9, 10] rfl)
                          · exact absurd (rk_q (rk_lead haw hdm)) c_1144
                    · exact absurd c_1114 (by decide)
                · exact absurd c_1101 hinm
              · exact absurd (nI_pos' (by omega)) c_1086
    · have hin1 : ¬ p_cnt nw n T B 3 = 0 := fun zq => hw8 (hi0.mp ((nI_eq (by omega) (by omega) (b := 0)).mp (ei.symm.trans zq)) qw hqw)
      have hl : lv_has ls 23 [(17, .int (nI qw)), (16, .int (p_cnt nw n T B 5)), (0, .ref t0), (1, .ref (ad 0)), (2, .ref (ad 50)), (3, .int (nI time)), (4, .int xv), (5, .int (nI n)), (6, .ref (ad 80)), (7, .ref (ad 90)), (11, .int (nI T0)), (14, .int (p_ones B n n)), (15, .int (p_psum B n))] := by rw [show p_cnt nw n T B 6 = (nI qw) from ew] at hl; exact hl
      rcases lead_spec (B := B) (n := n) (fun i hi => (hL0.h3 i hi).1) with ⟨ed, -, had9⟩ | ⟨qd, hqd, ed, -, hd8, hdm, -⟩
      · have hinn : p_cnt nw n T B 3 = nI n := by show p_in B n = nI n; rw [ei, hin.mpr had9]
        have hl : lv_has ls 23 [(17, .int (nI qw)), (16, .int (-1)), (0, .ref t0), (1, .ref (ad 0)), (2, .ref (ad 50)), (3, .int (nI time)), (4, .int xv), (5, .int (nI n)), (6, .ref (ad 80)), (7, .ref (ad 90)), (11, .int (nI T0)), (14, .int (p_ones B n n)), (15, .int (p_psum B n))] := by rw [show p_cnt nw n T B 5 = (-1) from ed] at hl; exact hl
        refine lv_iload hx hb dL_law_1058 (lv_at hl 0 rfl) ?_
        refine lv_if_ge (tgt := 1067) hx hb dL_law_1060 (by decide) (fun c_1060 => ?_) (fun c_1060 => ?_)
        · have n_1060 := i_nlt.mpr c_1060
          refine lv_iconst (v := 0) hx hb dL_law_1067 (by decide) ?_
          refine lv_aload_n hx hb dL_law_1068 rfl (lv_at hl 3 rfl) ?_
          refine lv_iconst (v := 3) hx hb dL_law_1069 (by decide) ?_
          refine f_xcalli (vx_runV (As := [.int 3]) (rest := [.int 0]) ⟨hx, hb, hml, hown, hts⟩ (m_X3_count l hl9 hX hnw hn6 hT h8 hXm 3) (cwV 1 hts gL_law_X3_count rfl rfl rfl (by decide +kernel) ⟨(Nat.le_of_ble_eq_true rfl), (Nat.le_of_ble_eq_true rfl)⟩) (fPre_ofV hG hI rfl (hXm 0 (by omega)) hX.1 rfl rfl) rfl rfl hl.1 rfl (lv_room (Nat.le_of_ble_eq_true rfl)) dL_law_1070 ⟨(by show _ ≤ 1200130; omega), (by show _ ≤ 5501080; omega)⟩) hI (fun En ce q9 H locs hok hI hq1 hq2 hq3 => ?_) (fun r15 E16 H locs hp hI => ?_)
          · exact absurd hok.1 (by rw [(show c_count 3 = 0 by decide)]; decide)
          obtain ⟨-, hr9, hX, hn9⟩ := hp
          have hr9 : r15 = (p_cnt nw n T B 3) := hr9.trans (rfl)
          subst hr9
          have hS := hS.kept hn6 (fun q h1 h2 => hn9 q (by omega))
          have hW := hW.kept hn6 (fun q h1 h2 => hn9 q (by omega))
          refine lv_if_ne (tgt := 1080) hx hb dL_law_1073 (by decide) (fun c_1073 => ?_) (fun c_1073 => ?_)
          · refine lv_iconst (v := 0) hx hb dL_law_1080 (by decide) ?_
            refine lv_icmp_ne (tgt := 1147) hx hb dL_law_1081 (by decide) (fun c_1081 => ?_) (fun c_1081 => ?_)
            · exact absurd c_1081 (by decide)
            · refine lv_iload hx hb dL_law_1084 (lv_at hl 1 rfl) ?_
              refine lv_if_ge (tgt := 1093) hx hb dL_law_1086 (by decide) (fun c_1086 => ?_) (fun c_1086 => ?_)
              · exact absurd c_1086 (by decide)
              · have n_1086 := c_1086
                have c_1086 := i_nle.mp n_1086
                refine lv_iconst (v := 1) hx hb dL_law_1089 (by decide) ?_
                refine lv_goto (tgt := 1094) hx hb dL_law_1090 (by decide) ?_
                refine lv_aload_n hx hb dL_law_1094 rfl (lv_at hl 3 rfl) ?_
                refine lv_iconst (v := 3) hx hb dL_law_1095 (by decide) ?_
                refine f_xcalli (vx_runV (As := [.int 3]) (rest := [.int 1]) ⟨hx, hb, hml, hown, hts⟩ (m_X3_count l hl9 hX hnw hn6 hT h8 hXm 3) (cwV 1 hts gL_law_X3_count rfl rfl rfl (by decide +kernel) ⟨(Nat.le_of_ble_eq_true rfl), (Nat.le_of_ble_eq_true rfl)⟩) (fPre_ofV hG hI rfl (hXm 0 (by omega)) hX.1 rfl rfl) rfl rfl hl.1 rfl (lv_room (Nat.le_of_ble_eq_true rfl)) dL_law_1096 ⟨(by show _ ≤ 1200130; omega), (by show _ ≤ 5501080; omega)⟩) hI (fun En ce q9 H locs hok hI hq1 hq2 hq3 => ?_) (fun r17 E18 H locs hp hI => ?_)
                · exact absurd hok.1 (by rw [(show c_count 3 = 0 by decide)]; decide)
                obtain ⟨-, hr9, hX, hn9⟩ := hp
                have hr9 : r17 = (p_cnt nw n T B 3) := hr9.trans (rfl)
                subst hr9
                have hS := hS.kept hn6 (fun q h1 h2 => hn9 q (by omega))
                have hW := hW.kept hn6 (fun q h1 h2 => hn9 q (by omega))
                refine lv_iload hx hb dL_law_1099 (lv_at hl 7 rfl) ?_
                refine lv_icmp_ne (tgt := 1108) hx hb dL_law_1101 (by decide) (fun c_1101 => ?_) (fun c_1101 => ?_)
                · exact absurd hinn c_1101
                · refine lv_iconst (v := 1) hx hb dL_law_1104 (by decide) ?_
                  refine lv_goto (tgt := 1109) hx hb dL_law_1105 (by decide) ?_
                  refine lv_icmp_ne (tgt := 1147) hx hb dL_law_1109 (by decide) (fun c_1109 => ?_) (fun c_1109 => ?_)
                  · exact absurd c_1109 (by decide)
                  · refine lv_iload hx hb dL_law_1112 (lv_at hl 0 rfl) ?_
                    refine lv_if_lt (tgt := 1127) hx hb dL_law_1114 (by decide) (fun c_1114 => ?_) (fun c_1114 => ?_)
                    · exact absurd c_1114 (nI_pos (by omega))
                    · have n_1114 := c_1114
                      have c_1114 := i_nlt.mp n_1114
                      refine lv_aload_n hx hb dL_law_1117 rfl (lv_at hl 3 rfl) ?_
                      refine lv_iload hx hb dL_law_1118 (lv_at hl 0 rfl) ?_
                      refine f_xcalli (vx_runV (As := [.int (nI qw)]) (rest := []) ⟨hx, hb, hml, hown, hts⟩ (m_X3_rank l hl9 hX hnw hn6 hT h8 hXm (nI qw)) (cwV 1 hts gL_law_X3_rank rfl rfl rfl (by decide +kernel) ⟨(Nat.le_of_ble_eq_true rfl), (Nat.le_of_ble_eq_true rfl)⟩) (fPre_ofV hG hI rfl (hXm 0 (by omega)) hX.1 rfl rfl) rfl rfl hl.1 rfl (lv_room (Nat.le_of_ble_eq_true rfl)) dL_law_1120 ⟨(by show _ ≤ 1200130; omega), (by show _ ≤ 5501080; omega)⟩) hI (fun En ce q9 H locs hok hI hq1 hq2 hq3 => ?_) (fun r19 E20 H locs hp hI => ?_)
                      · exact absurd hok.1 (by rw [crank_0 (n := n) (b := qw) (by omega) hn6]; decide)
                      obtain ⟨-, hr9, hX, hn9⟩ := hp
                      have hr9 : r19 = (1 + p_rk B (B qw) n) := hr9.trans (by rw [show (nI qw).toNatClampNeg = qw from nI_clamp (by omega)])
                      subst hr9
                      have hS := hS.kept hn6 (fun q h1 h2 => hn9 q (by omega))
                      have hW := hW.kept hn6 (fun q h1 h2 => hn9 q (by omega))
                      refine lv_iconst (v := 1) hx hb dL_law_1123 (by decide) ?_
                      refine lv_icmp_ne (tgt := 1147) hx hb dL_law_1124 (by decide) (fun c_1124 => ?_) (fun c_1124 => ?_)
                      · exact absurd (rk_q (rk_win hw8 hwm)) c_1124
                      · refine lv_iload hx hb dL_law_1127 (lv_at hl 0 rfl) ?_
                        refine lv_if_ge (tgt := 1149) hx hb dL_law_1129 (by decide) (fun c_1129 => ?_) (fun c_1129 => ?_)
                        · have n_1129 := i_nlt.mpr c_1129
                          exact kk E20 H locs ls _ _ (by omega) (by omega) hX hS hW hI (lv_sub hl [2, 3, 4, 5, 6, 7, 8, 9, 10] rfl)
                        · exact absurd (nI_pos' (by omega)) c_1129
          · exact absurd c_1073 hin1
        · exact absurd (nI_pos' (by omega)) c_1060
      · have hinm : ¬ p_cnt nw n T B 3 = nI n := fun zq => hin.mp ((nI_eq (by omega) (by omega)).mp (ei.symm.trans zq)) qd hqd hd8
        have hl : lv_has ls 23 [(17, .int (nI qw)), (16, .int (nI qd)), (0, .ref t0), (1, .ref (ad 0)), (2, .ref (ad 50)), (3, .int (nI time)), (4, .int xv), (5, .int (nI n)), (6, .ref (ad 80)), (7, .ref (ad 90)), (11, .int (nI T0)), (14, .int (p_ones B n n)), (15, .int (p_psum B n))] := by rw [show p_cnt nw n T B 5 = (nI qd) from ed] at hl; exact hl
        refine lv_iload hx hb dL_law_1058 (lv_at hl 0 rfl) ?_
        refine lv_if_ge (tgt := 1067) hx hb dL_law_1060 (by decide) (fun c_1060 => ?_) (fun c_1060 => ?_)
        · have n_1060 := i_nlt.mpr c_1060
          refine lv_iconst (v := 0) hx hb dL_law_1067 (by decide) ?_
          refine lv_aload_n hx hb dL_law_1068 rfl (lv_at hl 3 rfl) ?_
          refine lv_iconst (v := 3) hx hb dL_law_1069 (by decide) ?_
          refine f_xcalli (vx_runV (As := [.int 3]) (rest := [.int 0]) ⟨hx, hb, hml, hown, hts⟩ (m_X3_count l hl9 hX hnw hn6 hT h8 hXm 3) (cwV 1 hts gL_law_X3_count rfl rfl rfl (by decide +kernel) ⟨(Nat.le_of_ble_eq_true rfl), (Nat.le_of_ble_eq_true rfl)⟩) (fPre_ofV hG hI rfl (hXm 0 (by omega)) hX.1 rfl rfl) rfl rfl hl.1 rfl (lv_room (Nat.le_of_ble_eq_true rfl)) dL_law_1070 ⟨(by show _ ≤ 1200130; omega), (by show _ ≤ 5501080; omega)⟩) hI (fun En ce q9 H locs hok hI hq1 hq2 hq3 => ?_) (fun r21 E22 H locs hp hI => ?_)
          · exact absurd hok.1 (by rw [(show c_count 3 = 0 by decide)]; decide)
          obtain ⟨-, hr9, hX, hn9⟩ := hp
          have hr9 : r21 = (p_cnt nw n T B 3) := hr9.trans (rfl)
          subst hr9
          have hS := hS.kept hn6 (fun q h1 h2 => hn9 q (by omega))
          have hW := hW.kept hn6 (fun q h1 h2 => hn9 q (by omega))
          refine lv_if_ne (tgt := 1080) hx hb dL_law_1073 (by decide) (fun c_1073 => ?_) (fun c_1073 => ?_)
          · refine lv_iconst (v := 0) hx hb dL_law_1080 (by decide) ?_
            refine lv_icmp_ne (tgt := 1147) hx hb dL_law_1081 (by decide) (fun c_1081 => ?_) (fun c_1081 => ?_)
            · exact absurd c_1081 (by decide)
            · refine lv_iload hx hb dL_law_1084 (lv_at hl 1 rfl) ?_
              refine lv_if_ge (tgt := 1093) hx hb dL_law_1086 (by decide) (fun c_1086 => ?_) (fun c_1086 => ?_)
              · have n_1086 := i_nlt.mpr c_1086
                refine lv_iconst (v := 0) hx hb dL_law_1093 (by decide) ?_
                refine lv_aload_n hx hb dL_law_1094 rfl (lv_at hl 3 rfl) ?_
                refine lv_iconst (v := 3) hx hb dL_law_1095 (by decide) ?_
                refine f_xcalli (vx_runV (As := [.int 3]) (rest := [.int 0]) ⟨hx, hb, hml, hown, hts⟩ (m_X3_count l hl9 hX hnw hn6 hT h8 hXm 3) (cwV 1 hts gL_law_X3_count rfl rfl rfl (by decide +kernel) ⟨(Nat.le_of_ble_eq_true rfl), (Nat.le_of_ble_eq_true rfl)⟩) (fPre_ofV hG hI rfl (hXm 0 (by omega)) hX.1 rfl rfl) rfl rfl hl.1 rfl (lv_room (Nat.le_of_ble_eq_true rfl)) dL_law_1096 ⟨(by show _ ≤ 1200130; omega), (by show _ ≤ 5501080; omega)⟩) hI (fun En ce q9 H locs hok hI hq1 hq2 hq3 => ?_) (fun r23 E24 H locs hp hI => ?_)
                · exact absurd hok.1 (by rw [(show c_count 3 = 0 by decide)]; decide)
                obtain ⟨-, hr9, hX, hn9⟩ := hp
                have hr9 : r23 = (p_cnt nw n T B 3) := hr9.trans (rfl)
                subst hr9
                have hS := hS.kept hn6 (fun q h1 h2 => hn9 q (by omega))
                have hW := hW.kept hn6 (fun q h1 h2 => hn9 q (by omega))
                refine lv_iload hx hb dL_law_1099 (lv_at hl 7 rfl) ?_
                refine lv_icmp_ne (tgt := 1108) hx hb dL_law_1101 (by decide) (fun c_1101 => ?_) (fun c_1101 => ?_)
                · refine lv_iconst (v := 0) hx hb dL_law_1108 (by decide) ?_
                  refine lv_icmp_ne (tgt := 1147) hx hb dL_law_1109 (by decide) (fun c_1109 => ?_) (fun c_1109 => ?_)
                  · exact absurd c_1109 (by decide)
                  · refine lv_iload hx hb dL_law_1112 (lv_at hl 0 rfl) ?_
                    refine lv_if_lt (tgt := 1127) hx hb dL_law_1114 (by decide) (fun c_1114 => ?_) (fun c_1114 => ?_)
                    · exact absurd c_1114 (nI_pos (by omega))
                    · have n_1114 := c_1114
                      have c_1114 := i_nlt.mp n_1114
                      refine lv_aload_n hx hb dL_law_1117 rfl (lv_at hl 3 rfl) ?_
                      refine lv_iload hx hb dL_law_1118 (lv_at hl 0 rfl) ?_
                      refine f_xcalli (vx_runV (As := [.int (nI qw)]) (rest := []) ⟨hx, hb, hml, hown, hts⟩ (m_X3_rank l hl9 hX hnw hn6 hT h8 hXm (nI qw)) (cwV 1 hts gL_law_X3_rank rfl rfl rfl (by decide +kernel) ⟨(Nat.le_of_ble_eq_true rfl), (Nat.le_of_ble_eq_true rfl)⟩) (fPre_ofV hG hI rfl (hXm 0 (by omega)) hX.1 rfl rfl) rfl rfl hl.1 rfl (lv_room (Nat.le_of_ble_eq_true rfl)) dL_law_1120 ⟨(by show _ ≤ 1200130; omega), (by show _ ≤ 5501080; omega)⟩) hI (fun En ce q9 H locs hok hI hq1 hq2 hq3 => ?_) (fun r25 E26 H locs hp hI => ?_)
                      · exact absurd hok.1 (by rw [crank_0 (n := n) (b := qw) (by omega) hn6]; decide)
                      obtain ⟨-, hr9, hX, hn9⟩ := hp
                      have hr9 : r25 = (1 + p_rk B (B qw) n) := hr9.trans (by rw [show (nI qw).toNatClampNeg = qw from nI_clamp (by omega)])
                      subst hr9
                      have hS := hS.kept hn6 (fun q h1 h2 => hn9 q (by omega))
                      have hW := hW.kept hn6 (fun q h1 h2 => hn9 q (by omega))
                      refine lv_iconst (v := 1) hx hb dL_law_1123 (by decide) ?_
                      refine lv_icmp_ne (tgt := 1147) hx hb dL_law_1124 (by decide) (fun c_1124 => ?_) (fun c_1124 => ?_)
                      · exact absurd (rk_q (rk_win hw8 hwm)) c_1124
                      · refine lv_iload hx hb dL_law_1127 (lv_at hl 0 rfl) ?_
                        refine lv_if_ge (tgt := 1149) hx hb dL_law_1129 (by decide) (fun c_1129 => ?_) (fun c_1129 => ?_)
                        · have n_1129 := i_nlt.mpr c_1129
                          exact kk E26 H locs ls _ _ (by omega) (by omega) hX hS hW hI (lv_sub hl [2, 3, 4, 5, 6, 7, 8, 9, 10] rfl)
                        · exact absurd (nI_pos' (by omega)) c_1129
                · exact absurd c_1101 hinm
              · exact absurd (nI_pos' (by omega)) c_1086
          · exact absurd c_1073 hin1
        · exact absurd (nI_pos' (by omega)) c_1060
  · have n_1034 := c_1034
    have c_1034 := i_nle.mp n_1034
    have hn0 : 0 < n := (nI_ltI (by omega) (by omega) (a := 0)).mp c_1034
    obtain ⟨cq, hcq, eq9, hpos⟩ := ones_cnt (B := B) (n := n) (k := n)
    have hcq0 := hpos (rk_one hn0 (by omega) (fun i hi => (hL0.h3 i hi).1))
    have ho : ¬ p_ones B n n < 1 := fun zq => absurd ((nI_ltI (by omega) (by omega) (a := cq) (b := 1)).mp (by rw [eq9] at zq; exact zq)) (by omega)
    refine lv_iload hx hb dL_law_1037 (lv_at hl 11 rfl) ?_
    refine lv_iconst (v := 1) hx hb dL_law_1039 (by decide) ?_
    refine lv_icmp_lt (tgt := 1147) hx hb dL_law_1040 (by decide) (fun c_1040 => ?_) (fun c_1040 => ?_)
    · exact absurd c_1040 (ho)
    · have n_1040 := c_1040
      have c_1040 := i_nlt.mp n_1040
      refine lv_aload_n hx hb dL_law_1043 rfl (lv_at hl 3 rfl) ?_
      refine f_calld1 (va_runV (As := []) (rest := []) ⟨hx, hb, hml, hown, hts⟩ (m_X3_mean l hX hnw hn6 hT h8 hXm (mean_ok hn6 hL0.h3)) (cwV 0 hts gL_law_X3_mean rfl rfl rfl (by decide +kernel) ⟨(Nat.le_of_ble_eq_true rfl), (Nat.le_of_ble_eq_true rfl)⟩) (fPre_ofV hG hI rfl (hXm 0 (by omega)) hX.1 rfl rfl) rfl rfl hl.1 rfl (lv_room (Nat.le_of_ble_eq_true rfl)) dL_law_1044 ⟨(by show _ ≤ 1200130; omega), (by show _ ≤ 5501080; omega)⟩) hI (fun r27 E28 H locs hp hI => ?_)
      obtain ⟨he, hq9⟩ := hp
      rw [hq9] at hI
      have he : r27 = p_mean n B := he
      subst he
      refine lv_iload hx hb dL_law_1047 (lv_at hl 12 rfl) ?_
      refine lv_i2d hx hb dL_law_1049 ?_
      refine lv_iload hx hb dL_law_1050 (lv_at hl 7 rfl) ?_
      refine lv_i2d hx hb dL_law_1052 ?_
      refine lv_ddiv hx hb dL_law_1053 (mean_ok hn6 hL0.h3 (fun zq => absurd ((nI_ltI (by omega) (by omega) (b := 1)).mp zq) (by omega))) ?_
      refine lv_dcmp hx hb dL_law_1054 ?_
      refine lv_if_ne (tgt := 1147) hx hb dL_law_1055 (by decide) (fun c_1055 => ?_) (fun c_1055 => ?_)
      · exact absurd (mean_cmp hn6 (by omega) hL0.h3) c_1055
      · obtain ⟨ci, hci, ei, hi0, hin⟩ := in_cnt (B := B) (n := n)
        rcases win_spec (B := B) (n := n) (by omega) with ⟨ew, haw⟩ | ⟨qw, hqw, ew, -, hw8, hwm, -⟩
        · have hin0 : p_cnt nw n T B 3 = 0 := by show p_in B n = 0; rw [ei, hi0.mpr haw]; rfl
          have hl : lv_has ls 23 [(17, .int (-1)), (16, .int (p_cnt nw n T B 5)), (0, .ref t0), (1, .ref (ad 0)), (2, .ref (ad 50)), (3, .int (nI time)), (4, .int xv), (5, .int (nI n)), (6, .ref (ad 80)), (7, .ref (ad 90)), (11, .int (nI T0)), (14, .int (p_ones B n n)), (15, .int (p_psum B n))] := by rw [show p_cnt nw n T B 6 = (-1) from ew] at hl; exact hl
          rcases lead_spec (B := B) (n := n) (fun i hi => (hL0.h3 i hi).1) with ⟨ed, -, had9⟩ | ⟨qd, hqd, ed, -, hd8, hdm, -⟩
          · have hinn : p_cnt nw n T B 3 = nI n := by show p_in B n = nI n; rw [ei, hin.mpr had9]
            have hl : lv_has ls 23 [(17, .int (-1)), (16, .int (-1)), (0, .ref t0), (1, .ref (ad 0)), (2, .ref (ad 50)), (3, .int (nI time)), (4, .int xv), (5, .int (nI n)), (6, .ref (ad 80)), (7, .ref (ad 90)), (11, .int (nI T0)), (14, .int (p_ones B n n)), (15, .int (p_psum B n))] := by rw [show p_cnt nw n T B 5 = (-1) from ed] at hl; exact hl
            refine lv_iload hx hb dL_law_1058 (lv_at hl 0 rfl) ?_
            refine lv_if_ge (tgt := 1067) hx hb dL_law_1060 (by decide) (fun c_1060 => ?_) (fun c_1060 => ?_)
            · exact absurd c_1060 (by decide)
            · have n_1060 := c_1060
              have c_1060 := i_nle.mp n_1060
              refine lv_iconst (v := 1) hx hb dL_law_1063 (by decide) ?_
              refine lv_goto (tgt := 1068) hx hb dL_law_1064 (by decide) ?_
              refine lv_aload_n hx hb dL_law_1068 rfl (lv_at hl 3 rfl) ?_
              refine lv_iconst (v := 3) hx hb dL_law_1069 (by decide) ?_
              refine f_xcalli (vx_runV (As := [.int 3]) (rest := [.int 1]) ⟨hx, hb, hml, hown, hts⟩ (m_X3_count l hl9 hX hnw hn6 hT h8 hXm 3) (cwV 1 hts gL_law_X3_count rfl rfl rfl (by decide +kernel) ⟨(Nat.le_of_ble_eq_true rfl), (Nat.le_of_ble_eq_true rfl)⟩) (fPre_ofV hG hI rfl (hXm 0 (by omega)) hX.1 rfl rfl) rfl rfl hl.1 rfl (lv_room (Nat.le_of_ble_eq_true rfl)) dL_law_1070 ⟨(by show _ ≤ 1200130; omega), (by show _ ≤ 5501080; omega)⟩) hI (fun En ce q9 H locs hok hI hq1 hq2 hq3 => ?_) (fun r29 E30 H locs hp hI => ?_)
              · exact absurd hok.1 (by rw [(show c_count 3 = 0 by decide)]; decide)
              obtain ⟨-, hr9, hX, hn9⟩ := hp
              have hr9 : r29 = (p_cnt nw n T B 3) := hr9.trans (rfl)
              subst hr9
              have hS := hS.kept hn6 (fun q h1 h2 => hn9 q (by omega))
              have hW := hW.kept hn6 (fun q h1 h2 => hn9 q (by omega))
              refine lv_if_ne (tgt := 1080) hx hb dL_law_1073 (by decide) (fun c_1073 => ?_) (fun c_1073 => ?_)
              · exact absurd hin0 c_1073
              · refine lv_iconst (v := 1) hx hb dL_law_1076 (by decide) ?_
                refine lv_goto (tgt := 1081) hx hb dL_law_1077 (by decide) ?_
                refine lv_icmp_ne (tgt := 1147) hx hb dL_law_1081 (by decide) (fun c_1081 => ?_) (fun c_1081 => ?_)
                · exact absurd c_1081 (by decide)
                · refine lv_iload hx hb dL_law_1084 (lv_at hl 1 rfl) ?_
                  refine lv_if_ge (tgt := 1093) hx hb dL_law_1086 (by decide) (fun c_1086 => ?_) (fun c_1086 => ?_)
                  · exact absurd c_1086 (by decide)
                  · have n_1086 := c_1086
                    have c_1086 := i_nle.mp n_1086
                    refine lv_iconst (v := 1) hx hb dL_law_1089 (by decide) ?_
                    refine lv_goto (tgt := 1094) hx hb dL_law_1090 (by decide) ?_
                    refine lv_aload_n hx hb dL_law_1094 rfl (lv_at hl 3 rfl) ?_
                    refine lv_iconst (v := 3) hx hb dL_law_1095 (by decide) ?_
                    refine f_xcalli (vx_runV (As := [.int 3]) (rest := [.int 1]) ⟨hx, hb, hml, hown, hts⟩ (m_X3_count l hl9 hX hnw hn6 hT h8 hXm 3) (cwV 1 hts gL_law_X3_count rfl rfl rfl (by decide +kernel) ⟨(Nat.le_of_ble_eq_true rfl), (Nat.le_of_ble_eq_true rfl)⟩) (fPre_ofV hG hI rfl (hXm 0 (by omega)) hX.1 rfl rfl) rfl rfl hl.1 rfl (lv_room (Nat.le_of_ble_eq_true rfl)) dL_law_1096 ⟨(by show _ ≤ 1200130; omega), (by show _ ≤ 5501080; omega)⟩) hI (fun En ce q9 H locs hok hI hq1 hq2 hq3 => ?_) (fun r31 E32 H locs hp hI => ?_)
                    · exact absurd hok.1 (by rw [(show c_count 3 = 0 by decide)]; decide)
                    obtain ⟨-, hr9, hX, hn9⟩ := hp
                    have hr9 : r31 = (p_cnt nw n T B 3) := hr9.trans (rfl)
                    subst hr9
                    have hS := hS.kept hn6 (fun q h1 h2 => hn9 q (by omega))
                    have hW := hW.kept hn6 (fun q h1 h2 => hn9 q (by omega))
                    refine lv_iload hx hb dL_law_1099 (lv_at hl 7 rfl) ?_
                    refine lv_icmp_ne (tgt := 1108) hx hb dL_law_1101 (by decide) (fun c_1101 => ?_) (fun c_1101 => ?_)
                    · exact absurd hinn c_1101
                    · refine lv_iconst (v := 1) hx hb dL_law_1104 (by decide) ?_
                      refine lv_goto (tgt := 1109) hx hb dL_law_1105 (by decide) ?_
                      refine lv_icmp_ne (tgt := 1147) hx hb dL_law_1109 (by decide) (fun c_1109 => ?_) (fun c_1109 => ?_)
                      · exact absurd c_1109 (by decide)
                      · refine lv_iload hx hb dL_law_1112 (lv_at hl 0 rfl) ?_
                        refine lv_if_lt (tgt := 1127) hx hb dL_law_1114 (by decide) (fun c_1114 => ?_) (fun c_1114 => ?_)
                        · have n_1114 := i_nle.mpr c_1114
                          refine lv_iload hx hb dL_law_1127 (lv_at hl 0 rfl) ?_
                          refine lv_if_ge (tgt := 1149) hx hb dL_law_1129 (by decide) (fun c_1129 => ?_) (fun c_1129 => ?_)
                          · exact absurd c_1129 (by decide)
                          · have n_1129 := c_1129
                            have c_1129 := i_nle.mp n_1129
                            refine lv_iload hx hb dL_law_1132 (lv_at hl 1 rfl) ?_
                            refine lv_if_lt (tgt := 1149) hx hb dL_law_1134 (by decide) (fun c_1134 => ?_) (fun c_1134 => ?_)
                            · have n_1134 := i_nle.mpr c_1134
                              exact kk E32 H locs ls _ _ (by omega) (by omega) hX hS hW hI (lv_sub hl [2, 3, 4, 5, 6, 7, 8, 9, 10] rfl)
                            · exact absurd c_1134 (by decide)
                        · exact absurd c_1114 (by decide)
          · have hinm : ¬ p_cnt nw n T B 3 = nI n := fun zq => hin.mp ((nI_eq (by omega) (by omega)).mp (ei.symm.trans zq)) qd hqd hd8
            have hl : lv_has ls 23 [(17, .int (-1)), (16, .int (nI qd)), (0, .ref t0), (1, .ref (ad 0)), (2, .ref (ad 50)), (3, .int (nI time)), (4, .int xv), (5, .int (nI n)), (6, .ref (ad 80)), (7, .ref (ad 90)), (11, .int (nI T0)), (14, .int (p_ones B n n)), (15, .int (p_psum B n))] := by rw [show p_cnt nw n T B 5 = (nI qd) from ed] at hl; exact hl
            refine lv_iload hx hb dL_law_1058 (lv_at hl 0 rfl) ?_
            refine lv_if_ge (tgt := 1067) hx hb dL_law_1060 (by decide) (fun c_1060 => ?_) (fun c_1060 => ?_)
            · exact absurd c_1060 (by decide)
            · have n_1060 := c_1060
              have c_1060 := i_nle.mp n_1060
              refine lv_iconst (v := 1) hx hb dL_law_1063 (by decide) ?_
              refine lv_goto (tgt := 1068) hx hb dL_law_1064 (by decide) ?_
              refine lv_aload_n hx hb dL_law_1068 rfl (lv_at hl 3 rfl) ?_
              refine lv_iconst (v := 3) hx hb dL_law_1069 (by decide) ?_
              refine f_xcalli (vx_runV (As := [.int 3]) (rest := [.int 1]) ⟨hx, hb, hml, hown, hts⟩ (m_X3_count l hl9 hX hnw hn6 hT h8 hXm 3) (cwV 1 hts gL_law_X3_count rfl rfl rfl (by decide +kernel) ⟨(Nat.le_of_ble_eq_true rfl), (Nat.le_of_ble_eq_true rfl)⟩) (fPre_ofV hG hI rfl (hXm 0 (by omega)) hX.1 rfl rfl) rfl rfl hl.1 rfl (lv_room (Nat.le_of_ble_eq_true rfl)) dL_law_1070 ⟨(by show _ ≤ 1200130; omega), (by show _ ≤ 5501080; omega)⟩) hI (fun En ce q9 H locs hok hI hq1 hq2 hq3 => ?_) (fun r33 E34 H locs hp hI => ?_)
              · exact absurd hok.1 (by rw [(show c_count 3 = 0 by decide)]; decide)
              obtain ⟨-, hr9, hX, hn9⟩ := hp
              have hr9 : r33 = (p_cnt nw n T B 3) := hr9.trans (rfl)
              subst hr9
              have hS := hS.kept hn6 (fun q h1 h2 => hn9 q (by omega))
              have hW := hW.kept hn6 (fun q h1 h2 => hn9 q (by omega))
              refine lv_if_ne (tgt := 1080) hx hb dL_law_1073 (by decide) (fun c_1073 => ?_) (fun c_1073 => ?_)
              · exact absurd hin0 c_1073
              · refine lv_iconst (v := 1) hx hb dL_law_1076 (by decide) ?_
                refine lv_goto (tgt := 1081) hx hb dL_law_1077 (by decide) ?_
                refine lv_icmp_ne (tgt := 1147) hx hb dL_law_1081 (by decide) (fun c_1081 => ?_) (fun c_1081 => ?_)
                · exact absurd c_1081 (by decide)
                · refine lv_iload hx hb dL_law_1084 (lv_at hl 1 rfl) ?_
                  refine lv_if_ge (tgt := 1093) hx hb dL_law_1086 (by decide) (fun c_1086 => ?_) (fun c_1086 => ?_)
                  · have n_1086 := i_nlt.mpr c_1086
                    refine lv_iconst (v := 0) hx hb dL_law_1093 (by decide) ?_
                    refine lv_aload_n hx hb dL_law_1094 rfl (lv_at hl 3 rfl) ?_
                    refine lv_iconst (v := 3) hx hb dL_law_1095 (by decide) ?_
                    refine f_xcalli (vx_runV (As := [.int 3]) (rest := [.int 0]) ⟨hx, hb, hml, hown, hts⟩ (m_X3_count l hl9 hX hnw hn6 hT h8 hXm 3) (cwV 1 hts gL_law_X3_count rfl rfl rfl (by decide +kernel) ⟨(Nat.le_of_ble_eq_true rfl), (Nat.le_of_ble_eq_true rfl)⟩) (fPre_ofV hG hI rfl (hXm 0 (by omega)) hX.1 rfl rfl) rfl rfl hl.1 rfl (lv_room (Nat.le_of_ble_eq_true rfl)) dL_law_1096 ⟨(by show _ ≤ 1200130; omega), (by show _ ≤ 5501080; omega)⟩) hI (fun En ce q9 H locs hok hI hq1 hq2 hq3 => ?_) (fun r35 E36 H locs hp hI => ?_)
                    · exact absurd hok.1 (by rw [(show c_count 3 = 0 by decide)]; decide)
                    obtain ⟨-, hr9, hX, hn9⟩ := hp
                    have hr9 : r35 = (p_cnt nw n T B 3) := hr9.trans (rfl)
                    subst hr9
                    have hS := hS.kept hn6 (fun q h1 h2 => hn9 q (by omega))
                    have hW := hW.kept hn6 (fun q h1 h2 => hn9 q (by omega))
                    refine lv_iload hx hb dL_law_1099 (lv_at hl 7 rfl) ?_
                    refine lv_icmp_ne (tgt := 1108) hx hb dL_law_1101 (by decide) (fun c_1101 => ?_) (fun c_1101 => ?_)
                    · refine lv_iconst (v := 0) hx hb dL_law_1108 (by decide) ?_
                      refine lv_icmp_ne (tgt := 1147) hx hb dL_law_1109 (by decide) (fun c_1109 => ?_) (fun c_1109 => ?_)
                      · exact absurd c_1109 (by decide)
                      · refine lv_iload hx hb dL_law_1112 (lv_at hl 0 rfl) ?_
                        refine lv_if_lt (tgt := 1127) hx hb dL_law_1114 (by decide) (fun c_1114 => ?_) (fun c_1114 => ?_)
                        · have n_1114 := i_nle.mpr c_1114
                          refine lv_iload hx hb dL_law_1127 (lv_at hl 0 rfl) ?_
                          refine lv_if_ge (tgt := 1149) hx hb dL_law_1129 (by decide) (fun c_1129 => ?_) (fun c_1129 => ?_)
                          · exact absurd c_1129 (by decide)
                          · have n_1129 := c_1129
                            have c_1129 := i_nle.mp n_1129
                            refine lv_iload hx hb dL_law_1132 (lv_at hl 1 rfl) ?_
                            refine lv_if_lt (tgt := 1149) hx hb dL_law_1134 (by decide) (fun c_1134 => ?_) (fun c_1134 => ?_)
                            · exact absurd c_1134 (nI_pos (by omega))
                            · have n_1134 := c_1134
                              have c_1134 := i_nlt.mp n_1134
                              refine lv_aload_n hx hb dL_law_1137 rfl (lv_at hl 3 rfl) ?_
                              refine lv_iload hx hb dL_law_1138 (lv_at hl 1 rfl) ?_
                              refine f_xcalli (vx_runV (As := [.int (nI qd)]) (rest := []) ⟨hx, hb, hml, hown, hts⟩ (m_X3_rank l hl9 hX hnw hn6 hT h8 hXm (nI qd)) (cwV 1 hts gL_law_X3_rank rfl rfl rfl (by decide +kernel) ⟨(Nat.le_of_ble_eq_true rfl), (Nat.le_of_ble_eq_true rfl)⟩) (fPre_ofV hG hI rfl (hXm 0 (by omega)) hX.1 rfl rfl) rfl rfl hl.1 rfl (lv_room (Nat.le_of_ble_eq_true rfl)) dL_law_1140 ⟨(by show _ ≤ 1200130; omega), (by show _ ≤ 5501080; omega)⟩) hI (fun En ce q9 H locs hok hI hq1 hq2 hq3 => ?_) (fun r37 E38 H locs hp hI => ?_)
                              · exact absurd hok.1 (by rw [crank_0 (n := n) (b := qd) (by omega) hn6]; decide)
                              obtain ⟨-, hr9, hX, hn9⟩ := hp
                              have hr9 : r37 = (1 + p_rk B (B qd) n) := hr9.trans (by rw [show (nI qd).toNatClampNeg = qd from nI_clamp (by omega)])
                              subst hr9
                              have hS := hS.kept hn6 (fun q h1 h2 => hn9 q (by omega))
                              have hW := hW.kept hn6 (fun q h1 h2 => hn9 q (by omega))
                              refine lv_iconst (v := 1) hx hb dL_law_1143 (by decide) ?_
                              refine lv_icmp_eq (tgt := 1149) hx hb dL_law_1144 (by decide) (fun c_1144 => ?_) (fun c_1144 => ?_)
                              · exact kk E38 H locs ls _ _ (by omega) (by omega) hX hS hW hI (lv_sub hl [2, 3, 4, 5, 6, 7, 8, 9, 10] rfl)
                              · exact absurd (rk_q (rk_lead haw hdm)) c_1144
                        · exact absurd c_1114 (by decide)
                    · exact absurd c_1101 hinm
                  · exact absurd (nI_pos' (by omega)) c_1086
        · have hin1 : ¬ p_cnt nw n T B 3 = 0 := fun zq => hw8 (hi0.mp ((nI_eq (by omega) (by omega) (b := 0)).mp (ei.symm.trans zq)) qw hqw)
          have hl : lv_has ls 23 [(17, .int (nI qw)), (16, .int (p_cnt nw n T B 5)), (0, .ref t0), (1, .ref (ad 0)), (2, .ref (ad 50)), (3, .int (nI time)), (4, .int xv), (5, .int (nI n)), (6, .ref (ad 80)), (7, .ref (ad 90)), (11, .int (nI T0)), (14, .int (p_ones B n n)), (15, .int (p_psum B n))] := by rw [show p_cnt nw n T B 6 = (nI qw) from ew] at hl; exact hl
          rcases lead_spec (B := B) (n := n) (fun i hi => (hL0.h3 i hi).1) with ⟨ed, -, had9⟩ | ⟨qd, hqd, ed, -, hd8, hdm, -⟩
          · have hinn : p_cnt nw n T B 3 = nI n := by show p_in B n = nI n; rw [ei, hin.mpr had9]
            have hl : lv_has ls 23 [(17, .int (nI qw)), (16, .int (-1)), (0, .ref t0), (1, .ref (ad 0)), (2, .ref (ad 50)), (3, .int (nI time)), (4, .int xv), (5, .int (nI n)), (6, .ref (ad 80)), (7, .ref (ad 90)), (11, .int (nI T0)), (14, .int (p_ones B n n)), (15, .int (p_psum B n))] := by rw [show p_cnt nw n T B 5 = (-1) from ed] at hl; exact hl
            refine lv_iload hx hb dL_law_1058 (lv_at hl 0 rfl) ?_
            refine lv_if_ge (tgt := 1067) hx hb dL_law_1060 (by decide) (fun c_1060 => ?_) (fun c_1060 => ?_)
            · have n_1060 := i_nlt.mpr c_1060
              refine lv_iconst (v := 0) hx hb dL_law_1067 (by decide) ?_
              refine lv_aload_n hx hb dL_law_1068 rfl (lv_at hl 3 rfl) ?_
              refine lv_iconst (v := 3) hx hb dL_law_1069 (by decide) ?_
              refine f_xcalli (vx_runV (As := [.int 3]) (rest := [.int 0]) ⟨hx, hb, hml, hown, hts⟩ (m_X3_count l hl9 hX hnw hn6 hT h8 hXm 3) (cwV 1 hts gL_law_X3_count rfl rfl rfl (by decide +kernel) ⟨(Nat.le_of_ble_eq_true rfl), (Nat.le_of_ble_eq_true rfl)⟩) (fPre_ofV hG hI rfl (hXm 0 (by omega)) hX.1 rfl rfl) rfl rfl hl.1 rfl (lv_room (Nat.le_of_ble_eq_true rfl)) dL_law_1070 ⟨(by show _ ≤ 1200130; omega), (by show _ ≤ 5501080; omega)⟩) hI (fun En ce q9 H locs hok hI hq1 hq2 hq3 => ?_) (fun r39 E40 H locs hp hI => ?_)
              · exact absurd hok.1 (by rw [(show c_count 3 = 0 by decide)]; decide)
              obtain ⟨-, hr9, hX, hn9⟩ := hp
              have hr9 : r39 = (p_cnt nw n T B 3) := hr9.trans (rfl)
              subst hr9
              have hS := hS.kept hn6 (fun q h1 h2 => hn9 q (by omega))
              have hW := hW.kept hn6 (fun q h1 h2 => hn9 q (by omega))
              refine lv_if_ne (tgt := 1080) hx hb dL_law_1073 (by decide) (fun c_1073 => ?_) (fun c_1073 => ?_)
              · refine lv_iconst (v := 0) hx hb dL_law_1080 (by decide) ?_
                refine lv_icmp_ne (tgt := 1147) hx hb dL_law_1081 (by decide) (fun c_1081 => ?_) (fun c_1081 => ?_)
                · exact absurd c_1081 (by decide)
                · refine lv_iload hx hb dL_law_1084 (lv_at hl 1 rfl) ?_
                  refine lv_if_ge (tgt := 1093) hx hb dL_law_1086 (by decide) (fun c_1086 => ?_) (fun c_1086 => ?_)
                  · exact absurd c_1086 (by decide)
                  · have n_1086 := c_1086
                    have c_1086 := i_nle.mp n_1086
                    refine lv_iconst (v := 1) hx hb dL_law_1089 (by decide) ?_
                    refine lv_goto (tgt := 1094) hx hb dL_law_1090 (by decide) ?_
                    refine lv_aload_n hx hb dL_law_1094 rfl (lv_at hl 3 rfl) ?_
                    refine lv_iconst (v := 3) hx hb dL_law_1095 (by decide) ?_
                    refine f_xcalli (vx_runV (As := [.int 3]) (rest := [.int 1]) ⟨hx, hb, hml, hown, hts⟩ (m_X3_count l hl9 hX hnw hn6 hT h8 hXm 3) (cwV 1 hts gL_law_X3_count rfl rfl rfl (by decide +kernel) ⟨(Nat.le_of_ble_eq_true rfl), (Nat.le_of_ble_eq_true rfl)⟩) (fPre_ofV hG hI rfl (hXm 0 (by omega)) hX.1 rfl rfl) rfl rfl hl.1 rfl (lv_room (Nat.le_of_ble_eq_true rfl)) dL_law_1096 ⟨(by show _ ≤ 1200130; omega), (by show _ ≤ 5501080; omega)⟩) hI (fun En ce q9 H locs hok hI hq1 hq2 hq3 => ?_) (fun r41 E42 H locs hp hI => ?_)
                    · exact absurd hok.1 (by rw [(show c_count 3 = 0 by decide)]; decide)
                    obtain ⟨-, hr9, hX, hn9⟩ := hp
                    have hr9 : r41 = (p_cnt nw n T B 3) := hr9.trans (rfl)
                    subst hr9
                    have hS := hS.kept hn6 (fun q h1 h2 => hn9 q (by omega))
                    have hW := hW.kept hn6 (fun q h1 h2 => hn9 q (by omega))
                    refine lv_iload hx hb dL_law_1099 (lv_at hl 7 rfl) ?_
                    refine lv_icmp_ne (tgt := 1108) hx hb dL_law_1101 (by decide) (fun c_1101 => ?_) (fun c_1101 => ?_)
                    · exact absurd hinn c_1101
                    · refine lv_iconst (v := 1) hx hb dL_law_1104 (by decide) ?_
                      refine lv_goto (tgt := 1109) hx hb dL_law_1105 (by decide) ?_
                      refine lv_icmp_ne (tgt := 1147) hx hb dL_law_1109 (by decide) (fun c_1109 => ?_) (fun c_1109 => ?_)
                      · exact absurd c_1109 (by decide)
                      · refine lv_iload hx hb dL_law_1112 (lv_at hl 0 rfl) ?_
                        refine lv_if_lt (tgt := 1127) hx hb dL_law_1114 (by decide) (fun c_1114 => ?_) (fun c_1114 => ?_)
                        · exact absurd c_1114 (nI_pos (by omega))
                        · have n_1114 := c_1114
                          have c_1114 := i_nlt.mp n_1114
                          refine lv_aload_n hx hb dL_law_1117 rfl (lv_at hl 3 rfl) ?_
                          refine lv_iload hx hb dL_law_1118 (lv_at hl 0 rfl) ?_
                          refine f_xcalli (vx_runV (As := [.int (nI qw)]) (rest := []) ⟨hx, hb, hml, hown, hts⟩ (m_X3_rank l hl9 hX hnw hn6 hT h8 hXm (nI qw)) (cwV 1 hts gL_law_X3_rank rfl rfl rfl (by decide +kernel) ⟨(Nat.le_of_ble_eq_true rfl), (Nat.le_of_ble_eq_true rfl)⟩) (fPre_ofV hG hI rfl (hXm 0 (by omega)) hX.1 rfl rfl) rfl rfl hl.1 rfl (lv_room (Nat.le_of_ble_eq_true rfl)) dL_law_1120 ⟨(by show _ ≤ 1200130; omega), (by show _ ≤ 5501080; omega)⟩) hI (fun En ce q9 H locs hok hI hq1 hq2 hq3 => ?_) (fun r43 E44 H locs hp hI => ?_)
                          · exact absurd hok.1 (by rw [crank_0 (n := n) (b := qw) (by omega) hn6]; decide)
                          obtain ⟨-, hr9, hX, hn9⟩ := hp
                          have hr9 : r43 = (1 + p_rk B (B qw) n) := hr9.trans (by rw [show (nI qw).toNatClampNeg = qw from nI_clamp (by omega)])
                          subst hr9
                          have hS := hS.kept hn6 (fun q h1 h2 => hn9 q (by omega))
                          have hW := hW.kept hn6 (fun q h1 h2 => hn9 q (by omega))
                          refine lv_iconst (v := 1) hx hb dL_law_1123 (by decide) ?_
                          refine lv_icmp_ne (tgt := 1147) hx hb dL_law_1124 (by decide) (fun c_1124 => ?_) (fun c_1124 => ?_)
                          · exact absurd (rk_q (rk_win hw8 hwm)) c_1124
                          · refine lv_iload hx hb dL_law_1127 (lv_at hl 0 rfl) ?_
                            refine lv_if_ge (tgt := 1149) hx hb dL_law_1129 (by decide) (fun c_1129 => ?_) (fun c_1129 => ?_)
                            · have n_1129 := i_nlt.mpr c_1129
                              exact kk E44 H locs ls _ _ (by omega) (by omega) hX hS hW hI (lv_sub hl [2, 3, 4, 5, 6, 7, 8, 9, 10] rfl)
                            · exact absurd (nI_pos' (by omega)) c_1129
              · exact absurd c_1073 hin1
            · exact absurd (nI_pos' (by omega)) c_1060
          · have hinm : ¬ p_cnt nw n T B 3 = nI n := fun zq => hin.mp ((nI_eq (by omega) (by omega)).mp (ei.symm.trans zq)) qd hqd hd8
            have hl : lv_has ls 23 [(17, .int (nI qw)), (16, .int (nI qd)), (0, .ref t0), (1, .ref (ad 0)), (2, .ref (ad 50)), (3, .int (nI time)), (4, .int xv), (5, .int (nI n)), (6, .ref (ad 80)), (7, .ref (ad 90)), (11, .int (nI T0)), (14, .int (p_ones B n n)), (15, .int (p_psum B n))] := by rw [show p_cnt nw n T B 5 = (nI qd) from ed] at hl; exact hl
            refine lv_iload hx hb dL_law_1058 (lv_at hl 0 rfl) ?_
            refine lv_if_ge (tgt := 1067) hx hb dL_law_1060 (by decide) (fun c_1060 => ?_) (fun c_1060 => ?_)
            · have n_1060 := i_nlt.mpr c_1060
              refine lv_iconst (v := 0) hx hb dL_law_1067 (by decide) ?_
              refine lv_aload_n hx hb dL_law_1068 rfl (lv_at hl 3 rfl) ?_
              refine lv_iconst (v := 3) hx hb dL_law_1069 (by decide) ?_
              refine f_xcalli (vx_runV (As := [.int 3]) (rest := [.int 0]) ⟨hx, hb, hml, hown, hts⟩ (m_X3_count l hl9 hX hnw hn6 hT h8 hXm 3) (cwV 1 hts gL_law_X3_count rfl rfl rfl (by decide +kernel) ⟨(Nat.le_of_ble_eq_true rfl), (Nat.le_of_ble_eq_true rfl)⟩) (fPre_ofV hG hI rfl (hXm 0 (by omega)) hX.1 rfl rfl) rfl rfl hl.1 rfl (lv_room (Nat.le_of_ble_eq_true rfl)) dL_law_1070 ⟨(by show _ ≤ 1200130; omega), (by show _ ≤ 5501080; omega)⟩) hI (fun En ce q9 H locs hok hI hq1 hq2 hq3 => ?_) (fun r45 E46 H locs hp hI => ?_)
              · exact absurd hok.1 (by rw [(show c_count 3 = 0 by decide)]; decide)
              obtain ⟨-, hr9, hX, hn9⟩ := hp
              have hr9 : r45 = (p_cnt nw n T B 3) := hr9.trans (rfl)
              subst hr9
              have hS := hS.kept hn6 (fun q h1 h2 => hn9 q (by omega))
              have hW := hW.kept hn6 (fun q h1 h2 => hn9 q (by omega))
              refine lv_if_ne (tgt := 1080) hx hb dL_law_1073 (by decide) (fun c_1073 => ?_) (fun c_1073 => ?_)
              · refine lv_iconst (v := 0) hx hb dL_law_1080 (by decide) ?_
                refine lv_icmp_ne (tgt := 1147) hx hb dL_law_1081 (by decide) (fun c_1081 => ?_) (fun c_1081 => ?_)
                · exact absurd c_1081 (by decide)
                · refine lv_iload hx hb dL_law_1084 (lv_at hl 1 rfl) ?_
                  refine lv_if_ge (tgt := 1093) hx hb dL_law_1086 (by decide) (fun c_1086 => ?_) (fun c_1086 => ?_)
                  · have n_1086 := i_nlt.mpr c_1086
                    refine lv_iconst (v := 0) hx hb dL_law_1093 (by decide) ?_
                    refine lv_aload_n hx hb dL_law_1094 rfl (lv_at hl 3 rfl) ?_
                    refine lv_iconst (v := 3) hx hb dL_law_1095 (by decide) ?_
                    refine f_xcalli (vx_runV (As := [.int 3]) (rest := [.int 0]) ⟨hx, hb, hml, hown, hts⟩ (m_X3_count l hl9 hX hnw hn6 hT h8 hXm 3) (cwV 1 hts gL_law_X3_count rfl rfl rfl (by decide +kernel) ⟨(Nat.le_of_ble_eq_true rfl), (Nat.le_of_ble_eq_true rfl)⟩) (fPre_ofV hG hI rfl (hXm 0 (by omega)) hX.1 rfl rfl) rfl rfl hl.1 rfl (lv_room (Nat.le_of_ble_eq_true rfl)) dL_law_1096 ⟨(by show _ ≤ 1200130; omega), (by show _ ≤ 5501080; omega)⟩) hI (fun En ce q9 H locs hok hI hq1 hq2 hq3 => ?_) (fun r47 E48 H locs hp hI => ?_)
                    · exact absurd hok.1 (by rw [(show c_count 3 = 0 by decide)]; decide)
                    obtain ⟨-, hr9, hX, hn9⟩ := hp
                    have hr9 : r47 = (p_cnt nw n T B 3) := hr9.trans (rfl)
                    subst hr9
                    have hS := hS.kept hn6 (fun q h1 h2 => hn9 q (by omega))
                    have hW := hW.kept hn6 (fun q h1 h2 => hn9 q (by omega))
                    refine lv_iload hx hb dL_law_1099 (lv_at hl 7 rfl) ?_
                    refine lv_icmp_ne (tgt := 1108) hx hb dL_law_1101 (by decide) (fun c_1101 => ?_) (fun c_1101 => ?_)
                    · refine lv_iconst (v := 0) hx hb dL_law_1108 (by decide) ?_
                      refine lv_icmp_ne (tgt := 1147) hx hb dL_law_1109 (by decide) (fun c_1109 => ?_) (fun c_1109 => ?_)
                      · exact absurd c_1109 (by decide)
                      · refine lv_iload hx hb dL_law_1112 (lv_at hl 0 rfl) ?_
                        refine lv_if_lt (tgt := 1127) hx hb dL_law_1114 (by decide) (fun c_1114 => ?_) (fun c_1114 => ?_)
                        · exact absurd c_1114 (nI_pos (by omega))
                        · have n_1114 := c_1114
                          have c_1114 := i_nlt.mp n_1114
                          refine lv_aload_n hx hb dL_law_1117 rfl (lv_at hl 3 rfl) ?_
                          refine lv_iload hx hb dL_law_1118 (lv_at hl 0 rfl) ?_
                          refine f_xcalli (vx_runV (As := [.int (nI qw)]) (rest := []) ⟨hx, hb, hml, hown, hts⟩ (m_X3_rank l hl9 hX hnw hn6 hT h8 hXm (nI qw)) (cwV 1 hts gL_law_X3_rank rfl rfl rfl (by decide +kernel) ⟨(Nat.le_of_ble_eq_true rfl), (Nat.le_of_ble_eq_true rfl)⟩) (fPre_ofV hG hI rfl (hXm 0 (by omega)) hX.1 rfl rfl) rfl rfl hl.1 rfl (lv_room (Nat.le_of_ble_eq_true rfl)) dL_law_1120 ⟨(by show _ ≤ 1200130; omega), (by show _ ≤ 5501080; omega)⟩) hI (fun En ce q9 H locs hok hI hq1 hq2 hq3 => ?_) (fun r49 E50 H locs hp hI => ?_)
                          · exact absurd hok.1 (by rw [crank_0 (n := n) (b := qw) (by omega) hn6]; decide)
                          obtain ⟨-, hr9, hX, hn9⟩ := hp
                          have hr9 : r49 = (1 + p_rk B (B qw) n) := hr9.trans (by rw [show (nI qw).toNatClampNeg = qw from nI_clamp (by omega)])
                          subst hr9
                          have hS := hS.kept hn6 (fun q h1 h2 => hn9 q (by omega))
                          have hW := hW.kept hn6 (fun q h1 h2 => hn9 q (by omega))
                          refine lv_iconst (v := 1) hx hb dL_law_1123 (by decide) ?_
                          refine lv_icmp_ne (tgt := 1147) hx hb dL_law_1124 (by decide) (fun c_1124 => ?_) (fun c_1124 => ?_)
                          · exact absurd (rk_q (rk_win hw8 hwm)) c_1124
                          · refine lv_iload hx hb dL_law_1127 (lv_at hl 0 rfl) ?_
                            refine lv_if_ge (tgt := 1149) hx hb dL_law_1129 (by decide) (fun c_1129 => ?_) (fun c_1129 => ?_)
                            · have n_1129 := i_nlt.mpr c_1129
                              exact kk E50 H locs ls _ _ (by omega) (by omega) hX hS hW hI (lv_sub hl [2, 3, 4, 5, 6, 7, 8, 9, 10] rfl)
                            · exact absurd (nI_pos' (by omega)) c_1129
                    · exact absurd c_1101 hinm
                  · exact absurd (nI_pos' (by omega)) c_1086
              · exact absurd c_1073 hin1
            · exact absurd (nI_pos' (by omega)) c_1060

set_option maxHeartbeats 4000000 in
set_option maxRecDepth 100000 in
theorem law_I (l : Launch) {pr : Program} {e : Env} {s : State} {m : MethodId} {args : Array Value} {below : List Frame} {meth : Method} {c : Code} {Q : State → Prop} (hx : pr.tables.exec = Jvm.exec) (hb : c.code = cL_law) (hml : c.maxLocals = 23) (hts : ∀ w ∈ wsL_law, w.before args s = true) (hown : s.vm.findClass RL = some m.cls) {D : va_G} {cI cJ cB : ClassId} {t0 z : Nat} {tx ad : Nat → Nat} {L : List Nat} (hG : fG D cI cJ cB t0 z tx s) {cells slots : Nat} {E : Nat → va_E} {H : Heap} {locs : List Loc} {ls : Array Slot} (hl9 : l.stackTraces = false) {w p g : Nat → Int32} {nw n T T0 : Nat} {B F B0 : Nat → Nat → Int32} {G : Nat → Int32} (hL0 : okL w p g nw n T B) (hOld : okL w p g nw n T0 B0) (hTT : T = T0 + 1) (hBB : ∀ i, i < n → B i = p_tick w p g nw (nI T0) (F i) (B0 i)) (hG0 : G = fun i => p_arr w p g nw T0 (F i) (B0 i) 0 401) (hT : T < 2 ^ 20) (hXm : ∀ k, k < 5 ∨ (10 ≤ k ∧ k < 24) ∨ (30 ≤ k ∧ k < 44) → k ∈ L) (hSm : ∀ k, (50 ≤ k ∧ k < 55) ∨ (60 ≤ k ∧ k < 60 + n) ∨ (70 ≤ k ∧ k < 70 + n) → k ∈ L) (hX : x_at cI cB ad E w p g nw n T B F) (hS : s_at cI cJ ad E w p g nw n T B F) (hWm : ∀ k, (80 ≤ k ∧ k < 81 + n) ∨ k = 90 → k ∈ L) (hW : w_at cI cJ ad E n B0 G) {time : Nat} {xv : Int32} (ht : time < 70) (hc : cells ≤ 100000) (hs : slots ≤ 500000) (hI : fI D (fA z) s.heap ad L E H locs) (hl : lv_has ls 23 [(0, .ref t0), (1, .ref (ad 0)), (2, .ref (ad 50)), (3, .int (nI time)), (4, .int xv), (5, .int (nI n)), (6, .ref (ad 80)), (7, .ref (ad 90)), (11, .int (nI T0))]) (kk : ∀ (E1 : Nat → va_E) (H1 : Heap) (locs1 : List Loc) (ls1 : Array Slot) (c1 s1 : Nat), c1 ≤ cells + 10 → s1 ≤ slots + 60 → x_at cI cB ad E1 w p g nw n T B F → s_at cI cJ ad E1 w p g nw n T B F → fI D (fA z) s.heap ad L E1 H1 locs1 → lv_has ls1 23 [(0, .ref t0), (1, .ref (ad 0)), (2, .ref (ad 50)), (3, .int (nI time))] → W pr l e ({ frames := 11, cells := 1200130, slots := 5501080, locals := 402 } : Room) s m args below meth c H1 locs1 c1 s1 Q (F0 m 1221 ls1 [])) : W pr l e ({ frames := 11, cells := 1200130, slots := 5501080, locals := 402 } : Room) s m args below meth c H locs cells slots Q (F0 m 1149 ls []) := by
  have hT : T < 2 ^ 30 := by omega
  have hnw := hL0.1
  have hn6 := hL0.2.1
  have h8 := hL0.h8
  have hok := hL0.2.2.2.1
  refine lv_iload hx hb dL_law_1149 (lv_at hl 5 rfl) ?_
  refine lv_if_le (tgt := 1221) hx hb dL_law_1151 (by decide) (fun c_1151 => ?_) (fun c_1151 => ?_)
  · have n_1151 := i_nlt.mpr c_1151
    exact kk E H locs ls _ _ (by omega) (by omega) hX hS hI (lv_sub hl [0, 1, 2, 3] rfl)
  · have n_1151 := c_1151
    have c_1151 := i_nle.mp n_1151
    have hn0 : 0 < n := (nI_ltI (by omega) (by omega) (a := 0)).mp c_1151
    refine lv_iload_n hx hb dL_law_1154 rfl (lv_at hl 3 rfl) ?_
    refine lv_bipush (v := 7) hx hb dL_law_1155 (by decide) ?_
    refine lv_irem hx hb dL_law_1157 (by decide) ?_
    refine lv_topi (fun r7 er7 => ?_)
    refine lv_if_ne (tgt := 1221) hx hb dL_law_1158 (by decide) (fun c_1158 => ?_) (fun c_1158 => ?_)
    · exact kk E H locs ls _ _ (by omega) (by omega) hX hS hI (lv_sub hl [0, 1, 2, 3] rfl)
    · refine lv_aload_n hx hb dL_law_1161 rfl (lv_at hl 1 rfl) ?_
      refine lv_iload hx hb dL_law_1162 (lv_at hl 4 rfl) ?_
      refine lv_iload hx hb dL_law_1164 (lv_at hl 5 rfl) ?_
      refine f_calli1 (va_runS (As := [.int xv, .int (nI n)]) (rest := [.ref (ad 0)]) ⟨hx, hb, hml, hown, hts⟩ (m_L_below l xv (nI n) (nI_ne0 (by omega) (by omega))) (va_cwS 2 hts gL_law_L_below rfl rfl rfl (by decide +kernel) ⟨(Nat.le_of_ble_eq_true rfl), (Nat.le_of_ble_eq_true rfl)⟩) (fPre_of hG hI) rfl rfl hl.1 rfl (lv_room (Nat.le_of_ble_eq_true rfl)) dL_law_1166 ⟨(by show _ ≤ 1200130; omega), (by show _ ≤ 5501080; omega)⟩) hI (fun r1 E2 H locs hp hI => ?_)
      obtain ⟨he, hq9⟩ := hp
      rw [hq9] at hI
      obtain ⟨q1166, hq1166, e1166⟩ := below_nat xv (m := n) (by omega) (by omega)
      have he : r1 = nI q1166 := he.trans e1166
      subst he
      refine lv_iconst (v := 1) hx hb dL_law_1169 (by decide) ?_
      refine lv_iload hx hb dL_law_1170 (lv_at hl 4 rfl) ?_
      refine lv_bipush (v := 6) hx hb dL_law_1172 (by decide) ?_
      refine lv_ishr hx hb dL_law_1174 ?_
      refine lv_topi (fun sv1174 _ => ?_)
      refine lv_bipush (v := 60) hx hb dL_law_1175 (by decide) ?_
      refine f_calli1 (va_runS (As := [.int sv1174, .int 60]) (rest := [.int 1, .int (nI q1166), .ref (ad 0)]) ⟨hx, hb, hml, hown, hts⟩ (m_L_below l sv1174 60 (by decide)) (va_cwS 2 hts gL_law_L_below rfl rfl rfl (by decide +kernel) ⟨(Nat.le_of_ble_eq_true rfl), (Nat.le_of_ble_eq_true rfl)⟩) (fPre_of hG hI) rfl rfl hl.1 rfl (lv_room (Nat.le_of_ble_eq_true rfl)) dL_law_1177 ⟨(by show _ ≤ 1200130; omega), (by show _ ≤ 5501080; omega)⟩) hI (fun r3 E4 H locs hp hI => ?_)
      obtain ⟨he, hq9⟩ := hp
      rw [hq9] at hI
      obtain ⟨q1177, hq1177, e1177⟩ := below_nat sv1174 (m := 60) (by omega) (by omega)
      have he : r3 = nI q1177 := he.trans e1177
      subst he
      refine lv_iadd hx hb dL_law_1180 ?_
      refine lv_topi (fun tv etv => ?_)
      have etv : tv = (nI (q1177 + 1)) := etv.trans (one_add q1177)
      subst etv
      refine f_xcalli (vx_runV (As := [.int (nI q1166), .int (nI (q1177 + 1))]) (rest := []) ⟨hx, hb, hml, hown, hts⟩ (m_X3_advise l hl9 hX hnw hn6 hT h8 hXm (nI q1166) (nI (q1177 + 1))) (cwV 2 hts gL_law_X3_advise rfl rfl rfl (by decide +kernel) ⟨(Nat.le_of_ble_eq_true rfl), (Nat.le_of_ble_eq_true rfl)⟩) (fPre_ofV hG hI rfl (hXm 0 (by omega)) hX.1 rfl rfl) rfl rfl hl.1 rfl (lv_room (Nat.le_of_ble_eq_true rfl)) dL_law_1181 ⟨(by show _ ≤ 1200130; omega), (by show _ ≤ 5501080; omega)⟩) hI (fun En ce q9 H locs hok hI hq1 hq2 hq3 => ?_) (fun r5 E6 H locs hp hI => ?_)
      · exact hok.elim (fun q9 => absurd q9.1 (by rw [cadvise_0 (b := q1166) (t := (q1177 + 1)) (by omega) hn6 (by omega) (by omega)]; decide)) (fun q9 => absurd q9.1 (by rw [cadvise_0 (b := q1166) (t := (q1177 + 1)) (by omega) hn6 (by omega) (by omega)]; decide))
      obtain ⟨-, hr9, hX, hn9⟩ := hp
      have hr9 : r5 = ((p_advi w p g nw T (F q1166) (B q1166) (q1177 + 1) 16).1) := hr9.trans (by rw [show (nI q1166).toNatClampNeg = q1166 from nI_clamp (by omega), show (nI (q1177 + 1)).toNatClampNeg = (q1177 + 1) from nI_clamp (by omega)])
      subst hr9
      have hS := hS.kept hn6 (fun q h1 h2 => hn9 q (by omega))
      have hW := hW.kept hn6 (fun q h1 h2 => hn9 q (by omega))
      refine lv_istore (lv' := [(18, .int ((p_advi w p g nw T (F q1166) (B q1166) (q1177 + 1) 16).1)), (0, .ref t0), (1, .ref (ad 0)), (2, .ref (ad 50)), (3, .int (nI time)), (4, .int xv), (5, .int (nI n)), (6, .ref (ad 80)), (7, .ref (ad 90)), (11, .int (nI T0))]) hx hb dL_law_1184 hl (by decide) rfl (fun ls hl => ?_)
      refine lv_iload hx hb dL_law_1186 (lv_at hl 0 rfl) ?_
      refine lv_if_lt (tgt := 1219) hx hb dL_law_1188 (by decide) (fun c_1188 => ?_) (fun c_1188 => ?_)
      · exact absurd c_1188 adv_rng.1
      · have n_1188 := c_1188
        have c_1188 := i_nlt.mp n_1188
        refine lv_iload hx hb dL_law_1191 (lv_at hl 0 rfl) ?_
        refine lv_bipush (v := 33) hx hb dL_law_1193 (by decide) ?_
        refine lv_icmp_gt (tgt := 1219) hx hb dL_law_1195 (by decide) (fun c_1195 => ?_) (fun c_1195 => ?_)
        · exact absurd c_1195 adv_rng.2.1
        · have n_1195 := c_1195
          have c_1195 := i_nlt.mp n_1195
          refine lv_iload hx hb dL_law_1198 (lv_at hl 0 rfl) ?_
          refine lv_bipush (v := 10) hx hb dL_law_1200 (by decide) ?_
          refine lv_irem hx hb dL_law_1202 (by decide) ?_
          refine lv_iconst (v := 3) hx hb dL_law_1203 (by decide) ?_
          refine lv_icmp_gt (tgt := 1219) hx hb dL_law_1204 (by decide) (fun c_1204 => ?_) (fun c_1204 => ?_)
          · exact absurd c_1204 adv_rng.2.2
          · have n_1204 := c_1204
            have c_1204 := i_nlt.mp n_1204
            refine lv_aload_n hx hb dL_law_1207 rfl (lv_at hl 2 rfl) ?_
            refine lv_iconst (v := 0) hx hb dL_law_1208 (by decide) ?_
            refine f_xcalli (vx_runV (As := [.int 0]) (rest := []) ⟨hx, hb, hml, hown, hts⟩ (m_X3_count l hl9 hX hnw hn6 hT h8 hXm 0) (cwV 1 hts gL_law_X3_count rfl rfl rfl (by decide +kernel) ⟨(Nat.le_of_ble_eq_true rfl), (Nat.le_of_ble_eq_true rfl)⟩) (fPre_ofV hG hI rfl (hXm 0 (by omega)) hX.1 rfl rfl) rfl rfl hl.1 rfl (lv_room (Nat.le_of_ble_eq_true rfl)) dL_law_1209 ⟨(by show _ ≤ 1200130; omega), (by show _ ≤ 5501080; omega)⟩) hI (fun En ce q9 H locs hok hI hq1 hq2 hq3 => ?_) (fun r7 E8 H locs hp hI => ?_)
            · exact absurd hok.1 (by rw [(show c_count 0 = 0 by decide)]; decide)
            obtain ⟨-, hr9, hX, hn9⟩ := hp
            have hr9 : r7 = (p_cnt nw n T B 0) := hr9.trans (rfl)
            subst hr9
            have hS := hS.kept hn6 (fun q h1 h2 => hn9 q (by omega))
            have hW := hW.kept hn6 (fun q h1 h2 => hn9 q (by omega))
            refine lv_iload hx hb dL_law_1212 (lv_at hl 9 rfl) ?_
            refine lv_iconst (v := 1) hx hb dL_law_1214 (by decide) ?_
            refine lv_iadd hx hb dL_law_1215 ?_
            refine lv_icmp_eq (tgt := 1221) hx hb dL_law_1216 (by decide) (fun c_1216 => ?_) (fun c_1216 => ?_)
            · exact kk E8 H locs ls _ _ (by omega) (by omega) hX hS hI (lv_sub hl [1, 2, 3, 4] rfl)
            · exact absurd (show nI T = nI T0 + 1 from by rw [hTT, nI_succ]) c_1216
