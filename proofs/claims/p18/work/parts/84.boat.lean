set_option maxHeartbeats 4000000 in
set_option maxRecDepth 100000 in
theorem law_G1 (l : Launch) {pr : Program} {e : Env} {s : State} {m : MethodId} {args : Array Value} {below : List Frame} {meth : Method} {c : Code} {Q : State → Prop} (hx : pr.tables.exec = Jvm.exec) (hb : c.code = cL_law) (hml : c.maxLocals = 23) (hts : ∀ w ∈ wsL_law, w.before args s = true) (hown : s.vm.findClass RL = some m.cls) {D : va_G} {cI cJ cB : ClassId} {t0 z : Nat} {tx ad : Nat → Nat} {L : List Nat} (hG : fG D cI cJ cB t0 z tx s) {cells slots : Nat} {E : Nat → va_E} {H : Heap} {locs : List Loc} {ls : Array Slot} (hl9 : l.stackTraces = false) {w p g : Nat → Int32} {nw n T T0 : Nat} {B F B0 : Nat → Nat → Int32} {G : Nat → Int32} (hL0 : okL w p g nw n T B) (hOld : okL w p g nw n T0 B0) (hTT : T = T0 + 1) (hBB : ∀ i, i < n → B i = p_tick w p g nw (nI T0) (F i) (B0 i)) (hG0 : G = fun i => p_arr w p g nw T0 (F i) (B0 i) 0 401) (hT : T < 2 ^ 20) (hLt : ∀ k, k ∈ L → k < 92) (hXm : ∀ k, k < 5 ∨ (10 ≤ k ∧ k < 24) ∨ (30 ≤ k ∧ k < 44) → k ∈ L) (hSm : ∀ k, (50 ≤ k ∧ k < 55) ∨ (60 ≤ k ∧ k < 60 + n) ∨ (70 ≤ k ∧ k < 70 + n) → k ∈ L) (hX : x_at cI cB ad E w p g nw n T B F) (hS : s_at cI cJ ad E w p g nw n T B F) (hWm : ∀ k, (80 ≤ k ∧ k < 81 + n) ∨ k = 90 → k ∈ L) (hW : w_at cI cJ ad E n B0 G) {i : Nat} (hi : i < n) {time : Nat} {xv : Int32} (ht : time < 70) (hc : cells ≤ 100000) (hs : slots ≤ 500000) (hI : fI D (fA z) s.heap ad L E H locs) (hl : lv_has ls 23 [(0, .ref t0), (1, .ref (ad 0)), (2, .ref (ad 50)), (3, .int (nI time)), (4, .int xv), (5, .int (nI n)), (6, .ref (ad 80)), (7, .ref (ad 90)), (11, .int (nI T0)), (14, .int (p_ones B n i)), (15, .int (p_psum B i)), (16, .int (nI i))]) (kk : ∀ (ad1 : Nat → Nat) (E1 : Nat → va_E) (H1 : Heap) (locs1 : List Loc) (ls1 : Array Slot) (c1 s1 : Nat), c1 ≤ cells + 12 → s1 ≤ slots + 70 → (∀ q, q < 92 → ad1 q = ad q) → x_at cI cB ad1 E1 w p g nw n T B F → s_at cI cJ ad1 E1 w p g nw n T B F → w_at cI cJ ad1 E1 n B0 G → E1 92 = .inl (cI, 9, .inl (p_fact (B i))) → fI D (fA z) s.heap ad1 (L ++ [92]) E1 H1 locs1 → lv_has ls1 23 [(0, .ref t0), (1, .ref (ad1 0)), (2, .ref (ad1 50)), (3, .int (nI time)), (4, .int xv), (5, .int (nI n)), (6, .ref (ad1 80)), (7, .ref (ad1 90)), (11, .int (nI T0)), (14, .int (p_ones B n i)), (15, .int (p_psum B (i + 1))), (16, .int (nI i)), (17, .ref (ad1 92)), (18, .int (B i 2)), (19, .int (p_fact (B i) 0 - p_fact (B0 i) 0))] → W pr l e ({ frames := 11, cells := 1200130, slots := 5501080, locals := 402 } : Room) s m args below meth c H1 locs1 c1 s1 Q (F0 m 378 ls1 [])) : W pr l e ({ frames := 11, cells := 1200130, slots := 5501080, locals := 402 } : Room) s m args below meth c H locs cells slots Q (F0 m 308 ls []) := by
  have hT : T < 2 ^ 30 := by omega
  have hnw := hL0.1
  have hn6 := hL0.2.1
  have h8 := hL0.h8
  have hok := hL0.2.2.2.1
  refine lv_bipush (v := 9) hx hb dL_law_308 (by decide) ?_
  refine f_newi (k := 92) (n := 9) (N := 9) hx hb (hts (.arrayClass .int) (by decide +kernel)) hG.1 hI (fG_A hG) (by decide) (by decide) (by decide) (fun h9 => absurd (hLt _ h9) (by omega)) (by show _ ≤ 1200130; omega) (by show _ ≤ 5501080; omega) dL_law_310 (fun aN0 adN0 EN0 H hk0 hr0 hEk0 hEr0 hI => ?_)
  have hX := (hX.ad (fun q h1 => hr0 q (by omega))).kept (fun q h1 => hEr0 q (by omega))
  have hS := (hS.ad hn6 (fun q h1 h2 => hr0 q (by omega))).kept hn6 (fun q h1 h2 => hEr0 q (by omega))
  have hXm := fun k hk => List.mem_append_left [92] (hXm k hk)
  have hSm := fun k hk => List.mem_append_left [92] (hSm k hk)
  have hq0_1 : adN0 0 = (ad 0) := hr0 0 (by omega)
  have hq0_2 : adN0 50 = (ad 50) := hr0 50 (by omega)
  have hq0_6 : adN0 80 = (ad 80) := hr0 80 (by omega)
  have hq0_7 : adN0 90 = (ad 90) := hr0 90 (by omega)
  have hl : lv_has ls 23 [(0, .ref t0), (1, .ref (adN0 0)), (2, .ref (adN0 50)), (3, .int (nI time)), (4, .int xv), (5, .int (nI n)), (6, .ref (adN0 80)), (7, .ref (adN0 90)), (11, .int (nI T0)), (14, .int (p_ones B n i)), (15, .int (p_psum B i)), (16, .int (nI i))] := by rw [hq0_1, hq0_2, hq0_6, hq0_7]; exact hl
  have hc_now : EN0 92 = .inl (cI, 9, .inl (fun _ => 0)) := hEk0
  have ha_now : adN0 92 = aN0 := hk0
  have hW := (hW.ad hn6 (fun q h1 h2 => hr0 q (by omega))).kept hn6 (fun q h1 h2 => hEr0 q (by omega))
  have hWm := fun k hk => List.mem_append_left [92] (hWm k hk)
  refine lv_astore (lv' := [(17, .ref aN0), (0, .ref t0), (1, .ref (adN0 0)), (2, .ref (adN0 50)), (3, .int (nI time)), (4, .int xv), (5, .int (nI n)), (6, .ref (adN0 80)), (7, .ref (adN0 90)), (11, .int (nI T0)), (14, .int (p_ones B n i)), (15, .int (p_psum B i)), (16, .int (nI i))]) hx hb dL_law_312 hl (by decide) rfl (fun ls hl => ?_)
  refine lv_iconst (v := 0) hx hb dL_law_314 (by decide) ?_
  refine lv_istore (lv' := [(18, .int 0), (17, .ref aN0), (0, .ref t0), (1, .ref (adN0 0)), (2, .ref (adN0 50)), (3, .int (nI time)), (4, .int xv), (5, .int (nI n)), (6, .ref (adN0 80)), (7, .ref (adN0 90)), (11, .int (nI T0)), (14, .int (p_ones B n i)), (15, .int (p_psum B i)), (16, .int (nI i))]) hx hb dL_law_315 hl (by decide) rfl (fun ls hl => ?_)
  have Kih : ∀ (dv v : Nat), 0 ≤ v → v ≤ 9 → 9 + 1 ≤ v + dv → ∀ (f9 : Nat → Int32), ∀ (Ea : Nat → va_E), ∀ (H : Heap) (locs : List Loc) (ls : Array Slot), ∀ (ccv ssv : Nat), ccv ≤ (cells + 1) + v → ssv ≤ (slots + 9) + 6 * v → (x_at cI cB adN0 Ea w p g nw n T B F) → (s_at cI cJ adN0 Ea w p g nw n T B F) → (w_at cI cJ adN0 Ea n B0 G) → (Ea 92 = .inl (cI, 9, .inl f9)) → (rg 0 v f9 (p_fact (B i))) → fI D (fA z) s.heap adN0 (L ++ [92]) Ea H locs → lv_has ls 23 [(18, .int (nI v)), (17, .ref aN0), (0, .ref t0), (1, .ref (adN0 0)), (2, .ref (adN0 50)), (3, .int (nI time)), (4, .int xv), (5, .int (nI n)), (6, .ref (adN0 80)), (7, .ref (adN0 90)), (11, .int (nI T0)), (14, .int (p_ones B n i)), (15, .int (p_psum B i)), (16, .int (nI i))] → W pr l e ({ frames := 11, cells := 1200130, slots := 5501080, locals := 402 } : Room) s m args below meth c H locs ccv ssv Q (F0 m 317 ls []) := by
    intro dv
    induction dv with
    | zero => intro v h0 h1 h2; exact absurd h2 (by omega)
    | succ dv ih =>
      intro v hi0v hi1v hi2v f9 Ea  H locs ls ccv ssv hcih hsih hX hS hW hc_now hfv hI hl
      refine lv_iload hx hb dL_law_317 (lv_at hl 0 rfl) ?_
      refine lv_bipush (v := 9) hx hb dL_law_319 (by decide) ?_
      refine lv_icmp_ge (tgt := 343) hx hb dL_law_321 (by decide) (fun c_321 => ?_) (fun c_321 => ?_)
      · have n_321 := i_nlt.mpr c_321
        have hv0 : v = 9 := by have := (nI_leI (by omega) (by omega) (a := 9)).mp c_321; omega
        subst hv0
        obtain ⟨Es1, gs1, gt1, gu1⟩ := fI_arr (f := (p_fact (B i))) hI hc_now (fun j hj => hfv j (by omega) (by omega))
        have hI := gu1
        have hc_now : Es1 92 = .inl (cI, 9, .inl (p_fact (B i))) := gs1
        have hX := hX.kept (fun q h1 => gt1 q (by omega))
        have hS := hS.kept hn6 (fun q h1 h2 => gt1 q (by omega))
        have hW := hW.kept hn6 (fun q h1 h2 => gt1 q (by omega))
        refine lv_aload_n hx hb dL_law_343 rfl (lv_at hl 4 rfl) ?_
        have hS50 : Es1 50 = .inr (4, [.int (nI T), .ref (adN0 51), .ref (adN0 52), .int (nI nw), .ref (adN0 53), .ref (adN0 54)]) := hS.1
        refine f_get (ci := 4) (v := .ref (adN0 53)) (C := RX4) (T := TX4) (N := 6) hx hb hts (by decide +kernel) hown hG.1 hI rfl (hSm _ (by omega)) hS50 rfl 4 (by decide) (hts (.fieldLink RL 9 "CoracleRaceLaw$Sim" "boats" "[[I") (by decide +kernel)) rfl dL_law_344 ?_
        refine lv_iload hx hb dL_law_347 (lv_at hl 13 rfl) ?_
        have hS53 : Es1 53 = .inl (cJ, n, .inr (.inr (.inr (.inr (row_at adN0 60 n))))) := hS.2.2.2.1
        refine f_aldA hx hb hG.1 hI rfl (hSm _ (by omega)) hS53 (vp_in_nI (by omega) (by omega)) (v := .ref (adN0 (60 + i))) (by rw [show (nI i).toNatClampNeg = i from nI_clamp (by omega)]; exact row_at_at (by omega)) dL_law_349 ?_
        refine lv_bipush (v := 8) hx hb dL_law_350 (by decide) ?_
        have hB_i : Es1 (60 + i) = .inl (cI, 9, .inl (a9 ((B i) 3) ((B i) 4) ((B i) 5) ((B i) 6) ((B i) 7) (if (B i) 8 = 0 then -1 else (B i) 9) ((B i) 10) ((B i) 11) ((B i) 2))) := (hS.2.2.2.2.2 i (by omega)).1
        refine f_iald hx hb hG.1 hI rfl (hSm _ (by omega)) hB_i (vp_in_iff.mpr ⟨by decide, by decide⟩) dL_law_352 ?_
        refine lv_topi (fun tv etv => ?_)
        have etv : tv = ((B i) 2) := etv.trans rfl
        subst etv
        refine lv_istore (lv' := [(18, .int ((B i) 2)), (17, .ref aN0), (0, .ref t0), (1, .ref (adN0 0)), (2, .ref (adN0 50)), (3, .int (nI time)), (4, .int xv), (5, .int (nI n)), (6, .ref (adN0 80)), (7, .ref (adN0 90)), (11, .int (nI T0)), (14, .int (p_ones B n i)), (15, .int (p_psum B i)), (16, .int (nI i))]) hx hb dL_law_353 hl (by decide) rfl (fun ls hl => ?_)
        refine lv_aload hx hb dL_law_355 (lv_at hl 1 rfl) ?_
        refine lv_iconst (v := 0) hx hb dL_law_357 (by decide) ?_
        refine f_iald hx hb hG.1 hI ha_now in_last hc_now (vp_in_iff.mpr ⟨by decide, by decide⟩) dL_law_358 ?_
        refine lv_topi (fun tv etv => ?_)
        have etv : tv = (p_fact (B i) 0) := etv
        subst etv
        refine lv_aload hx hb dL_law_359 (lv_at hl 8 rfl) ?_
        refine lv_iload hx hb dL_law_361 (lv_at hl 13 rfl) ?_
        have hw80 : Es1 80 = .inl (cJ, n, .inr (.inr (.inr (.inr (row_at adN0 81 n))))) := hW.1
        refine f_aldA hx hb hG.1 hI rfl (hWm 80 (by omega)) hw80 (vp_in_nI (by omega) (by omega)) (v := .ref (adN0 (81 + i))) (by rw [show (nI i).toNatClampNeg = i from nI_clamp (by omega)]; exact row_at_at (by omega)) dL_law_363 ?_
        refine lv_iconst (v := 0) hx hb dL_law_364 (by decide) ?_
        have hw_i : Es1 (81 + i) = .inl (cI, 9, .inl (p_fact (B0 i))) := hW.2.1 i (by omega)
        refine f_iald hx hb hG.1 hI rfl (hWm _ (by omega)) hw_i (vp_in_iff.mpr ⟨by decide, by decide⟩) dL_law_365 ?_
        refine lv_topi (fun tv etv => ?_)
        have etv : tv = (p_fact (B0 i) 0) := etv
        subst etv
        refine lv_isub hx hb dL_law_366 ?_
        refine lv_istore (lv' := [(19, .int ((p_fact (B i) 0) - (p_fact (B0 i) 0))), (18, .int ((B i) 2)), (17, .ref aN0), (0, .ref t0), (1, .ref (adN0 0)), (2, .ref (adN0 50)), (3, .int (nI time)), (4, .int xv), (5, .int (nI n)), (6, .ref (adN0 80)), (7, .ref (adN0 90)), (11, .int (nI T0)), (14, .int (p_ones B n i)), (15, .int (p_psum B i)), (16, .int (nI i))]) hx hb dL_law_367 hl (by decide) rfl (fun ls hl => ?_)
        refine lv_iload hx hb dL_law_369 (lv_at hl 13 rfl) ?_
        refine lv_aload hx hb dL_law_371 (lv_at hl 2 rfl) ?_
        refine lv_iconst (v := 0) hx hb dL_law_373 (by decide) ?_
        refine f_iald hx hb hG.1 hI ha_now in_last hc_now (vp_in_iff.mpr ⟨by decide, by decide⟩) dL_law_374 ?_
        refine lv_topi (fun tv etv => ?_)
        have etv : tv = (p_fact (B i) 0) := etv
        subst etv
        refine lv_iadd hx hb dL_law_375 ?_
        refine lv_topi (fun tv etv => ?_)
        have etv : tv = (p_psum B (i + 1)) := etv.trans (rfl)
        subst etv
        refine lv_istore (lv' := [(15, .int (p_psum B (i + 1))), (19, .int ((p_fact (B i) 0) - (p_fact (B0 i) 0))), (18, .int ((B i) 2)), (17, .ref aN0), (0, .ref t0), (1, .ref (adN0 0)), (2, .ref (adN0 50)), (3, .int (nI time)), (4, .int xv), (5, .int (nI n)), (6, .ref (adN0 80)), (7, .ref (adN0 90)), (11, .int (nI T0)), (14, .int (p_ones B n i)), (16, .int (nI i))]) hx hb dL_law_376 hl (by decide) rfl (fun ls hl => ?_)
        exact kk adN0 Es1 H locs ls _ _ (by omega) (by omega) (fun q h1 => hr0 q (by omega)) hX hS hW hc_now hI (by rw [ha_now]; exact (lv_sub hl [4, 5, 6, 7, 8, 9, 10, 11, 12, 13, 0, 14, 3, 2, 1] rfl))
      · have n_321 := c_321
        have c_321 := i_nle.mp n_321
        have hv0 : v < 9 := (nI_ltI (by omega) (by omega) (b := 9)).mp c_321
        have hcl : (nI v).toNatClampNeg = v := nI_clamp (by omega)
        refine lv_aload hx hb dL_law_324 (lv_at hl 1 rfl) ?_
        refine lv_iload hx hb dL_law_326 (lv_at hl 0 rfl) ?_
        refine lv_aload_n hx hb dL_law_328 rfl (lv_at hl 3 rfl) ?_
        refine lv_iload hx hb dL_law_329 (lv_at hl 13 rfl) ?_
        refine lv_iload hx hb dL_law_331 (lv_at hl 0 rfl) ?_
        refine f_xcalli (vx_runV (As := [.int (nI i), .int (nI v)]) (rest := [.int (nI v), .ref aN0]) ⟨hx, hb, hml, hown, hts⟩ (m_X3_boat l hl9 hX hnw hn6 hT h8 hXm (nI i) (nI v)) (cwV 2 hts gL_law_X3_boat rfl rfl rfl (by decide +kernel) ⟨(Nat.le_of_ble_eq_true rfl), (Nat.le_of_ble_eq_true rfl)⟩) (fPre_ofV hG hI rfl (hXm 0 (by omega)) hX.1 rfl rfl) rfl rfl hl.1 rfl (lv_room (Nat.le_of_ble_eq_true rfl)) dL_law_333 ⟨(by show _ ≤ 1200130; omega), (by show _ ≤ 5501080; omega)⟩) hI (fun En ce q9 H locs hok hI hq1 hq2 hq3 => ?_) (fun r3 E4 H locs hp hI => ?_)
        · exact absurd hok.1 (by rw [cboat_0 (n := n) (b := i) (v := v) (by omega) hn6 (by omega)]; decide)
        obtain ⟨-, hr9, hX, hn9⟩ := hp
        have hr9 : r3 = (p_fact (B i) v) := hr9.trans (by rw [show (nI i).toNatClampNeg = i from nI_clamp (by omega), show (nI v).toNatClampNeg = v from nI_clamp (by omega)])
        subst hr9
        have hc_now : E4 92 = .inl (cI, 9, .inl f9) := (hn9 92 (by omega)).trans hc_now
        have hS := hS.kept hn6 (fun q h1 h2 => hn9 q (by omega))
        have hW := hW.kept hn6 (fun q h1 h2 => hn9 q (by omega))
        refine f_iast hx hb hG.1 hI ha_now in_last hc_now (vp_in_nI (by omega) (by omega)) dL_law_336 (fun E5 H locs hE6 hz7 hI => ?_)
        have hc_now : E5 92 = .inl (cI, 9, .inl (upd f9 v (p_fact (B i) v))) := (by rw [show (nI v).toNatClampNeg = v from nI_clamp (by omega)] at hE6; exact hE6)
        have hX := hX.kept (fun q h1 => hz7 q (by omega))
        have hS := hS.kept hn6 (fun q h1 h2 => hz7 q (by omega))
        have hW := hW.kept hn6 (fun q h1 h2 => hz7 q (by omega))
        refine lv_iinc (v := (nI (v + 1))) (lv' := [(18, .int (nI (v + 1))), (17, .ref aN0), (0, .ref t0), (1, .ref (adN0 0)), (2, .ref (adN0 50)), (3, .int (nI time)), (4, .int xv), (5, .int (nI n)), (6, .ref (adN0 80)), (7, .ref (adN0 90)), (11, .int (nI T0)), (14, .int (p_ones B n i)), (15, .int (p_psum B i)), (16, .int (nI i))]) hx hb dL_law_337 hl (k := 0) rfl (nI_1 v) (by decide) rfl (fun ls hl => ?_)
        refine lv_goto (tgt := 317) hx hb dL_law_340 (by decide) ?_
        have hfv := rg_s hfv rfl
        exact ih (v + 1) (by omega) (by omega) (by omega) _ E5 H locs ls _ _ (by omega) (by omega) hX hS hW hc_now hfv hI (lv_sub hl [0, 1, 2, 3, 4, 5, 6, 7, 8, 9, 10, 11, 12, 13] rfl)
  exact Kih (9 + 1) 0 (by omega) (by omega) (by omega) _ EN0 H locs ls _ _ (by omega) (by omega) hX hS hW hc_now rg_0 hI (lv_sub hl [0, 1, 2, 3, 4, 5, 6, 7, 8, 9, 10, 11, 12, 13] rfl)

set_option maxHeartbeats 4000000 in
set_option maxRecDepth 100000 in
theorem law_Gin (l : Launch) {pr : Program} {e : Env} {s : State} {m : MethodId} {args : Array Value} {below : List Frame} {meth : Method} {c : Code} {Q : State → Prop} (hx : pr.tables.exec = Jvm.exec) (hb : c.code = cL_law) (hml : c.maxLocals = 23) (hts : ∀ w ∈ wsL_law, w.before args s = true) (hown : s.vm.findClass RL = some m.cls) {D : va_G} {cI cJ cB : ClassId} {t0 z : Nat} {tx ad : Nat → Nat} {L : List Nat} (hG : fG D cI cJ cB t0 z tx s) {cells slots : Nat} {E : Nat → va_E} {H : Heap} {locs : List Loc} {ls : Array Slot} (hl9 : l.stackTraces = false) {w p g : Nat → Int32} {nw n T T0 : Nat} {B F B0 : Nat → Nat → Int32} {G : Nat → Int32} (hL0 : okL w p g nw n T B) (hOld : okL w p g nw n T0 B0) (hTT : T = T0 + 1) (hBB : ∀ i, i < n → B i = p_tick w p g nw (nI T0) (F i) (B0 i)) (hG0 : G = fun i => p_arr w p g nw T0 (F i) (B0 i) 0 401) (hT : T < 2 ^ 20) (hXm : ∀ k, k < 5 ∨ (10 ≤ k ∧ k < 24) ∨ (30 ≤ k ∧ k < 44) → k ∈ L) (hSm : ∀ k, (50 ≤ k ∧ k < 55) ∨ (60 ≤ k ∧ k < 60 + n) ∨ (70 ≤ k ∧ k < 70 + n) → k ∈ L) (hX : x_at cI cB ad E w p g nw n T B F) (hS : s_at cI cJ ad E w p g nw n T B F) (hWm : ∀ k, (80 ≤ k ∧ k < 81 + n) ∨ k = 90 → k ∈ L) (hW : w_at cI cJ ad E n B0 G) (hnm : 92 ∈ L) {i : Nat} (hi : i < n) (hc_now : E 92 = .inl (cI, 9, .inl (p_fact (B i)))) (hin : ¬ B0 i 8 = 0) {time : Nat} {xv : Int32} (ht : time < 70) (hc : cells ≤ 100000) (hs : slots ≤ 500000) (hI : fI D (fA z) s.heap ad L E H locs) (hl : lv_has ls 23 [(0, .ref t0), (1, .ref (ad 0)), (2, .ref (ad 50)), (3, .int (nI time)), (4, .int xv), (5, .int (nI n)), (6, .ref (ad 80)), (7, .ref (ad 90)), (11, .int (nI T0)), (14, .int (p_ones B n i)), (15, .int (p_psum B (i + 1))), (16, .int (nI i)), (17, .ref (ad 92)), (18, .int (B i 2)), (19, .int (p_fact (B i) 0 - p_fact (B0 i) 0))]) (kk : ∀ (E1 : Nat → va_E) (H1 : Heap) (locs1 : List Loc) (ls1 : Array Slot) (c1 s1 : Nat), c1 ≤ cells + 16 → s1 ≤ slots + 96 → x_at cI cB ad E1 w p g nw n T B F → s_at cI cJ ad E1 w p g nw n T B F → w_at cI cJ ad E1 n B0 G → E1 92 = .inl (cI, 9, .inl (p_fact (B i))) → fI D (fA z) s.heap ad L E1 H1 locs1 → lv_has ls1 23 [(0, .ref t0), (1, .ref (ad 0)), (2, .ref (ad 50)), (3, .int (nI time)), (4, .int xv), (5, .int (nI n)), (6, .ref (ad 80)), (7, .ref (ad 90)), (11, .int (nI T0)), (14, .int (p_ones B n i)), (15, .int (p_psum B (i + 1))), (16, .int (nI i)), (17, .ref (ad 92))] → W pr l e ({ frames := 11, cells := 1200130, slots := 5501080, locals := 402 } : Room) s m args below meth c H1 locs1 c1 s1 Q (F0 m 862 ls1 [])) : W pr l e ({ frames := 11, cells := 1200130, slots := 5501080, locals := 402 } : Room) s m args below meth c H locs cells slots Q (F0 m 378 ls []) := by
  have hT : T < 2 ^ 30 := by omega
  have hnw := hL0.1
  have hn6 := hL0.2.1
  have h8 := hL0.h8
  have hok := hL0.2.2.2.1
  have hBi : B i = B0 i := (hBB i hi).trans (tk_in hin)
  have hGi : G i = 0 := by rw [hG0]; exact arr_in hin
  have hc_now : E 92 = .inl (cI, 9, .inl (p_fact (B i))) := hc_now
  refine lv_aload hx hb dL_law_378 (lv_at hl 6 rfl) ?_
  refine lv_iload hx hb dL_law_380 (lv_at hl 11 rfl) ?_
  have hw80 : E 80 = .inl (cJ, n, .inr (.inr (.inr (.inr (row_at ad 81 n))))) := hW.1
  refine f_aldA hx hb hG.1 hI rfl (hWm 80 (by omega)) hw80 (vp_in_nI (by omega) (by omega)) (v := .ref (ad (81 + i))) (by rw [show (nI i).toNatClampNeg = i from nI_clamp (by omega)]; exact row_at_at (by omega)) dL_law_382 ?_
  refine lv_iconst (v := 5) hx hb dL_law_383 (by decide) ?_
  have hw_i : E (81 + i) = .inl (cI, 9, .inl (p_fact (B0 i))) := hW.2.1 i (by omega)
  refine f_iald hx hb hG.1 hI rfl (hWm _ (by omega)) hw_i (vp_in_iff.mpr ⟨by decide, by decide⟩) dL_law_384 ?_
  refine lv_topi (fun tv etv => ?_)
  have etv : tv = (p_fact (B0 i) 5) := etv
  subst etv
  refine lv_iconst (v := 1) hx hb dL_law_385 (by decide) ?_
  refine lv_icmp_ne (tgt := 433) hx hb dL_law_386 (by decide) (fun c_386 => ?_) (fun c_386 => ?_)
  · exact absurd (show p_fact (B0 i) 5 = 1 from if_neg hin) c_386
  · refine lv_iconst (v := 0) hx hb dL_law_389 (by decide) ?_
    refine lv_istore (lv' := [(20, .int 0), (0, .ref t0), (1, .ref (ad 0)), (2, .ref (ad 50)), (3, .int (nI time)), (4, .int xv), (5, .int (nI n)), (6, .ref (ad 80)), (7, .ref (ad 90)), (11, .int (nI T0)), (14, .int (p_ones B n i)), (15, .int (p_psum B (i + 1))), (16, .int (nI i)), (17, .ref (ad 92)), (18, .int (B i 2)), (19, .int (p_fact (B i) 0 - p_fact (B0 i) 0))]) hx hb dL_law_390 hl (by decide) rfl (fun ls hl => ?_)
    have Kih : ∀ (dv v : Nat), 0 ≤ v → v ≤ 9 → 9 + 1 ≤ v + dv → ∀ (H : Heap) (locs : List Loc) (ls : Array Slot), fI D (fA z) s.heap ad L E H locs → lv_has ls 23 [(20, .int (nI v)), (0, .ref t0), (1, .ref (ad 0)), (2, .ref (ad 50)), (3, .int (nI time)), (4, .int xv), (5, .int (nI n)), (6, .ref (ad 80)), (7, .ref (ad 90)), (11, .int (nI T0)), (14, .int (p_ones B n i)), (15, .int (p_psum B (i + 1))), (16, .int (nI i)), (17, .ref (ad 92)), (18, .int (B i 2)), (19, .int (p_fact (B i) 0 - p_fact (B0 i) 0))] → W pr l e ({ frames := 11, cells := 1200130, slots := 5501080, locals := 402 } : Room) s m args below meth c H locs cells slots Q (F0 m 392 ls []) := by
      intro dv
      induction dv with
      | zero => intro v h0 h1 h2; exact absurd h2 (by omega)
      | succ dv ih =>
        intro v hi0v hi1v hi2v  H locs ls  hI hl
        refine lv_iload hx hb dL_law_392 (lv_at hl 0 rfl) ?_
        refine lv_bipush (v := 9) hx hb dL_law_394 (by decide) ?_
        refine lv_icmp_ge (tgt := 423) hx hb dL_law_396 (by decide) (fun c_396 => ?_) (fun c_396 => ?_)
        · have n_396 := i_nlt.mpr c_396
          have hv0 : v = 9 := by have := (nI_leI (by omega) (by omega) (a := 9)).mp c_396; omega
          refine lv_aload hx hb dL_law_423 (lv_at hl 8 rfl) ?_
          refine lv_iload hx hb dL_law_425 (lv_at hl 12 rfl) ?_
          have hw90 : E 90 = .inl (cI, n, .inl G) := hW.2.2
          refine f_iald hx hb hG.1 hI rfl (hWm 90 (by omega)) hw90 (vp_in_nI (by omega) (by omega)) dL_law_427 ?_
          rw [show (nI i).toNatClampNeg = i from nI_clamp (by omega)]
          refine lv_if_eq (tgt := 862) hx hb dL_law_428 (by decide) (fun c_428 => ?_) (fun c_428 => ?_)
          · exact kk E H locs ls _ _ (by omega) (by omega) hX hS hW hc_now hI (lv_sub hl [1, 2, 3, 4, 5, 6, 7, 8, 9, 10, 11, 12, 13] rfl)
          · exact absurd hGi c_428
        · have n_396 := c_396
          have c_396 := i_nle.mp n_396
          have hv0 : v < 9 := (nI_ltI (by omega) (by omega) (b := 9)).mp c_396
          have hcl : (nI v).toNatClampNeg = v := nI_clamp (by omega)
          refine lv_aload hx hb dL_law_399 (lv_at hl 13 rfl) ?_
          refine lv_iload hx hb dL_law_401 (lv_at hl 0 rfl) ?_
          refine f_iald hx hb hG.1 hI rfl hnm hc_now (vp_in_nI (by omega) (by omega)) dL_law_403 ?_
          rw [show (nI v).toNatClampNeg = v from nI_clamp (by omega)]
          refine lv_aload hx hb dL_law_404 (lv_at hl 7 rfl) ?_
          refine lv_iload hx hb dL_law_406 (lv_at hl 12 rfl) ?_
          have hw80 : E 80 = .inl (cJ, n, .inr (.inr (.inr (.inr (row_at ad 81 n))))) := hW.1
          refine f_aldA hx hb hG.1 hI rfl (hWm 80 (by omega)) hw80 (vp_in_nI (by omega) (by omega)) (v := .ref (ad (81 + i))) (by rw [show (nI i).toNatClampNeg = i from nI_clamp (by omega)]; exact row_at_at (by omega)) dL_law_408 ?_
          refine lv_iload hx hb dL_law_409 (lv_at hl 0 rfl) ?_
          have hw_i : E (81 + i) = .inl (cI, 9, .inl (p_fact (B0 i))) := hW.2.1 i (by omega)
          refine f_iald hx hb hG.1 hI rfl (hWm _ (by omega)) hw_i (vp_in_nI (by omega) (by omega)) dL_law_411 ?_
          rw [show (nI v).toNatClampNeg = v from nI_clamp (by omega)]
          refine lv_icmp_eq (tgt := 417) hx hb dL_law_412 (by decide) (fun c_412 => ?_) (fun c_412 => ?_)
          · refine lv_iinc (v := (nI (v + 1))) (lv' := [(20, .int (nI (v + 1))), (0, .ref t0), (1, .ref (ad 0)), (2, .ref (ad 50)), (3, .int (nI time)), (4, .int xv), (5, .int (nI n)), (6, .ref (ad 80)), (7, .ref (ad 90)), (11, .int (nI T0)), (14, .int (p_ones B n i)), (15, .int (p_psum B (i + 1))), (16, .int (nI i)), (17, .ref (ad 92)), (18, .int (B i 2)), (19, .int (p_fact (B i) 0 - p_fact (B0 i) 0))]) hx hb dL_law_417 hl (k := 0) rfl (nI_1 v) (by decide) rfl (fun ls hl => ?_)
            refine lv_goto (tgt := 392) hx hb dL_law_420 (by decide) ?_
            exact ih (v + 1) (by omega) (by omega) (by omega) H locs ls   hI (lv_sub hl [0, 1, 2, 3, 4, 5, 6, 7, 8, 9, 10, 11, 12, 13, 14, 15] rfl)
          · exact absurd (congrFun (congrArg p_fact hBi) v) c_412
    exact Kih (9 + 1) 0 (by omega) (by omega) (by omega) H locs ls   hI (lv_sub hl [0, 1, 2, 3, 4, 5, 6, 7, 8, 9, 10, 11, 12, 13, 14, 15] rfl)

set_option maxHeartbeats 4000000 in
set_option maxRecDepth 100000 in
theorem law_Go1 (l : Launch) {pr : Program} {e : Env} {s : State} {m : MethodId} {args : Array Value} {below : List Frame} {meth : Method} {c : Code} {Q : State → Prop} (hx : pr.tables.exec = Jvm.exec) (hb : c.code = cL_law) (hml : c.maxLocals = 23) (hts : ∀ w ∈ wsL_law, w.before args s = true) (hown : s.vm.findClass RL = some m.cls) {D : va_G} {cI cJ cB : ClassId} {t0 z : Nat} {tx ad : Nat → Nat} {L : List Nat} (hG : fG D cI cJ cB t0 z tx s) {cells slots : Nat} {E : Nat → va_E} {H : Heap} {locs : List Loc} {ls : Array Slot} (hl9 : l.stackTraces = false) {w p g : Nat → Int32} {nw n T T0 : Nat} {B F B0 : Nat → Nat → Int32} {G : Nat → Int32} (hL0 : okL w p g nw n T B) (hOld : okL w p g nw n T0 B0) (hTT : T = T0 + 1) (hBB : ∀ i, i < n → B i = p_tick w p g nw (nI T0) (F i) (B0 i)) (hG0 : G = fun i => p_arr w p g nw T0 (F i) (B0 i) 0 401) (hT : T < 2 ^ 20) (hXm : ∀ k, k < 5 ∨ (10 ≤ k ∧ k < 24) ∨ (30 ≤ k ∧ k < 44) → k ∈ L) (hSm : ∀ k, (50 ≤ k ∧ k < 55) ∨ (60 ≤ k ∧ k < 60 + n) ∨ (70 ≤ k ∧ k < 70 + n) → k ∈ L) (hX : x_at cI cB ad E w p g nw n T B F) (hS : s_at cI cJ ad E w p g nw n T B F) (hWm : ∀ k, (80 ≤ k ∧ k < 81 + n) ∨ k = 90 → k ∈ L) (hW : w_at cI cJ ad E n B0 G) (hnm : 92 ∈ L) {i : Nat} (hi : i < n) (hc_now : E 92 = .inl (cI, 9, .inl (p_fact (B i)))) (h0 : B0 i 8 = 0) {time : Nat} {xv : Int32} (ht : time < 70) (hc : cells ≤ 100000) (hs : slots ≤ 500000) (hI : fI D (fA z) s.heap ad L E H locs) (hl : lv_has ls 23 [(0, .ref t0), (1, .ref (ad 0)), (2, .ref (ad 50)), (3, .int (nI time)), (4, .int xv), (5, .int (nI n)), (6, .ref (ad 80)), (7, .ref (ad 90)), (11, .int (nI T0)), (14, .int (p_ones B n i)), (15, .int (p_psum B (i + 1))), (16, .int (nI i)), (17, .ref (ad 92)), (18, .int (B i 2)), (19, .int (p_fact (B i) 0 - p_fact (B0 i) 0))]) (kk : ∀ (E1 : Nat → va_E) (H1 : Heap) (locs1 : List Loc) (ls1 : Array Slot) (c1 s1 : Nat), c1 ≤ cells + 16 → s1 ≤ slots + 96 → x_at cI cB ad E1 w p g nw n T B F → s_at cI cJ ad E1 w p g nw n T B F → w_at cI cJ ad E1 n B0 G → E1 92 = .inl (cI, 9, .inl (p_fact (B i))) → fI D (fA z) s.heap ad L E1 H1 locs1 → lv_has ls1 23 [(0, .ref t0), (1, .ref (ad 0)), (2, .ref (ad 50)), (3, .int (nI time)), (4, .int xv), (5, .int (nI n)), (6, .ref (ad 80)), (7, .ref (ad 90)), (11, .int (nI T0)), (14, .int (p_ones B n i)), (15, .int (p_psum B (i + 1))), (16, .int (nI i)), (17, .ref (ad 92))] → W pr l e ({ frames := 11, cells := 1200130, slots := 5501080, locals := 402 } : Room) s m args below meth c H1 locs1 c1 s1 Q (F0 m 556 ls1 [])) : W pr l e ({ frames := 11, cells := 1200130, slots := 5501080, locals := 402 } : Room) s m args below meth c H locs cells slots Q (F0 m 378 ls []) := by
  have hT : T < 2 ^ 30 := by omega
  have hnw := hL0.1
  have hn6 := hL0.2.1
  have h8 := hL0.h8
  have hok := hL0.2.2.2.1
  have hOk := hOld.2.2.2.1
  have htl : tlaw p g nw T0 (B0 i) (B i) := by rw [hBB i hi]; exact tk_law hL0.2.2.1 (hOk i hi).1 h0
  have hc_now : E 92 = .inl (cI, 9, .inl (p_fact (B i))) := hc_now
  refine lv_aload hx hb dL_law_378 (lv_at hl 6 rfl) ?_
  refine lv_iload hx hb dL_law_380 (lv_at hl 11 rfl) ?_
  have hw80 : E 80 = .inl (cJ, n, .inr (.inr (.inr (.inr (row_at ad 81 n))))) := hW.1
  refine f_aldA hx hb hG.1 hI rfl (hWm 80 (by omega)) hw80 (vp_in_nI (by omega) (by omega)) (v := .ref (ad (81 + i))) (by rw [show (nI i).toNatClampNeg = i from nI_clamp (by omega)]; exact row_at_at (by omega)) dL_law_382 ?_
  refine lv_iconst (v := 5) hx hb dL_law_383 (by decide) ?_
  have hw_i : E (81 + i) = .inl (cI, 9, .inl (p_fact (B0 i))) := hW.2.1 i (by omega)
  refine f_iald hx hb hG.1 hI rfl (hWm _ (by omega)) hw_i (vp_in_iff.mpr ⟨by decide, by decide⟩) dL_law_384 ?_
  refine lv_topi (fun tv etv => ?_)
  have etv : tv = (p_fact (B0 i) 5) := etv
  subst etv
  refine lv_iconst (v := 1) hx hb dL_law_385 (by decide) ?_
  refine lv_icmp_ne (tgt := 433) hx hb dL_law_386 (by decide) (fun c_386 => ?_) (fun c_386 => ?_)
  · refine lv_iload hx hb dL_law_433 (lv_at hl 14 rfl) ?_
    refine lv_if_lt (tgt := 682) hx hb dL_law_435 (by decide) (fun c_435 => ?_) (fun c_435 => ?_)
    · exact absurd c_435 (tl_goes htl)
    · have n_435 := c_435
      have c_435 := i_nlt.mp n_435
      refine lv_iload hx hb dL_law_438 (lv_at hl 14 rfl) ?_
      refine lv_iload hx hb dL_law_440 (lv_at hl 13 rfl) ?_
      refine lv_bipush (v := 6) hx hb dL_law_442 (by decide) ?_
      refine lv_iadd hx hb dL_law_444 ?_
      refine lv_icmp_gt (tgt := 682) hx hb dL_law_445 (by decide) (fun c_445 => ?_) (fun c_445 => ?_)
      · exact absurd c_445 (tl_far htl)
      · have n_445 := c_445
        have c_445 := i_nlt.mp n_445
        refine lv_aload hx hb dL_law_448 (lv_at hl 12 rfl) ?_
        refine lv_iconst (v := 0) hx hb dL_law_450 (by decide) ?_
        refine f_iald hx hb hG.1 hI rfl hnm hc_now (vp_in_iff.mpr ⟨by decide, by decide⟩) dL_law_451 ?_
        refine lv_topi (fun tv etv => ?_)
        have etv : tv = (p_fact (B i) 0) := etv
        subst etv
        refine lv_sipush (v := 200) hx hb dL_law_452 (by decide) ?_
        refine lv_icmp_gt (tgt := 682) hx hb dL_law_455 (by decide) (fun c_455 => ?_) (fun c_455 => ?_)
        · exact absurd c_455 (tl_200 (hok i hi).1)
        · have n_455 := c_455
          have c_455 := i_nlt.mp n_455
          refine lv_aload hx hb dL_law_458 (lv_at hl 12 rfl) ?_
          refine lv_iconst (v := 1) hx hb dL_law_460 (by decide) ?_
          refine f_iald hx hb hG.1 hI rfl hnm hc_now (vp_in_iff.mpr ⟨by decide, by decide⟩) dL_law_461 ?_
          refine lv_topi (fun tv etv => ?_)
          have etv : tv = (p_fact (B i) 1) := etv
          subst etv
          refine lv_aload hx hb dL_law_462 (lv_at hl 6 rfl) ?_
          refine lv_iload hx hb dL_law_464 (lv_at hl 11 rfl) ?_
          refine f_aldA hx hb hG.1 hI rfl (hWm 80 (by omega)) hw80 (vp_in_nI (by omega) (by omega)) (v := .ref (ad (81 + i))) (by rw [show (nI i).toNatClampNeg = i from nI_clamp (by omega)]; exact row_at_at (by omega)) dL_law_466 ?_
          refine lv_iconst (v := 1) hx hb dL_law_467 (by decide) ?_
          refine f_iald hx hb hG.1 hI rfl (hWm _ (by omega)) hw_i (vp_in_iff.mpr ⟨by decide, by decide⟩) dL_law_468 ?_
          refine lv_topi (fun tv etv => ?_)
          have etv : tv = (p_fact (B0 i) 1) := etv
          subst etv
          refine lv_isub hx hb dL_law_469 ?_
          refine va_mabs hx hb (hml.trans hl.1.symm) hown (hts (.methodLink RL 97 Lib.Math.abs.name) (by decide +kernel)) (hts (.static Lib.Math.abs.name) (by decide +kernel)) (hts (.initialized "java/lang/Math") (by decide +kernel)) (hts (.code Lib.Math.abs.name Lib.Math.abs.code 1 (some .int)) (by decide +kernel)) (by exact Nat.le_of_ble_eq_true rfl) (by exact Nat.le_of_ble_eq_true rfl) (by show _ ≤ 1200130; omega) (by show _ ≤ 5501080; omega) dL_law_470 ?_
          refine lv_iconst (v := 1) hx hb dL_law_473 (by decide) ?_
          refine lv_icmp_gt (tgt := 682) hx hb dL_law_474 (by decide) (fun c_474 => ?_) (fun c_474 => ?_)
          · exact absurd c_474 (tl_lane htl (hOk i hi).1)
          · have n_474 := c_474
            have c_474 := i_nlt.mp n_474
            refine lv_aload hx hb dL_law_477 (lv_at hl 12 rfl) ?_
            refine lv_iconst (v := 1) hx hb dL_law_479 (by decide) ?_
            refine f_iald hx hb hG.1 hI rfl hnm hc_now (vp_in_iff.mpr ⟨by decide, by decide⟩) dL_law_480 ?_
            refine lv_topi (fun tv etv => ?_)
            have etv : tv = (p_fact (B i) 1) := etv
            subst etv
            refine lv_if_lt (tgt := 682) hx hb dL_law_481 (by decide) (fun c_481 => ?_) (fun c_481 => ?_)
            · exact absurd c_481 (tl_lane0 (hok i hi).1)
            · have n_481 := c_481
              have c_481 := i_nlt.mp n_481
              refine lv_aload hx hb dL_law_484 (lv_at hl 12 rfl) ?_
              refine lv_iconst (v := 1) hx hb dL_law_486 (by decide) ?_
              refine f_iald hx hb hG.1 hI rfl hnm hc_now (vp_in_iff.mpr ⟨by decide, by decide⟩) dL_law_487 ?_
              refine lv_topi (fun tv etv => ?_)
              have etv : tv = (p_fact (B i) 1) := etv
              subst etv
              refine lv_iconst (v := 4) hx hb dL_law_488 (by decide) ?_
              refine lv_icmp_gt (tgt := 682) hx hb dL_law_489 (by decide) (fun c_489 => ?_) (fun c_489 => ?_)
              · exact absurd c_489 (tl_lane4 (hok i hi).1)
              · have n_489 := c_489
                have c_489 := i_nlt.mp n_489
                refine lv_aload hx hb dL_law_492 (lv_at hl 12 rfl) ?_
                refine lv_iconst (v := 2) hx hb dL_law_494 (by decide) ?_
                refine f_iald hx hb hG.1 hI rfl hnm hc_now (vp_in_iff.mpr ⟨by decide, by decide⟩) dL_law_495 ?_
                refine lv_topi (fun tv etv => ?_)
                have etv : tv = (p_fact (B i) 2) := etv
                subst etv
                refine va_mabs hx hb (hml.trans hl.1.symm) hown (hts (.methodLink RL 97 Lib.Math.abs.name) (by decide +kernel)) (hts (.static Lib.Math.abs.name) (by decide +kernel)) (hts (.initialized "java/lang/Math") (by decide +kernel)) (hts (.code Lib.Math.abs.name Lib.Math.abs.code 1 (some .int)) (by decide +kernel)) (by exact Nat.le_of_ble_eq_true rfl) (by exact Nat.le_of_ble_eq_true rfl) (by show _ ≤ 1200130; omega) (by show _ ≤ 5501080; omega) dL_law_496 ?_
                refine lv_iconst (v := 4) hx hb dL_law_499 (by decide) ?_
                refine lv_icmp_gt (tgt := 682) hx hb dL_law_500 (by decide) (fun c_500 => ?_) (fun c_500 => ?_)
                · exact absurd c_500 (tl_head (hok i hi).1)
                · have n_500 := c_500
                  have c_500 := i_nlt.mp n_500
                  refine lv_aload hx hb dL_law_503 (lv_at hl 12 rfl) ?_
                  refine lv_iconst (v := 3) hx hb dL_law_505 (by decide) ?_
                  refine f_iald hx hb hG.1 hI rfl hnm hc_now (vp_in_iff.mpr ⟨by decide, by decide⟩) dL_law_506 ?_
                  refine lv_topi (fun tv etv => ?_)
                  have etv : tv = (p_fact (B i) 3) := etv
                  subst etv
                  refine lv_aload hx hb dL_law_507 (lv_at hl 6 rfl) ?_
                  refine lv_iload hx hb dL_law_509 (lv_at hl 11 rfl) ?_
                  refine f_aldA hx hb hG.1 hI rfl (hWm 80 (by omega)) hw80 (vp_in_nI (by omega) (by omega)) (v := .ref (ad (81 + i))) (by rw [show (nI i).toNatClampNeg = i from nI_clamp (by omega)]; exact row_at_at (by omega)) dL_law_511 ?_
                  refine lv_iconst (v := 3) hx hb dL_law_512 (by decide) ?_
                  refine f_iald hx hb hG.1 hI rfl (hWm _ (by omega)) hw_i (vp_in_iff.mpr ⟨by decide, by decide⟩) dL_law_513 ?_
                  refine lv_topi (fun tv etv => ?_)
                  have etv : tv = (p_fact (B0 i) 3) := etv
                  subst etv
                  refine lv_icmp_lt (tgt := 682) hx hb dL_law_514 (by decide) (fun c_514 => ?_) (fun c_514 => ?_)
                  · exact absurd c_514 (tl_soak htl)
                  · have n_514 := c_514
                    have c_514 := i_nlt.mp n_514
                    refine lv_aload hx hb dL_law_517 (lv_at hl 12 rfl) ?_
                    refine lv_iconst (v := 3) hx hb dL_law_519 (by decide) ?_
                    refine f_iald hx hb hG.1 hI rfl hnm hc_now (vp_in_iff.mpr ⟨by decide, by decide⟩) dL_law_520 ?_
                    refine lv_topi (fun tv etv => ?_)
                    have etv : tv = (p_fact (B i) 3) := etv
                    subst etv
                    refine lv_bipush (v := 30) hx hb dL_law_521 (by decide) ?_
                    refine lv_icmp_gt (tgt := 682) hx hb dL_law_523 (by decide) (fun c_523 => ?_) (fun c_523 => ?_)
                    · exact absurd c_523 (tl_30 (hok i hi).1)
                    · have n_523 := c_523
                      have c_523 := i_nlt.mp n_523
                      refine lv_aload hx hb dL_law_526 (lv_at hl 12 rfl) ?_
                      refine lv_iconst (v := 4) hx hb dL_law_528 (by decide) ?_
                      refine f_iald hx hb hG.1 hI rfl hnm hc_now (vp_in_iff.mpr ⟨by decide, by decide⟩) dL_law_529 ?_
                      refine lv_topi (fun tv etv => ?_)
                      have etv : tv = (p_fact (B i) 4) := etv
                      subst etv
                      refine lv_aload hx hb dL_law_530 (lv_at hl 6 rfl) ?_
                      refine lv_iload hx hb dL_law_532 (lv_at hl 11 rfl) ?_
                      refine f_aldA hx hb hG.1 hI rfl (hWm 80 (by omega)) hw80 (vp_in_nI (by omega) (by omega)) (v := .ref (ad (81 + i))) (by rw [show (nI i).toNatClampNeg = i from nI_clamp (by omega)]; exact row_at_at (by omega)) dL_law_534 ?_
                      refine lv_iconst (v := 4) hx hb dL_law_535 (by decide) ?_
                      refine f_iald hx hb hG.1 hI rfl (hWm _ (by omega)) hw_i (vp_in_iff.mpr ⟨by decide, by decide⟩) dL_law_536 ?_
                      refine lv_topi (fun tv etv => ?_)
                      have etv : tv = (p_fact (B0 i) 4) := etv
                      subst etv
                      refine lv_icmp_eq (tgt := 556) hx hb dL_law_537 (by decide) (fun c_537 => ?_) (fun c_537 => ?_)
                      · exact kk E H locs ls _ _ (by omega) (by omega) hX hS hW hc_now hI (lv_sub hl [0, 1, 2, 3, 4, 5, 6, 7, 8, 9, 10, 11, 12] rfl)
                      · refine lv_aload hx hb dL_law_540 (lv_at hl 12 rfl) ?_
                        refine lv_iconst (v := 4) hx hb dL_law_542 (by decide) ?_
                        refine f_iald hx hb hG.1 hI rfl hnm hc_now (vp_in_iff.mpr ⟨by decide, by decide⟩) dL_law_543 ?_
                        refine lv_topi (fun tv etv => ?_)
                        have etv : tv = (p_fact (B i) 4) := etv
                        subst etv
                        refine lv_aload hx hb dL_law_544 (lv_at hl 6 rfl) ?_
                        refine lv_iload hx hb dL_law_546 (lv_at hl 11 rfl) ?_
                        refine f_aldA hx hb hG.1 hI rfl (hWm 80 (by omega)) hw80 (vp_in_nI (by omega) (by omega)) (v := .ref (ad (81 + i))) (by rw [show (nI i).toNatClampNeg = i from nI_clamp (by omega)]; exact row_at_at (by omega)) dL_law_548 ?_
                        refine lv_iconst (v := 4) hx hb dL_law_549 (by decide) ?_
                        refine f_iald hx hb hG.1 hI rfl (hWm _ (by omega)) hw_i (vp_in_iff.mpr ⟨by decide, by decide⟩) dL_law_550 ?_
                        refine lv_topi (fun tv etv => ?_)
                        have etv : tv = (p_fact (B0 i) 4) := etv
                        subst etv
                        refine lv_iconst (v := 3) hx hb dL_law_551 (by decide) ?_
                        refine lv_iadd hx hb dL_law_552 ?_
                        refine lv_icmp_ne (tgt := 682) hx hb dL_law_553 (by decide) (fun c_553 => ?_) (fun c_553 => ?_)
                        · exact (c_553 (tl_foul htl c_537)).elim
                        · exact kk E H locs ls _ _ (by omega) (by omega) hX hS hW hc_now hI (lv_sub hl [0, 1, 2, 3, 4, 5, 6, 7, 8, 9, 10, 11, 12] rfl)
  · exact absurd ((show p_fact (B0 i) 5 = 0 from if_pos h0).symm.trans c_386) (by decide)

set_option maxHeartbeats 4000000 in
set_option maxRecDepth 100000 in
theorem law_Go2 (l : Launch) {pr : Program} {e : Env} {s : State} {m : MethodId} {args : Array Value} {below : List Frame} {meth : Method} {c : Code} {Q : State → Prop} (hx : pr.tables.exec = Jvm.exec) (hb : c.code = cL_law) (hml : c.maxLocals = 23) (hts : ∀ w ∈ wsL_law, w.before args s = true) (hown : s.vm.findClass RL = some m.cls) {D : va_G} {cI cJ cB : ClassId} {t0 z : Nat} {tx ad : Nat → Nat} {L : List Nat} (hG : fG D cI cJ cB t0 z tx s) {cells slots : Nat} {E : Nat → va_E} {H : Heap} {locs : List Loc} {ls : Array Slot} (hl9 : l.stackTraces = false) {w p g : Nat → Int32} {nw n T T0 : Nat} {B F B0 : Nat → Nat → Int32} {G : Nat → Int32} (hL0 : okL w p g nw n T B) (hOld : okL w p g nw n T0 B0) (hTT : T = T0 + 1) (hBB : ∀ i, i < n → B i = p_tick w p g nw (nI T0) (F i) (B0 i)) (hG0 : G = fun i => p_arr w p g nw T0 (F i) (B0 i) 0 401) (hT : T < 2 ^ 20) (hXm : ∀ k, k < 5 ∨ (10 ≤ k ∧ k < 24) ∨ (30 ≤ k ∧ k < 44) → k ∈ L) (hSm : ∀ k, (50 ≤ k ∧ k < 55) ∨ (60 ≤ k ∧ k < 60 + n) ∨ (70 ≤ k ∧ k < 70 + n) → k ∈ L) (hX : x_at cI cB ad E w p g nw n T B F) (hS : s_at cI cJ ad E w p g nw n T B F) (hWm : ∀ k, (80 ≤ k ∧ k < 81 + n) ∨ k = 90 → k ∈ L) (hW : w_at cI cJ ad E n B0 G) (hnm : 92 ∈ L) {i : Nat} (hi : i < n) (hc_now : E 92 = .inl (cI, 9, .inl (p_fact (B i)))) (h0 : B0 i 8 = 0) {time : Nat} {xv : Int32} (ht : time < 70) (hc : cells ≤ 100000) (hs : slots ≤ 500000) (hI : fI D (fA z) s.heap ad L E H locs) (hl : lv_has ls 23 [(0, .ref t0), (1, .ref (ad 0)), (2, .ref (ad 50)), (3, .int (nI time)), (4, .int xv), (5, .int (nI n)), (6, .ref (ad 80)), (7, .ref (ad 90)), (11, .int (nI T0)), (14, .int (p_ones B n i)), (15, .int (p_psum B (i + 1))), (16, .int (nI i)), (17, .ref (ad 92))]) (kk : ∀ (E1 : Nat → va_E) (H1 : Heap) (locs1 : List Loc) (ls1 : Array Slot) (c1 s1 : Nat), c1 ≤ cells + 16 → s1 ≤ slots + 96 → x_at cI cB ad E1 w p g nw n T B F → s_at cI cJ ad E1 w p g nw n T B F → w_at cI cJ ad E1 n B0 G → E1 92 = .inl (cI, 9, .inl (p_fact (B i))) → fI D (fA z) s.heap ad L E1 H1 locs1 → lv_has ls1 23 [(0, .ref t0), (1, .ref (ad 0)), (2, .ref (ad 50)), (3, .int (nI time)), (4, .int xv), (5, .int (nI n)), (6, .ref (ad 80)), (7, .ref (ad 90)), (11, .int (nI T0)), (14, .int (p_ones B n i)), (15, .int (p_psum B (i + 1))), (16, .int (nI i)), (17, .ref (ad 92))] → W pr l e ({ frames := 11, cells := 1200130, slots := 5501080, locals := 402 } : Room) s m args below meth c H1 locs1 c1 s1 Q (F0 m 684 ls1 [])) : W pr l e ({ frames := 11, cells := 1200130, slots := 5501080, locals := 402 } : Room) s m args below meth c H locs cells slots Q (F0 m 556 ls []) := by
  have hT : T < 2 ^ 30 := by omega
  have hnw := hL0.1
  have hn6 := hL0.2.1
  have h8 := hL0.h8
  have hok := hL0.2.2.2.1
  have hOk := hOld.2.2.2.1
  have htl : tlaw p g nw T0 (B0 i) (B i) := by rw [hBB i hi]; exact tk_law hL0.2.2.1 (hOk i hi).1 h0
  have hG1 : G i = 1 ↔ ¬ B i 8 = 0 := by rw [hG0, hBB i hi]; exact arr_1 h0
  have hc_now : E 92 = .inl (cI, 9, .inl (p_fact (B i))) := hc_now
  rcases tl_in htl with ⟨hc8, hc3⟩ | ⟨hc8, hc3, hc9⟩
  · have hc6 : p_fact (B i) 6 = -1 := if_pos hc8
    refine lv_aload hx hb dL_law_556 (lv_at hl 12 rfl) ?_
    refine lv_iconst (v := 5) hx hb dL_law_558 (by decide) ?_
    refine f_iald hx hb hG.1 hI rfl hnm hc_now (vp_in_iff.mpr ⟨by decide, by decide⟩) dL_law_559 ?_
    refine lv_topi (fun tv etv => ?_)
    have etv : tv = (p_fact (B i) 5) := etv
    subst etv
    refine lv_iconst (v := 1) hx hb dL_law_560 (by decide) ?_
    refine lv_icmp_ne (tgt := 568) hx hb dL_law_561 (by decide) (fun c_561 => ?_) (fun c_561 => ?_)
    · refine lv_iconst (v := 0) hx hb dL_law_568 (by decide) ?_
      refine lv_aload hx hb dL_law_569 (lv_at hl 12 rfl) ?_
      refine lv_iconst (v := 0) hx hb dL_law_571 (by decide) ?_
      refine f_iald hx hb hG.1 hI rfl hnm hc_now (vp_in_iff.mpr ⟨by decide, by decide⟩) dL_law_572 ?_
      refine lv_topi (fun tv etv => ?_)
      have etv : tv = (p_fact (B i) 0) := etv
      subst etv
      refine lv_sipush (v := 200) hx hb dL_law_573 (by decide) ?_
      refine lv_icmp_ne (tgt := 583) hx hb dL_law_576 (by decide) (fun c_576 => ?_) (fun c_576 => ?_)
      · refine lv_iconst (v := 0) hx hb dL_law_583 (by decide) ?_
        refine lv_icmp_ne (tgt := 682) hx hb dL_law_584 (by decide) (fun c_584 => ?_) (fun c_584 => ?_)
        · exact absurd c_584 (by decide)
        · refine lv_aload hx hb dL_law_587 (lv_at hl 12 rfl) ?_
          refine lv_iconst (v := 5) hx hb dL_law_589 (by decide) ?_
          refine f_iald hx hb hG.1 hI rfl hnm hc_now (vp_in_iff.mpr ⟨by decide, by decide⟩) dL_law_590 ?_
          refine lv_topi (fun tv etv => ?_)
          have etv : tv = (p_fact (B i) 5) := etv
          subst etv
          refine lv_iconst (v := 1) hx hb dL_law_591 (by decide) ?_
          refine lv_icmp_ne (tgt := 599) hx hb dL_law_592 (by decide) (fun c_592 => ?_) (fun c_592 => ?_)
          · refine lv_iconst (v := 0) hx hb dL_law_599 (by decide) ?_
            refine lv_aload hx hb dL_law_600 (lv_at hl 7 rfl) ?_
            refine lv_iload hx hb dL_law_602 (lv_at hl 11 rfl) ?_
            have hw90 : E 90 = .inl (cI, n, .inl G) := hW.2.2
            refine f_iald hx hb hG.1 hI rfl (hWm 90 (by omega)) hw90 (vp_in_nI (by omega) (by omega)) dL_law_604 ?_
            rw [show (nI i).toNatClampNeg = i from nI_clamp (by omega)]
            refine lv_iconst (v := 1) hx hb dL_law_605 (by decide) ?_
            refine lv_icmp_ne (tgt := 613) hx hb dL_law_606 (by decide) (fun c_606 => ?_) (fun c_606 => ?_)
            · refine lv_iconst (v := 0) hx hb dL_law_613 (by decide) ?_
              refine lv_icmp_ne (tgt := 682) hx hb dL_law_614 (by decide) (fun c_614 => ?_) (fun c_614 => ?_)
              · exact absurd c_614 (by decide)
              · refine lv_aload hx hb dL_law_617 (lv_at hl 12 rfl) ?_
                refine lv_bipush (v := 6) hx hb dL_law_619 (by decide) ?_
                refine f_iald hx hb hG.1 hI rfl hnm hc_now (vp_in_iff.mpr ⟨by decide, by decide⟩) dL_law_621 ?_
                refine lv_topi (fun tv etv => ?_)
                have etv : tv = (p_fact (B i) 6) := etv
                subst etv
                refine lv_aload hx hb dL_law_622 (lv_at hl 12 rfl) ?_
                refine lv_iconst (v := 5) hx hb dL_law_624 (by decide) ?_
                refine f_iald hx hb hG.1 hI rfl hnm hc_now (vp_in_iff.mpr ⟨by decide, by decide⟩) dL_law_625 ?_
                refine lv_topi (fun tv etv => ?_)
                have etv : tv = (p_fact (B i) 5) := etv
                subst etv
                refine lv_iconst (v := 1) hx hb dL_law_626 (by decide) ?_
                refine lv_icmp_ne (tgt := 642) hx hb dL_law_627 (by decide) (fun c_627 => ?_) (fun c_627 => ?_)
                · refine lv_iconst (v := -1) hx hb dL_law_642 (by decide) ?_
                  refine lv_icmp_ne (tgt := 682) hx hb dL_law_643 (by decide) (fun c_643 => ?_) (fun c_643 => ?_)
                  · exact absurd hc6 c_643
                  · refine lv_aload hx hb dL_law_646 (lv_at hl 12 rfl) ?_
                    refine lv_bipush (v := 7) hx hb dL_law_648 (by decide) ?_
                    refine f_iald hx hb hG.1 hI rfl hnm hc_now (vp_in_iff.mpr ⟨by decide, by decide⟩) dL_law_650 ?_
                    refine lv_topi (fun tv etv => ?_)
                    have etv : tv = (p_fact (B i) 7) := etv
                    subst etv
                    refine lv_aload hx hb dL_law_651 (lv_at hl 6 rfl) ?_
                    refine lv_iload hx hb dL_law_653 (lv_at hl 11 rfl) ?_
                    have hw80 : E 80 = .inl (cJ, n, .inr (.inr (.inr (.inr (row_at ad 81 n))))) := hW.1
                    refine f_aldA hx hb hG.1 hI rfl (hWm 80 (by omega)) hw80 (vp_in_nI (by omega) (by omega)) (v := .ref (ad (81 + i))) (by rw [show (nI i).toNatClampNeg = i from nI_clamp (by omega)]; exact row_at_at (by omega)) dL_law_655 ?_
                    refine lv_bipush (v := 7) hx hb dL_law_656 (by decide) ?_
                    have hw_i : E (81 + i) = .inl (cI, 9, .inl (p_fact (B0 i))) := hW.2.1 i (by omega)
                    refine f_iald hx hb hG.1 hI rfl (hWm _ (by omega)) hw_i (vp_in_iff.mpr ⟨by decide, by decide⟩) dL_law_658 ?_
                    refine lv_topi (fun tv etv => ?_)
                    have etv : tv = (p_fact (B0 i) 7) := etv
                    subst etv
                    refine lv_iconst (v := 1) hx hb dL_law_659 (by decide) ?_
                    refine lv_iadd hx hb dL_law_660 ?_
                    refine lv_icmp_gt (tgt := 682) hx hb dL_law_661 (by decide) (fun c_661 => ?_) (fun c_661 => ?_)
                    · exact absurd c_661 (tl_spin htl (hOk i hi) (by omega))
                    · have n_661 := c_661
                      have c_661 := i_nlt.mp n_661
                      refine lv_aload hx hb dL_law_664 (lv_at hl 12 rfl) ?_
                      refine lv_bipush (v := 8) hx hb dL_law_666 (by decide) ?_
                      refine f_iald hx hb hG.1 hI rfl hnm hc_now (vp_in_iff.mpr ⟨by decide, by decide⟩) dL_law_668 ?_
                      refine lv_topi (fun tv etv => ?_)
                      have etv : tv = (p_fact (B i) 8) := etv
                      subst etv
                      refine lv_aload hx hb dL_law_669 (lv_at hl 6 rfl) ?_
                      refine lv_iload hx hb dL_law_671 (lv_at hl 11 rfl) ?_
                      refine f_aldA hx hb hG.1 hI rfl (hWm 80 (by omega)) hw80 (vp_in_nI (by omega) (by omega)) (v := .ref (ad (81 + i))) (by rw [show (nI i).toNatClampNeg = i from nI_clamp (by omega)]; exact row_at_at (by omega)) dL_law_673 ?_
                      refine lv_bipush (v := 8) hx hb dL_law_674 (by decide) ?_
                      refine f_iald hx hb hG.1 hI rfl (hWm _ (by omega)) hw_i (vp_in_iff.mpr ⟨by decide, by decide⟩) dL_law_676 ?_
                      refine lv_topi (fun tv etv => ?_)
                      have etv : tv = (p_fact (B0 i) 8) := etv
                      subst etv
                      refine lv_iconst (v := 1) hx hb dL_law_677 (by decide) ?_
                      refine lv_iadd hx hb dL_law_678 ?_
                      refine lv_icmp_le (tgt := 684) hx hb dL_law_679 (by decide) (fun c_679 => ?_) (fun c_679 => ?_)
                      · have n_679 := i_nlt.mpr c_679
                        exact kk E H locs ls _ _ (by omega) (by omega) hX hS hW hc_now hI (lv_sub hl [0, 1, 2, 3, 4, 5, 6, 7, 8, 9, 10, 11, 12] rfl)
                      · exact absurd (tl_stop htl (hOk i hi) (by omega)) c_679
                · exact absurd ((show p_fact (B i) 5 = 0 from if_pos hc8).symm.trans c_627) (by decide)
            · exact absurd hc8 (hG1.mp c_606)
          · exact absurd ((show p_fact (B i) 5 = 0 from if_pos hc8).symm.trans c_592) (by decide)
      · exact absurd c_576 hc3
    · exact absurd ((show p_fact (B i) 5 = 0 from if_pos hc8).symm.trans c_561) (by decide)
  · have hc6 : p_fact (B i) 6 = nI T0 + 1 + p_fact (B i) 4 := by
      show p_time (B i) = nI T0 + 1 + B i 7
      unfold p_time
      rw [if_neg hc8, hc9]
    refine lv_aload hx hb dL_law_556 (lv_at hl 12 rfl) ?_
    refine lv_iconst (v := 5) hx hb dL_law_558 (by decide) ?_
    refine f_iald hx hb hG.1 hI rfl hnm hc_now (vp_in_iff.mpr ⟨by decide, by decide⟩) dL_law_559 ?_
    refine lv_topi (fun tv etv => ?_)
    have etv : tv = (p_fact (B i) 5) := etv
    subst etv
    refine lv_iconst (v := 1) hx hb dL_law_560 (by decide) ?_
    refine lv_icmp_ne (tgt := 568) hx hb dL_law_561 (by decide) (fun c_561 => ?_) (fun c_561 => ?_)
    · exact absurd (show p_fact (B i) 5 = 1 from if_neg hc8) c_561
    · refine lv_iconst (v := 1) hx hb dL_law_564 (by decide) ?_
      refine lv_goto (tgt := 569) hx hb dL_law_565 (by decide) ?_
      refine lv_aload hx hb dL_law_569 (lv_at hl 12 rfl) ?_
      refine lv_iconst (v := 0) hx hb dL_law_571 (by decide) ?_
      refine f_iald hx hb hG.1 hI rfl hnm hc_now (vp_in_iff.mpr ⟨by decide, by decide⟩) dL_law_572 ?_
      refine lv_topi (fun tv etv => ?_)
      have etv : tv = (p_fact (B i) 0) := etv
      subst etv
      refine lv_sipush (v := 200) hx hb dL_law_573 (by decide) ?_
      refine lv_icmp_ne (tgt := 583) hx hb dL_law_576 (by decide) (fun c_576 => ?_) (fun c_576 => ?_)
      · exact absurd hc3 c_576
      · refine lv_iconst (v := 1) hx hb dL_law_579 (by decide) ?_
        refine lv_goto (tgt := 584) hx hb dL_law_580 (by decide) ?_
        refine lv_icmp_ne (tgt := 682) hx hb dL_law_584 (by decide) (fun c_584 => ?_) (fun c_584 => ?_)
        · exact absurd c_584 (by decide)
        · refine lv_aload hx hb dL_law_587 (lv_at hl 12 rfl) ?_
          refine lv_iconst (v := 5) hx hb dL_law_589 (by decide) ?_
          refine f_iald hx hb hG.1 hI rfl hnm hc_now (vp_in_iff.mpr ⟨by decide, by decide⟩) dL_law_590 ?_
          refine lv_topi (fun tv etv => ?_)
          have etv : tv = (p_fact (B i) 5) := etv
          subst etv
          refine lv_iconst (v := 1) hx hb dL_law_591 (by decide) ?_
          refine lv_icmp_ne (tgt := 599) hx hb dL_law_592 (by decide) (fun c_592 => ?_) (fun c_592 => ?_)
          · exact absurd (show p_fact (B i) 5 = 1 from if_neg hc8) c_592
          · refine lv_iconst (v := 1) hx hb dL_law_595 (by decide) ?_
            refine lv_goto (tgt := 600) hx hb dL_law_596 (by decide) ?_
            refine lv_aload hx hb dL_law_600 (lv_at hl 7 rfl) ?_
            refine lv_iload hx hb dL_law_602 (lv_at hl 11 rfl) ?_
            have hw90 : E 90 = .inl (cI, n, .inl G) := hW.2.2
            refine f_iald hx hb hG.1 hI rfl (hWm 90 (by omega)) hw90 (vp_in_nI (by omega) (by omega)) dL_law_604 ?_
            rw [show (nI i).toNatClampNeg = i from nI_clamp (by omega)]
            refine lv_iconst (v := 1) hx hb dL_law_605 (by decide) ?_
            refine lv_icmp_ne (tgt := 613) hx hb dL_law_606 (by decide) (fun c_606 => ?_) (fun c_606 => ?_)
            · exact absurd (hG1.mpr hc8) c_606
            · refine lv_iconst (v := 1) hx hb dL_law_609 (by decide) ?_
              refine lv_goto (tgt := 614) hx hb dL_law_610 (by decide) ?_
              refine lv_icmp_ne (tgt := 682) hx hb dL_law_614 (by decide) (fun c_614 => ?_) (fun c_614 => ?_)
              · exact absurd c_614 (by decide)
              · refine lv_aload hx hb dL_law_617 (lv_at hl 12 rfl) ?_
                refine lv_bipush (v := 6) hx hb dL_law_619 (by decide) ?_
                refine f_iald hx hb hG.1 hI rfl hnm hc_now (vp_in_iff.mpr ⟨by decide, by decide⟩) dL_law_621 ?_
                refine lv_topi (fun tv etv => ?_)
                have etv : tv = (p_fact (B i) 6) := etv
                subst etv
                refine lv_aload hx hb dL_law_622 (lv_at hl 12 rfl) ?_
                refine lv_iconst (v := 5) hx hb dL_law_624 (by decide) ?_
                refine f_iald hx hb hG.1 hI rfl hnm hc_now (vp_in_iff.mpr ⟨by decide, by decide⟩) dL_law_625 ?_
                refine lv_topi (fun tv etv => ?_)
                have etv : tv = (p_fact (B i) 5) := etv
                subst etv
                refine lv_iconst (v := 1) hx hb dL_law_626 (by decide) ?_
                refine lv_icmp_ne (tgt := 642) hx hb dL_law_627 (by decide) (fun c_627 => ?_) (fun c_627 => ?_)
                · exact absurd (show p_fact (B i) 5 = 1 from if_neg hc8) c_627
                · refine lv_iload hx hb dL_law_630 (lv_at hl 8 rfl) ?_
                  refine lv_iconst (v := 1) hx hb dL_law_632 (by decide) ?_
                  refine lv_iadd hx hb dL_law_633 ?_
                  refine lv_aload hx hb dL_law_634 (lv_at hl 12 rfl) ?_
                  refine lv_iconst (v := 4) hx hb dL_law_636 (by decide) ?_
                  refine f_iald hx hb hG.1 hI rfl hnm hc_now (vp_in_iff.mpr ⟨by decide, by decide⟩) dL_law_637 ?_
                  refine lv_topi (fun tv etv => ?_)
                  have etv : tv = (p_fact (B i) 4) := etv
                  subst etv
                  refine lv_iadd hx hb dL_law_638 ?_
                  refine lv_goto (tgt := 643) hx hb dL_law_639 (by decide) ?_
                  refine lv_icmp_ne (tgt := 682) hx hb dL_law_643 (by decide) (fun c_643 => ?_) (fun c_643 => ?_)
                  · exact absurd hc6 c_643
                  · refine lv_aload hx hb dL_law_646 (lv_at hl 12 rfl) ?_
                    refine lv_bipush (v := 7) hx hb dL_law_648 (by decide) ?_
                    refine f_iald hx hb hG.1 hI rfl hnm hc_now (vp_in_iff.mpr ⟨by decide, by decide⟩) dL_law_650 ?_
                    refine lv_topi (fun tv etv => ?_)
                    have etv : tv = (p_fact (B i) 7) := etv
                    subst etv
                    refine lv_aload hx hb dL_law_651 (lv_at hl 6 rfl) ?_
                    refine lv_iload hx hb dL_law_653 (lv_at hl 11 rfl) ?_
                    have hw80 : E 80 = .inl (cJ, n, .inr (.inr (.inr (.inr (row_at ad 81 n))))) := hW.1
                    refine f_aldA hx hb hG.1 hI rfl (hWm 80 (by omega)) hw80 (vp_in_nI (by omega) (by omega)) (v := .ref (ad (81 + i))) (by rw [show (nI i).toNatClampNeg = i from nI_clamp (by omega)]; exact row_at_at (by omega)) dL_law_655 ?_
                    refine lv_bipush (v := 7) hx hb dL_law_656 (by decide) ?_
                    have hw_i : E (81 + i) = .inl (cI, 9, .inl (p_fact (B0 i))) := hW.2.1 i (by omega)
                    refine f_iald hx hb hG.1 hI rfl (hWm _ (by omega)) hw_i (vp_in_iff.mpr ⟨by decide, by decide⟩) dL_law_658 ?_
                    refine lv_topi (fun tv etv => ?_)
                    have etv : tv = (p_fact (B0 i) 7) := etv
                    subst etv
                    refine lv_iconst (v := 1) hx hb dL_law_659 (by decide) ?_
                    refine lv_iadd hx hb dL_law_660 ?_
                    refine lv_icmp_gt (tgt := 682) hx hb dL_law_661 (by decide) (fun c_661 => ?_) (fun c_661 => ?_)
                    · exact absurd c_661 (tl_spin htl (hOk i hi) (by omega))
                    · have n_661 := c_661
                      have c_661 := i_nlt.mp n_661
                      refine lv_aload hx hb dL_law_664 (lv_at hl 12 rfl) ?_
                      refine lv_bipush (v := 8) hx hb dL_law_666 (by decide) ?_
                      refine f_iald hx hb hG.1 hI rfl hnm hc_now (vp_in_iff.mpr ⟨by decide, by decide⟩) dL_law_668 ?_
                      refine lv_topi (fun tv etv => ?_)
                      have etv : tv = (p_fact (B i) 8) := etv
                      subst etv
                      refine lv_aload hx hb dL_law_669 (lv_at hl 6 rfl) ?_
                      refine lv_iload hx hb dL_law_671 (lv_at hl 11 rfl) ?_
                      refine f_aldA hx hb hG.1 hI rfl (hWm 80 (by omega)) hw80 (vp_in_nI (by omega) (by omega)) (v := .ref (ad (81 + i))) (by rw [show (nI i).toNatClampNeg = i from nI_clamp (by omega)]; exact row_at_at (by omega)) dL_law_673 ?_
                      refine lv_bipush (v := 8) hx hb dL_law_674 (by decide) ?_
                      refine f_iald hx hb hG.1 hI rfl (hWm _ (by omega)) hw_i (vp_in_iff.mpr ⟨by decide, by decide⟩) dL_law_676 ?_
                      refine lv_topi (fun tv etv => ?_)
                      have etv : tv = (p_fact (B0 i) 8) := etv
                      subst etv
                      refine lv_iconst (v := 1) hx hb dL_law_677 (by decide) ?_
                      refine lv_iadd hx hb dL_law_678 ?_
                      refine lv_icmp_le (tgt := 684) hx hb dL_law_679 (by decide) (fun c_679 => ?_) (fun c_679 => ?_)
                      · have n_679 := i_nlt.mpr c_679
                        exact kk E H locs ls _ _ (by omega) (by omega) hX hS hW hc_now hI (lv_sub hl [0, 1, 2, 3, 4, 5, 6, 7, 8, 9, 10, 11, 12] rfl)
                      · exact absurd (tl_stop htl (hOk i hi) (by omega)) c_679

set_option maxHeartbeats 4000000 in
set_option maxRecDepth 100000 in
theorem law_Go3 (l : Launch) {pr : Program} {e : Env} {s : State} {m : MethodId} {args : Array Value} {below : List Frame} {meth : Method} {c : Code} {Q : State → Prop} (hx : pr.tables.exec = Jvm.exec) (hb : c.code = cL_law) (hml : c.maxLocals = 23) (hts : ∀ w ∈ wsL_law, w.before args s = true) (hown : s.vm.findClass RL = some m.cls) {D : va_G} {cI cJ cB : ClassId} {t0 z : Nat} {tx ad : Nat → Nat} {L : List Nat} (hG : fG D cI cJ cB t0 z tx s) {cells slots : Nat} {E : Nat → va_E} {H : Heap} {locs : List Loc} {ls : Array Slot} (hl9 : l.stackTraces = false) {w p g : Nat → Int32} {nw n T T0 : Nat} {B F B0 : Nat → Nat → Int32} {G : Nat → Int32} (hL0 : okL w p g nw n T B) (hOld : okL w p g nw n T0 B0) (hTT : T = T0 + 1) (hBB : ∀ i, i < n → B i = p_tick w p g nw (nI T0) (F i) (B0 i)) (hG0 : G = fun i => p_arr w p g nw T0 (F i) (B0 i) 0 401) (hT : T < 2 ^ 20) (hXm : ∀ k, k < 5 ∨ (10 ≤ k ∧ k < 24) ∨ (30 ≤ k ∧ k < 44) → k ∈ L) (hSm : ∀ k, (50 ≤ k ∧ k < 55) ∨ (60 ≤ k ∧ k < 60 + n) ∨ (70 ≤ k ∧ k < 70 + n) → k ∈ L) (hX : x_at cI cB ad E w p g nw n T B F) (hS : s_at cI cJ ad E w p g nw n T B F) (hWm : ∀ k, (80 ≤ k ∧ k < 81 + n) ∨ k = 90 → k ∈ L) (hW : w_at cI cJ ad E n B0 G) (hnm : 92 ∈ L) {i : Nat} (hi : i < n) (hc_now : E 92 = .inl (cI, 9, .inl (p_fact (B i)))) (h0 : B0 i 8 = 0) {time : Nat} {xv : Int32} (ht : time < 70) (hc : cells ≤ 100000) (hs : slots ≤ 500000) (hI : fI D (fA z) s.heap ad L E H locs) (hl : lv_has ls 23 [(0, .ref t0), (1, .ref (ad 0)), (2, .ref (ad 50)), (3, .int (nI time)), (4, .int xv), (5, .int (nI n)), (6, .ref (ad 80)), (7, .ref (ad 90)), (11, .int (nI T0)), (14, .int (p_ones B n i)), (15, .int (p_psum B (i + 1))), (16, .int (nI i)), (17, .ref (ad 92))]) (kk : ∀ (E1 : Nat → va_E) (H1 : Heap) (locs1 : List Loc) (ls1 : Array Slot) (c1 s1 : Nat), c1 ≤ cells + 16 → s1 ≤ slots + 96 → x_at cI cB ad E1 w p g nw n T B F → s_at cI cJ ad E1 w p g nw n T B F → w_at cI cJ ad E1 n B0 G → E1 92 = .inl (cI, 9, .inl (p_fact (B i))) → fI D (fA z) s.heap ad L E1 H1 locs1 → lv_has ls1 23 [(0, .ref t0), (1, .ref (ad 0)), (2, .ref (ad 50)), (3, .int (nI time)), (4, .int xv), (5, .int (nI n)), (6, .ref (ad 80)), (7, .ref (ad 90)), (11, .int (nI T0)), (14, .int (p_ones B n i)), (15, .int (p_psum B (i + 1))), (16, .int (nI i)), (17, .ref (ad 92))] → W pr l e ({ frames := 11, cells := 1200130, slots := 5501080, locals := 402 } : Room) s m args below meth c H1 locs1 c1 s1 Q (F0 m 711 ls1 [])) : W pr l e ({ frames := 11, cells := 1200130, slots := 5501080, locals := 402 } : Room) s m args below meth c H locs cells slots Q (F0 m 684 ls []) := by
  have hT : T < 2 ^ 30 := by omega
  have hnw := hL0.1
  have hn6 := hL0.2.1
  have h8 := hL0.h8
  have hok := hL0.2.2.2.1
  have hOk := hOld.2.2.2.1
  have htl : tlaw p g nw T0 (B0 i) (B i) := by rw [hBB i hi]; exact tk_law hL0.2.2.1 (hOk i hi).1 h0
  have hc_now : E 92 = .inl (cI, 9, .inl (p_fact (B i))) := hc_now
  refine lv_aload hx hb dL_law_684 (lv_at hl 7 rfl) ?_
  refine lv_iload hx hb dL_law_686 (lv_at hl 11 rfl) ?_
  have hw90 : E 90 = .inl (cI, n, .inl G) := hW.2.2
  refine f_iald hx hb hG.1 hI rfl (hWm 90 (by omega)) hw90 (vp_in_nI (by omega) (by omega)) dL_law_688 ?_
  rw [show (nI i).toNatClampNeg = i from nI_clamp (by omega)]
  refine lv_iconst (v := 1) hx hb dL_law_689 (by decide) ?_
  refine lv_icmp_le (tgt := 711) hx hb dL_law_690 (by decide) (fun c_690 => ?_) (fun c_690 => ?_)
  · have n_690 := i_nlt.mpr c_690
    exact kk E H locs ls _ _ (by omega) (by omega) hX hS hW hc_now hI (lv_sub hl [0, 1, 2, 3, 4, 5, 6, 7, 8, 9, 10, 11, 12] rfl)
  · have n_690 := c_690
    have c_690 := i_nle.mp n_690
    refine lv_aload_n hx hb dL_law_693 rfl (lv_at hl 1 rfl) ?_
    refine lv_iload hx hb dL_law_694 (lv_at hl 11 rfl) ?_
    refine f_xcalli (vx_runV (As := [.int (nI i)]) (rest := []) ⟨hx, hb, hml, hown, hts⟩ (m_X3_arrives l hl9 hX hnw hn6 hT h8 hXm (nI i)) (cwV 1 hts gL_law_X3_arrives rfl rfl rfl (by decide +kernel) ⟨(Nat.le_of_ble_eq_true rfl), (Nat.le_of_ble_eq_true rfl)⟩) (fPre_ofV hG hI rfl (hXm 0 (by omega)) hX.1 rfl rfl) rfl rfl hl.1 rfl (lv_room (Nat.le_of_ble_eq_true rfl)) dL_law_696 ⟨(by show _ ≤ 1200130; omega), (by show _ ≤ 5501080; omega)⟩) hI (fun En ce q9 H locs hok hI hq1 hq2 hq3 => ?_) (fun r1 E2 H locs hp hI => ?_)
    · exact absurd hok.1 (by rw [crank_0 (n := n) (b := i) (by omega) hn6]; decide)
    obtain ⟨-, hr9, hX, hn9⟩ := hp
    have hr9 : r1 = (p_arr w p g nw T (F i) (B i) 0 401) := hr9.trans (by rw [show (nI i).toNatClampNeg = i from nI_clamp (by omega)])
    subst hr9
    have hc_now : E2 92 = .inl (cI, 9, .inl (p_fact (B i))) := (hn9 92 (by omega)).trans hc_now
    have hS := hS.kept hn6 (fun q h1 h2 => hn9 q (by omega))
    have hW := hW.kept hn6 (fun q h1 h2 => hn9 q (by omega))
    refine lv_aload hx hb dL_law_699 (lv_at hl 7 rfl) ?_
    refine lv_iload hx hb dL_law_701 (lv_at hl 11 rfl) ?_
    have hw90 : E2 90 = .inl (cI, n, .inl G) := hW.2.2
    refine f_iald hx hb hG.1 hI rfl (hWm 90 (by omega)) hw90 (vp_in_nI (by omega) (by omega)) dL_law_703 ?_
    rw [show (nI i).toNatClampNeg = i from nI_clamp (by omega)]
    refine lv_iconst (v := 1) hx hb dL_law_704 (by decide) ?_
    refine lv_isub hx hb dL_law_705 ?_
    refine lv_icmp_eq (tgt := 711) hx hb dL_law_706 (by decide) (fun c_706 => ?_) (fun c_706 => ?_)
    · exact kk E2 H locs ls _ _ (by omega) (by omega) hX hS hW hc_now hI (lv_sub hl [0, 1, 2, 3, 4, 5, 6, 7, 8, 9, 10, 11, 12] rfl)
    · exact absurd (show p_arr w p g nw T (F i) (B i) 0 401 = G i - 1 from by rw [hTT, hBB i hi, hG0]; rw [hG0] at c_690; exact arr_next h0 c_690) c_706

set_option maxHeartbeats 4000000 in
set_option maxRecDepth 100000 in
theorem law_Go4 (l : Launch) {pr : Program} {e : Env} {s : State} {m : MethodId} {args : Array Value} {below : List Frame} {meth : Method} {c : Code} {Q : State → Prop} (hx : pr.tables.exec = Jvm.exec) (hb : c.code = cL_law) (hml : c.maxLocals = 23) (hts : ∀ w ∈ wsL_law, w.before args s = true) (hown : s.vm.findClass RL = some m.cls) {D : va_G} {cI cJ cB : ClassId} {t0 z : Nat} {tx ad : Nat → Nat} {L : List Nat} (hG : fG D cI cJ cB t0 z tx s) {cells slots : Nat} {E : Nat → va_E} {H : Heap} {locs : List Loc} {ls : Array Slot} (hl9 : l.stackTraces = false) {w p g : Nat → Int32} {nw n T T0 : Nat} {B F B0 : Nat → Nat → Int32} {G : Nat → Int32} (hL0 : okL w p g nw n T B) (hOld : okL w p g nw n T0 B0) (hTT : T = T0 + 1) (hBB : ∀ i, i < n → B i = p_tick w p g nw (nI T0) (F i) (B0 i)) (hG0 : G = fun i => p_arr w p g nw T0 (F i) (B0 i) 0 401) (hT : T < 2 ^ 20) (hXm : ∀ k, k < 5 ∨ (10 ≤ k ∧ k < 24) ∨ (30 ≤ k ∧ k < 44) → k ∈ L) (hSm : ∀ k, (50 ≤ k ∧ k < 55) ∨ (60 ≤ k ∧ k < 60 + n) ∨ (70 ≤ k ∧ k < 70 + n) → k ∈ L) (hX : x_at cI cB ad E w p g nw n T B F) (hS : s_at cI cJ ad E w p g nw n T B F) (hWm : ∀ k, (80 ≤ k ∧ k < 81 + n) ∨ k = 90 → k ∈ L) (hW : w_at cI cJ ad E n B0 G) (hnm : 92 ∈ L) {i : Nat} (hi : i < n) (hc_now : E 92 = .inl (cI, 9, .inl (p_fact (B i)))) (h0 : B0 i 8 = 0) {time : Nat} {xv : Int32} (ht : time < 70) (hc : cells ≤ 100000) (hs : slots ≤ 500000) (hI : fI D (fA z) s.heap ad L E H locs) (hl : lv_has ls 23 [(0, .ref t0), (1, .ref (ad 0)), (2, .ref (ad 50)), (3, .int (nI time)), (4, .int xv), (5, .int (nI n)), (6, .ref (ad 80)), (7, .ref (ad 90)), (11, .int (nI T0)), (14, .int (p_ones B n i)), (15, .int (p_psum B (i + 1))), (16, .int (nI i)), (17, .ref (ad 92))]) (kk : ∀ (E1 : Nat → va_E) (H1 : Heap) (locs1 : List Loc) (ls1 : Array Slot) (c1 s1 : Nat), c1 ≤ cells + 16 → s1 ≤ slots + 96 → x_at cI cB ad E1 w p g nw n T B F → s_at cI cJ ad E1 w p g nw n T B F → w_at cI cJ ad E1 n B0 G → E1 92 = .inl (cI, 9, .inl (p_fact (B i))) → fI D (fA z) s.heap ad L E1 H1 locs1 → lv_has ls1 23 [(0, .ref t0), (1, .ref (ad 0)), (2, .ref (ad 50)), (3, .int (nI time)), (4, .int xv), (5, .int (nI n)), (6, .ref (ad 80)), (7, .ref (ad 90)), (11, .int (nI T0)), (14, .int (p_ones B n i)), (15, .int (p_psum B (i + 1))), (16, .int (nI i)), (17, .ref (ad 92))] → W pr l e ({ frames := 11, cells := 1200130, slots := 5501080, locals := 402 } : Room) s m args below meth c H1 locs1 c1 s1 Q (F0 m 862 ls1 [])) : W pr l e ({ frames := 11, cells := 1200130, slots := 5501080, locals := 402 } : Room) s m args below meth c H locs cells slots Q (F0 m 711 ls []) := by
  have hT : T < 2 ^ 30 := by omega
  have hnw := hL0.1
  have hn6 := hL0.2.1
  have h8 := hL0.h8
  have hok := hL0.2.2.2.1
  have hOk := hOld.2.2.2.1
  have htl : tlaw p g nw T0 (B0 i) (B i) := by rw [hBB i hi]; exact tk_law hL0.2.2.1 (hOk i hi).1 h0
  obtain ⟨P0, P1, s9, e0, e1, e2, hs8, hP01, hP200, hPs, hst9, -⟩ := id htl
  have hc_now : E 92 = .inl (cI, 9, .inl (p_fact (B i))) := hc_now
  rcases hst9 with ⟨e11, hvw⟩ | ⟨e11, hc5, hlt, hge, hne, hvw⟩
  · refine lv_aload hx hb dL_law_711 (lv_at hl 12 rfl) ?_
    refine lv_bipush (v := 8) hx hb dL_law_713 (by decide) ?_
    refine f_iald hx hb hG.1 hI rfl hnm hc_now (vp_in_iff.mpr ⟨by decide, by decide⟩) dL_law_715 ?_
    refine lv_topi (fun tv etv => ?_)
    have etv : tv = (p_fact (B i) 8) := etv
    subst etv
    refine lv_aload hx hb dL_law_716 (lv_at hl 6 rfl) ?_
    refine lv_iload hx hb dL_law_718 (lv_at hl 11 rfl) ?_
    have hw80 : E 80 = .inl (cJ, n, .inr (.inr (.inr (.inr (row_at ad 81 n))))) := hW.1
    refine f_aldA hx hb hG.1 hI rfl (hWm 80 (by omega)) hw80 (vp_in_nI (by omega) (by omega)) (v := .ref (ad (81 + i))) (by rw [show (nI i).toNatClampNeg = i from nI_clamp (by omega)]; exact row_at_at (by omega)) dL_law_720 ?_
    refine lv_bipush (v := 8) hx hb dL_law_721 (by decide) ?_
    have hw_i : E (81 + i) = .inl (cI, 9, .inl (p_fact (B0 i))) := hW.2.1 i (by omega)
    refine f_iald hx hb hG.1 hI rfl (hWm _ (by omega)) hw_i (vp_in_iff.mpr ⟨by decide, by decide⟩) dL_law_723 ?_
    refine lv_topi (fun tv etv => ?_)
    have etv : tv = (p_fact (B0 i) 8) := etv
    subst etv
    refine lv_icmp_le (tgt := 731) hx hb dL_law_724 (by decide) (fun c_724 => ?_) (fun c_724 => ?_)
    · have n_724 := i_nlt.mpr c_724
      refine lv_iconst (v := 0) hx hb dL_law_731 (by decide) ?_
      refine lv_istore (lv' := [(20, .int 0), (0, .ref t0), (1, .ref (ad 0)), (2, .ref (ad 50)), (3, .int (nI time)), (4, .int xv), (5, .int (nI n)), (6, .ref (ad 80)), (7, .ref (ad 90)), (11, .int (nI T0)), (14, .int (p_ones B n i)), (15, .int (p_psum B (i + 1))), (16, .int (nI i)), (17, .ref (ad 92))]) hx hb dL_law_732 hl (by decide) rfl (fun ls hl => ?_)
      refine lv_aload hx hb dL_law_734 (lv_at hl 7 rfl) ?_
      refine lv_iload hx hb dL_law_736 (lv_at hl 12 rfl) ?_
      refine f_aldA hx hb hG.1 hI rfl (hWm 80 (by omega)) hw80 (vp_in_nI (by omega) (by omega)) (v := .ref (ad (81 + i))) (by rw [show (nI i).toNatClampNeg = i from nI_clamp (by omega)]; exact row_at_at (by omega)) dL_law_738 ?_
      refine lv_iconst (v := 0) hx hb dL_law_739 (by decide) ?_
      refine f_iald hx hb hG.1 hI rfl (hWm _ (by omega)) hw_i (vp_in_iff.mpr ⟨by decide, by decide⟩) dL_law_740 ?_
      refine lv_topi (fun tv etv => ?_)
      have etv : tv = (p_fact (B0 i) 0) := etv
      subst etv
      refine lv_iconst (v := 1) hx hb dL_law_741 (by decide) ?_
      refine lv_iadd hx hb dL_law_742 ?_
      refine lv_topi (fun tv etv => ?_)
      have etv : tv = (nI (P0 + 1)) := etv.trans (by rw [show p_fact (B0 i) 0 = nI P0 from e0, nI_succ])
      subst etv
      refine lv_istore (lv' := [(21, .int (nI (P0 + 1))), (20, .int 0), (0, .ref t0), (1, .ref (ad 0)), (2, .ref (ad 50)), (3, .int (nI time)), (4, .int xv), (5, .int (nI n)), (6, .ref (ad 80)), (7, .ref (ad 90)), (11, .int (nI T0)), (14, .int (p_ones B n i)), (15, .int (p_psum B (i + 1))), (16, .int (nI i)), (17, .ref (ad 92))]) hx hb dL_law_743 hl (by decide) rfl (fun ls hl => ?_)
      have Kih : ∀ (dpl pl : Nat), (P0 + 1) ≤ pl → pl ≤ (P1 + 1) → (P1 + 1) + 1 ≤ pl + dpl → ∀ (H : Heap) (locs : List Loc) (ls : Array Slot), fI D (fA z) s.heap ad L E H locs → lv_has ls 23 [(21, .int (nI pl)), (20, .int 0), (0, .ref t0), (1, .ref (ad 0)), (2, .ref (ad 50)), (3, .int (nI time)), (4, .int xv), (5, .int (nI n)), (6, .ref (ad 80)), (7, .ref (ad 90)), (11, .int (nI T0)), (14, .int (p_ones B n i)), (15, .int (p_psum B (i + 1))), (16, .int (nI i)), (17, .ref (ad 92))] → W pr l e ({ frames := 11, cells := 1200130, slots := 5501080, locals := 402 } : Room) s m args below meth c H locs cells slots Q (F0 m 745 ls []) := by
        intro dpl
        induction dpl with
        | zero => intro pl h0 h1 h2; exact absurd h2 (by omega)
        | succ dpl ih =>
          intro pl hi0pl hi1pl hi2pl  H locs ls  hI hl
          refine lv_iload hx hb dL_law_745 (lv_at hl 0 rfl) ?_
          refine lv_aload hx hb dL_law_747 (lv_at hl 14 rfl) ?_
          refine lv_iconst (v := 0) hx hb dL_law_749 (by decide) ?_
          refine f_iald hx hb hG.1 hI rfl hnm hc_now (vp_in_iff.mpr ⟨by decide, by decide⟩) dL_law_750 ?_
          refine lv_topi (fun tv etv => ?_)
          have etv : tv = (p_fact (B i) 0) := etv
          subst etv
          refine lv_topi (fun tv etv => ?_)
          have etv : tv = (nI P1) := etv.trans (e1)
          subst etv
          refine lv_icmp_gt (tgt := 813) hx hb dL_law_751 (by decide) (fun c_751 => ?_) (fun c_751 => ?_)
          · have n_751 := i_nle.mpr c_751
            have hpl : P1 < pl := (nI_ltI (by omega) (by omega)).mp c_751
            refine lv_iload hx hb dL_law_813 (lv_at hl 1 rfl) ?_
            refine lv_if_eq (tgt := 837) hx hb dL_law_815 (by decide) (fun c_815 => ?_) (fun c_815 => ?_)
            · refine lv_aload hx hb dL_law_837 (lv_at hl 14 rfl) ?_
              refine lv_bipush (v := 7) hx hb dL_law_839 (by decide) ?_
              refine f_iald hx hb hG.1 hI rfl hnm hc_now (vp_in_iff.mpr ⟨by decide, by decide⟩) dL_law_841 ?_
              refine lv_topi (fun tv etv => ?_)
              have etv : tv = (p_fact (B i) 7) := etv
              subst etv
              refine lv_aload hx hb dL_law_842 (lv_at hl 8 rfl) ?_
              refine lv_iload hx hb dL_law_844 (lv_at hl 13 rfl) ?_
              have hw80 : E 80 = .inl (cJ, n, .inr (.inr (.inr (.inr (row_at ad 81 n))))) := hW.1
              refine f_aldA hx hb hG.1 hI rfl (hWm 80 (by omega)) hw80 (vp_in_nI (by omega) (by omega)) (v := .ref (ad (81 + i))) (by rw [show (nI i).toNatClampNeg = i from nI_clamp (by omega)]; exact row_at_at (by omega)) dL_law_846 ?_
              refine lv_bipush (v := 7) hx hb dL_law_847 (by decide) ?_
              have hw_i : E (81 + i) = .inl (cI, 9, .inl (p_fact (B0 i))) := hW.2.1 i (by omega)
              refine f_iald hx hb hG.1 hI rfl (hWm _ (by omega)) hw_i (vp_in_iff.mpr ⟨by decide, by decide⟩) dL_law_849 ?_
              refine lv_topi (fun tv etv => ?_)
              have etv : tv = (p_fact (B0 i) 7) := etv
              subst etv
              refine lv_icmp_le (tgt := 862) hx hb dL_law_850 (by decide) (fun c_850 => ?_) (fun c_850 => ?_)
              · have n_850 := i_nlt.mpr c_850
                exact kk E H locs ls _ _ (by omega) (by omega) hX hS hW hc_now hI (lv_sub hl [2, 3, 4, 5, 6, 7, 8, 9, 10, 11, 12, 13, 14] rfl)
              · have n_850 := c_850
                have c_850 := i_nle.mp n_850
                refine lv_aload hx hb dL_law_853 (lv_at hl 14 rfl) ?_
                refine lv_iconst (v := 2) hx hb dL_law_855 (by decide) ?_
                refine f_iald hx hb hG.1 hI rfl hnm hc_now (vp_in_iff.mpr ⟨by decide, by decide⟩) dL_law_856 ?_
                refine lv_topi (fun tv etv => ?_)
                have etv : tv = (p_fact (B i) 2) := etv
                subst etv
                refine lv_if_eq (tgt := 862) hx hb dL_law_857 (by decide) (fun c_857 => ?_) (fun c_857 => ?_)
                · exact kk E H locs ls _ _ (by omega) (by omega) hX hS hW hc_now hI (lv_sub hl [2, 3, 4, 5, 6, 7, 8, 9, 10, 11, 12, 13, 14] rfl)
                · exact absurd (sp_0 htl c_850) c_857
            · exact absurd c_815 (by decide)
          · have n_751 := c_751
            have c_751 := i_nlt.mp n_751
            have hpl : pl ≤ P1 := (nI_leI (by omega) (by omega)).mp c_751
            refine lv_aload_n hx hb dL_law_754 rfl (lv_at hl 4 rfl) ?_
            have hS50 : E 50 = .inr (4, [.int (nI T), .ref (ad 51), .ref (ad 52), .int (nI nw), .ref (ad 53), .ref (ad 54)]) := hS.1
            refine f_get (ci := 4) (v := .ref (ad 52)) (C := RX4) (T := TX4) (N := 6) hx hb hts (by decide +kernel) hown hG.1 hI rfl (hSm _ (by omega)) hS50 rfl 2 (by decide) (hts (.fieldLink RL 34 "CoracleRaceLaw$Sim" "weirs" "[I") (by decide +kernel)) rfl dL_law_755 ?_
            refine lv_iload hx hb dL_law_758 (lv_at hl 0 rfl) ?_
            have hS52 : E 52 = .inl (cI, 201, .inl (vW p g nw)) := hS.2.2.1
            refine f_iald hx hb hG.1 hI rfl (hSm _ (by omega)) hS52 (vp_in_nI (by omega) (by omega)) dL_law_760 ?_
            rw [show (nI pl).toNatClampNeg = pl from nI_clamp (by omega)]
            refine lv_if_lt (tgt := 807) hx hb dL_law_761 (by decide) (fun c_761 => ?_) (fun c_761 => ?_)
            · have n_761 := i_nle.mpr c_761
              refine lv_iinc (v := (nI (pl + 1))) (lv' := [(21, .int (nI (pl + 1))), (20, .int 0), (0, .ref t0), (1, .ref (ad 0)), (2, .ref (ad 50)), (3, .int (nI time)), (4, .int xv), (5, .int (nI n)), (6, .ref (ad 80)), (7, .ref (ad 90)), (11, .int (nI T0)), (14, .int (p_ones B n i)), (15, .int (p_psum B (i + 1))), (16, .int (nI i)), (17, .ref (ad 92))]) hx hb dL_law_807 hl (k := 0) rfl (nI_1 pl) (by decide) rfl (fun ls hl => ?_)
              refine lv_goto (tgt := 745) hx hb dL_law_810 (by decide) ?_
              exact ih (pl + 1) (by omega) (by omega) (by omega) H locs ls   hI (lv_sub hl [0, 1, 2, 3, 4, 5, 6, 7, 8, 9, 10, 11, 12, 13, 14] rfl)
            · have n_761 := c_761
              have c_761 := i_nlt.mp n_761
              refine lv_aload_n hx hb dL_law_764 rfl (lv_at hl 4 rfl) ?_
              refine f_get (ci := 4) (v := .ref (ad 52)) (C := RX4) (T := TX4) (N := 6) hx hb hts (by decide +kernel) hown hG.1 hI rfl (hSm _ (by omega)) hS50 rfl 2 (by decide) (hts (.fieldLink RL 34 "CoracleRaceLaw$Sim" "weirs" "[I") (by decide +kernel)) rfl dL_law_765 ?_
              refine lv_iload hx hb dL_law_768 (lv_at hl 0 rfl) ?_
              refine f_iald hx hb hG.1 hI rfl (hSm _ (by omega)) hS52 (vp_in_nI (by omega) (by omega)) dL_law_770 ?_
              rw [show (nI pl).toNatClampNeg = pl from nI_clamp (by omega)]
              refine lv_aload hx hb dL_law_771 (lv_at hl 14 rfl) ?_
              refine lv_iconst (v := 1) hx hb dL_law_773 (by decide) ?_
              refine f_iald hx hb hG.1 hI rfl hnm hc_now (vp_in_iff.mpr ⟨by decide, by decide⟩) dL_law_774 ?_
              refine lv_topi (fun tv etv => ?_)
              have etv : tv = (p_fact (B i) 1) := etv
              subst etv
              refine lv_icmp_eq (tgt := 782) hx hb dL_law_775 (by decide) (fun c_775 => ?_) (fun c_775 => ?_)
              · refine lv_iconst (v := 0) hx hb dL_law_782 (by decide) ?_
                refine lv_iload hx hb dL_law_783 (lv_at hl 1 rfl) ?_
                refine lv_if_eq (tgt := 801) hx hb dL_law_785 (by decide) (fun c_785 => ?_) (fun c_785 => ?_)
                · refine lv_iconst (v := 0) hx hb dL_law_801 (by decide) ?_
                  refine lv_icmp_eq (tgt := 807) hx hb dL_law_802 (by decide) (fun c_802 => ?_) (fun c_802 => ?_)
                  · refine lv_iinc (v := (nI (pl + 1))) (lv' := [(21, .int (nI (pl + 1))), (20, .int 0), (0, .ref t0), (1, .ref (ad 0)), (2, .ref (ad 50)), (3, .int (nI time)), (4, .int xv), (5, .int (nI n)), (6, .ref (ad 80)), (7, .ref (ad 90)), (11, .int (nI T0)), (14, .int (p_ones B n i)), (15, .int (p_psum B (i + 1))), (16, .int (nI i)), (17, .ref (ad 92))]) hx hb dL_law_807 hl (k := 0) rfl (nI_1 pl) (by decide) rfl (fun ls hl => ?_)
                    refine lv_goto (tgt := 745) hx hb dL_law_810 (by decide) ?_
                    exact ih (pl + 1) (by omega) (by omega) (by omega) H locs ls   hI (lv_sub hl [0, 1, 2, 3, 4, 5, 6, 7, 8, 9, 10, 11, 12, 13, 14] rfl)
                  · exact absurd c_802 (by decide)
                · exact absurd c_785 (by decide)
              · exact absurd (hvw pl (by omega) hpl n_761) c_775
      exact Kih ((P1 + 1) + 1) (P0 + 1) (by omega) (by omega) (by omega) H locs ls   hI (lv_sub hl [0, 1, 2, 3, 4, 5, 6, 7, 8, 9, 10, 11, 12, 13, 14] rfl)
    · exact absurd (st_le e11) c_724
  · refine lv_aload hx hb dL_law_711 (lv_at hl 12 rfl) ?_
    refine lv_bipush (v := 8) hx hb dL_law_713 (by decide) ?_
    refine f_iald hx hb hG.1 hI rfl hnm hc_now (vp_in_iff.mpr ⟨by decide, by decide⟩) dL_law_715 ?_
    refine lv_topi (fun tv etv => ?_)
    have etv : tv = (p_fact (B i) 8) := etv
    subst etv
    refine lv_aload hx hb dL_law_716 (lv_at hl 6 rfl) ?_
    refine lv_iload hx hb dL_law_718 (lv_at hl 11 rfl) ?_
    have hw80 : E 80 = .inl (cJ, n, .inr (.inr (.inr (.inr (row_at ad 81 n))))) := hW.1
    refine f_aldA hx hb hG.1 hI rfl (hWm 80 (by omega)) hw80 (vp_in_nI (by omega) (by omega)) (v := .ref (ad (81 + i))) (by rw [show (nI i).toNatClampNeg = i from nI_clamp (by omega)]; exact row_at_at (by omega)) dL_law_720 ?_
    refine lv_bipush (v := 8) hx hb dL_law_721 (by decide) ?_
    have hw_i : E (81 + i) = .inl (cI, 9, .inl (p_fact (B0 i))) := hW.2.1 i (by omega)
    refine f_iald hx hb hG.1 hI rfl (hWm _ (by omega)) hw_i (vp_in_iff.mpr ⟨by decide, by decide⟩) dL_law_723 ?_
    refine lv_topi (fun tv etv => ?_)
    have etv : tv = (p_fact (B0 i) 8) := etv
    subst etv
    refine lv_icmp_le (tgt := 731) hx hb dL_law_724 (by decide) (fun c_724 => ?_) (fun c_724 => ?_)
    · exact absurd (st_lt (hOk i hi) (by omega) e11) (i_nlt.mpr c_724)
    · have n_724 := c_724
      have c_724 := i_nle.mp n_724
      refine lv_iconst (v := 1) hx hb dL_law_727 (by decide) ?_
      refine lv_goto (tgt := 732) hx hb dL_law_728 (by decide) ?_
      refine lv_istore (lv' := [(20, .int 1), (0, .ref t0), (1, .ref (ad 0)), (2, .ref (ad 50)), (3, .int (nI time)), (4, .int xv), (5, .int (nI n)), (6, .ref (ad 80)), (7, .ref (ad 90)), (11, .int (nI T0)), (14, .int (p_ones B n i)), (15, .int (p_psum B (i + 1))), (16, .int (nI i)), (17, .ref (ad 92))]) hx hb dL_law_732 hl (by decide) rfl (fun ls hl => ?_)
      refine lv_aload hx hb dL_law_734 (lv_at hl 7 rfl) ?_
      refine lv_iload hx hb dL_law_736 (lv_at hl 12 rfl) ?_
      refine f_aldA hx hb hG.1 hI rfl (hWm 80 (by omega)) hw80 (vp_in_nI (by omega) (by omega)) (v := .ref (ad (81 + i))) (by rw [show (nI i).toNatClampNeg = i from nI_clamp (by omega)]; exact row_at_at (by omega)) dL_law_738 ?_
      refine lv_iconst (v := 0) hx hb dL_law_739 (by decide) ?_
      refine f_iald hx hb hG.1 hI rfl (hWm _ (by omega)) hw_i (vp_in_iff.mpr ⟨by decide, by decide⟩) dL_law_740 ?_
      refine lv_topi (fun tv etv => ?_)
      have etv : tv = (p_fact (B0 i) 0) := etv
      subst etv
      refine lv_iconst (v := 1) hx hb dL_law_741 (by decide) ?_
      refine lv_iadd hx hb dL_law_742 ?_
      refine lv_topi (fun tv etv => ?_)
      have etv : tv = (nI (P0 + 1)) := etv.trans (by rw [show p_fact (B0 i) 0 = nI P0 from e0, nI_succ])
      subst etv
      refine lv_istore (lv' := [(21, .int (nI (P0 + 1))), (20, .int 1), (0, .ref t0), (1, .ref (ad 0)), (2, .ref (ad 50)), (3, .int (nI time)), (4, .int xv), (5, .int (nI n)), (6, .ref (ad 80)), (7, .ref (ad 90)), (11, .int (nI T0)), (14, .int (p_ones B n i)), (15, .int (p_psum B (i + 1))), (16, .int (nI i)), (17, .ref (ad 92))]) hx hb dL_law_743 hl (by decide) rfl (fun ls hl => ?_)
      have Kih : ∀ (dpl pl : Nat), (P0 + 1) ≤ pl → pl ≤ (P1 + 1) → (P1 + 1) + 1 ≤ pl + dpl → ∀ (H : Heap) (locs : List Loc) (ls : Array Slot), fI D (fA z) s.heap ad L E H locs → lv_has ls 23 [(21, .int (nI pl)), (20, .int 1), (0, .ref t0), (1, .ref (ad 0)), (2, .ref (ad 50)), (3, .int (nI time)), (4, .int xv), (5, .int (nI n)), (6, .ref (ad 80)), (7, .ref (ad 90)), (11, .int (nI T0)), (14, .int (p_ones B n i)), (15, .int (p_psum B (i + 1))), (16, .int (nI i)), (17, .ref (ad 92))] → W pr l e ({ frames := 11, cells := 1200130, slots := 5501080, locals := 402 } : Room) s m args below meth c H locs cells slots Q (F0 m 745 ls []) := by
        intro dpl
        induction dpl with
        | zero => intro pl h0 h1 h2; exact absurd h2 (by omega)
        | succ dpl ih =>
          intro pl hi0pl hi1pl hi2pl  H locs ls  hI hl
          refine lv_iload hx hb dL_law_745 (lv_at hl 0 rfl) ?_
          refine lv_aload hx hb dL_law_747 (lv_at hl 14 rfl) ?_
          refine lv_iconst (v := 0) hx hb dL_law_749 (by decide) ?_
          refine f_iald hx hb hG.1 hI rfl hnm hc_now (vp_in_iff.mpr ⟨by decide, by decide⟩) dL_law_750 ?_
          refine lv_topi (fun tv etv => ?_)
          have etv : tv = (p_fact (B i) 0) := etv
          subst etv
          refine lv_topi (fun tv etv => ?_)
          have etv : tv = (nI P1) := etv.trans (e1)
          subst etv
          refine lv_icmp_gt (tgt := 813) hx hb dL_law_751 (by decide) (fun c_751 => ?_) (fun c_751 => ?_)
          · have n_751 := i_nle.mpr c_751
            have hpl : P1 < pl := (nI_ltI (by omega) (by omega)).mp c_751
            refine lv_iload hx hb dL_law_813 (lv_at hl 1 rfl) ?_
            refine lv_if_eq (tgt := 837) hx hb dL_law_815 (by decide) (fun c_815 => ?_) (fun c_815 => ?_)
            · exact absurd c_815 (by decide)
            · refine lv_aload hx hb dL_law_818 (lv_at hl 14 rfl) ?_
              refine lv_iconst (v := 2) hx hb dL_law_820 (by decide) ?_
              refine f_iald hx hb hG.1 hI rfl hnm hc_now (vp_in_iff.mpr ⟨by decide, by decide⟩) dL_law_821 ?_
              refine lv_topi (fun tv etv => ?_)
              have etv : tv = (p_fact (B i) 2) := etv
              subst etv
              refine lv_if_ne (tgt := 860) hx hb dL_law_822 (by decide) (fun c_822 => ?_) (fun c_822 => ?_)
              · exact absurd (show p_fact (B i) 2 = 0 from hc5) c_822
              · refine lv_aload_n hx hb dL_law_825 rfl (lv_at hl 4 rfl) ?_
                have hS50 : E 50 = .inr (4, [.int (nI T), .ref (ad 51), .ref (ad 52), .int (nI nw), .ref (ad 53), .ref (ad 54)]) := hS.1
                refine f_get (ci := 4) (v := .ref (ad 52)) (C := RX4) (T := TX4) (N := 6) hx hb hts (by decide +kernel) hown hG.1 hI rfl (hSm _ (by omega)) hS50 rfl 2 (by decide) (hts (.fieldLink RL 34 "CoracleRaceLaw$Sim" "weirs" "[I") (by decide +kernel)) rfl dL_law_826 ?_
                refine lv_aload hx hb dL_law_829 (lv_at hl 14 rfl) ?_
                refine lv_iconst (v := 0) hx hb dL_law_831 (by decide) ?_
                refine f_iald hx hb hG.1 hI rfl hnm hc_now (vp_in_iff.mpr ⟨by decide, by decide⟩) dL_law_832 ?_
                refine lv_topi (fun tv etv => ?_)
                have etv : tv = (p_fact (B i) 0) := etv
                subst etv
                refine lv_topi (fun tv etv => ?_)
                have etv : tv = (nI P1) := etv.trans (e1)
                subst etv
                have hS52 : E 52 = .inl (cI, 201, .inl (vW p g nw)) := hS.2.2.1
                refine f_iald hx hb hG.1 hI rfl (hSm _ (by omega)) hS52 (vp_in_nI (by omega) (by omega)) dL_law_833 ?_
                rw [show (nI P1).toNatClampNeg = P1 from nI_clamp (by omega)]
                refine lv_if_lt (tgt := 860) hx hb dL_law_834 (by decide) (fun c_834 => ?_) (fun c_834 => ?_)
                · exact absurd c_834 (hge)
                · have n_834 := c_834
                  have c_834 := i_nlt.mp n_834
                  refine lv_aload hx hb dL_law_837 (lv_at hl 14 rfl) ?_
                  refine lv_bipush (v := 7) hx hb dL_law_839 (by decide) ?_
                  refine f_iald hx hb hG.1 hI rfl hnm hc_now (vp_in_iff.mpr ⟨by decide, by decide⟩) dL_law_841 ?_
                  refine lv_topi (fun tv etv => ?_)
                  have etv : tv = (p_fact (B i) 7) := etv
                  subst etv
                  refine lv_aload hx hb dL_law_842 (lv_at hl 8 rfl) ?_
                  refine lv_iload hx hb dL_law_844 (lv_at hl 13 rfl) ?_
                  have hw80 : E 80 = .inl (cJ, n, .inr (.inr (.inr (.inr (row_at ad 81 n))))) := hW.1
                  refine f_aldA hx hb hG.1 hI rfl (hWm 80 (by omega)) hw80 (vp_in_nI (by omega) (by omega)) (v := .ref (ad (81 + i))) (by rw [show (nI i).toNatClampNeg = i from nI_clamp (by omega)]; exact row_at_at (by omega)) dL_law_846 ?_
                  refine lv_bipush (v := 7) hx hb dL_law_847 (by decide) ?_
                  have hw_i : E (81 + i) = .inl (cI, 9, .inl (p_fact (B0 i))) := hW.2.1 i (by omega)
                  refine f_iald hx hb hG.1 hI rfl (hWm _ (by omega)) hw_i (vp_in_iff.mpr ⟨by decide, by decide⟩) dL_law_849 ?_
                  refine lv_topi (fun tv etv => ?_)
                  have etv : tv = (p_fact (B0 i) 7) := etv
                  subst etv
                  refine lv_icmp_le (tgt := 862) hx hb dL_law_850 (by decide) (fun c_850 => ?_) (fun c_850 => ?_)
                  · have n_850 := i_nlt.mpr c_850
                    exact kk E H locs ls _ _ (by omega) (by omega) hX hS hW hc_now hI (lv_sub hl [2, 3, 4, 5, 6, 7, 8, 9, 10, 11, 12, 13, 14] rfl)
                  · have n_850 := c_850
                    have c_850 := i_nle.mp n_850
                    refine lv_aload hx hb dL_law_853 (lv_at hl 14 rfl) ?_
                    refine lv_iconst (v := 2) hx hb dL_law_855 (by decide) ?_
                    refine f_iald hx hb hG.1 hI rfl hnm hc_now (vp_in_iff.mpr ⟨by decide, by decide⟩) dL_law_856 ?_
                    refine lv_topi (fun tv etv => ?_)
                    have etv : tv = (p_fact (B i) 2) := etv
                    subst etv
                    refine lv_if_eq (tgt := 862) hx hb dL_law_857 (by decide) (fun c_857 => ?_) (fun c_857 => ?_)
                    · exact kk E H locs ls _ _ (by omega) (by omega) hX hS hW hc_now hI (lv_sub hl [2, 3, 4, 5, 6, 7, 8, 9, 10, 11, 12, 13, 14] rfl)
                    · exact absurd (sp_0 htl c_850) c_857
          · have n_751 := c_751
            have c_751 := i_nlt.mp n_751
            have hpl : pl ≤ P1 := (nI_leI (by omega) (by omega)).mp c_751
            refine lv_aload_n hx hb dL_law_754 rfl (lv_at hl 4 rfl) ?_
            have hS50 : E 50 = .inr (4, [.int (nI T), .ref (ad 51), .ref (ad 52), .int (nI nw), .ref (ad 53), .ref (ad 54)]) := hS.1
            refine f_get (ci := 4) (v := .ref (ad 52)) (C := RX4) (T := TX4) (N := 6) hx hb hts (by decide +kernel) hown hG.1 hI rfl (hSm _ (by omega)) hS50 rfl 2 (by decide) (hts (.fieldLink RL 34 "CoracleRaceLaw$Sim" "weirs" "[I") (by decide +kernel)) rfl dL_law_755 ?_
            refine lv_iload hx hb dL_law_758 (lv_at hl 0 rfl) ?_
            have hS52 : E 52 = .inl (cI, 201, .inl (vW p g nw)) := hS.2.2.1
            refine f_iald hx hb hG.1 hI rfl (hSm _ (by omega)) hS52 (vp_in_nI (by omega) (by omega)) dL_law_760 ?_
            rw [show (nI pl).toNatClampNeg = pl from nI_clamp (by omega)]
            refine lv_if_lt (tgt := 807) hx hb dL_law_761 (by decide) (fun c_761 => ?_) (fun c_761 => ?_)
            · have n_761 := i_nle.mpr c_761
              refine lv_iinc (v := (nI (pl + 1))) (lv' := [(21, .int (nI (pl + 1))), (20, .int 1), (0, .ref t0), (1, .ref (ad 0)), (2, .ref (ad 50)), (3, .int (nI time)), (4, .int xv), (5, .int (nI n)), (6, .ref (ad 80)), (7, .ref (ad 90)), (11, .int (nI T0)), (14, .int (p_ones B n i)), (15, .int (p_psum B (i + 1))), (16, .int (nI i)), (17, .ref (ad 92))]) hx hb dL_law_807 hl (k := 0) rfl (nI_1 pl) (by decide) rfl (fun ls hl => ?_)
              refine lv_goto (tgt := 745) hx hb dL_law_810 (by decide) ?_
              exact ih (pl + 1) (by omega) (by omega) (by omega) H locs ls   hI (lv_sub hl [0, 1, 2, 3, 4, 5, 6, 7, 8, 9, 10, 11, 12, 13, 14] rfl)
            · have n_761 := c_761
              have c_761 := i_nlt.mp n_761
              refine lv_aload_n hx hb dL_law_764 rfl (lv_at hl 4 rfl) ?_
              refine f_get (ci := 4) (v := .ref (ad 52)) (C := RX4) (T := TX4) (N := 6) hx hb hts (by decide +kernel) hown hG.1 hI rfl (hSm _ (by omega)) hS50 rfl 2 (by decide) (hts (.fieldLink RL 34 "CoracleRaceLaw$Sim" "weirs" "[I") (by decide +kernel)) rfl dL_law_765 ?_
              refine lv_iload hx hb dL_law_768 (lv_at hl 0 rfl) ?_
              refine f_iald hx hb hG.1 hI rfl (hSm _ (by omega)) hS52 (vp_in_nI (by omega) (by omega)) dL_law_770 ?_
              rw [show (nI pl).toNatClampNeg = pl from nI_clamp (by omega)]
              refine lv_aload hx hb dL_law_771 (lv_at hl 14 rfl) ?_
              refine lv_iconst (v := 1) hx hb dL_law_773 (by decide) ?_
              refine f_iald hx hb hG.1 hI rfl hnm hc_now (vp_in_iff.mpr ⟨by decide, by decide⟩) dL_law_774 ?_
              refine lv_topi (fun tv etv => ?_)
              have etv : tv = (p_fact (B i) 1) := etv
              subst etv
              refine lv_icmp_eq (tgt := 782) hx hb dL_law_775 (by decide) (fun c_775 => ?_) (fun c_775 => ?_)
              · refine lv_iconst (v := 0) hx hb dL_law_782 (by decide) ?_
                refine lv_iload hx hb dL_law_783 (lv_at hl 1 rfl) ?_
                refine lv_if_eq (tgt := 801) hx hb dL_law_785 (by decide) (fun c_785 => ?_) (fun c_785 => ?_)
                · exact absurd c_785 (by decide)
                · refine lv_iload hx hb dL_law_788 (lv_at hl 0 rfl) ?_
                  refine lv_aload hx hb dL_law_790 (lv_at hl 14 rfl) ?_
                  refine lv_iconst (v := 0) hx hb dL_law_792 (by decide) ?_
                  refine f_iald hx hb hG.1 hI rfl hnm hc_now (vp_in_iff.mpr ⟨by decide, by decide⟩) dL_law_793 ?_
                  refine lv_topi (fun tv etv => ?_)
                  have etv : tv = (p_fact (B i) 0) := etv
                  subst etv
                  refine lv_topi (fun tv etv => ?_)
                  have etv : tv = (nI P1) := etv.trans (e1)
                  subst etv
                  refine lv_icmp_ne (tgt := 801) hx hb dL_law_794 (by decide) (fun c_794 => ?_) (fun c_794 => ?_)
                  · refine lv_iconst (v := 0) hx hb dL_law_801 (by decide) ?_
                    refine lv_icmp_eq (tgt := 807) hx hb dL_law_802 (by decide) (fun c_802 => ?_) (fun c_802 => ?_)
                    · refine lv_iinc (v := (nI (pl + 1))) (lv' := [(21, .int (nI (pl + 1))), (20, .int 1), (0, .ref t0), (1, .ref (ad 0)), (2, .ref (ad 50)), (3, .int (nI time)), (4, .int xv), (5, .int (nI n)), (6, .ref (ad 80)), (7, .ref (ad 90)), (11, .int (nI T0)), (14, .int (p_ones B n i)), (15, .int (p_psum B (i + 1))), (16, .int (nI i)), (17, .ref (ad 92))]) hx hb dL_law_807 hl (k := 0) rfl (nI_1 pl) (by decide) rfl (fun ls hl => ?_)
                      refine lv_goto (tgt := 745) hx hb dL_law_810 (by decide) ?_
                      exact ih (pl + 1) (by omega) (by omega) (by omega) H locs ls   hI (lv_sub hl [0, 1, 2, 3, 4, 5, 6, 7, 8, 9, 10, 11, 12, 13, 14] rfl)
                    · exact absurd c_802 (by decide)
                  · exact absurd c_775 (by rw [(nI_eq (by omega) (by omega)).mp c_794]; exact hne)
              · refine lv_iconst (v := 1) hx hb dL_law_778 (by decide) ?_
                refine lv_goto (tgt := 783) hx hb dL_law_779 (by decide) ?_
                refine lv_iload hx hb dL_law_783 (lv_at hl 1 rfl) ?_
                refine lv_if_eq (tgt := 801) hx hb dL_law_785 (by decide) (fun c_785 => ?_) (fun c_785 => ?_)
                · exact absurd c_785 (by decide)
                · refine lv_iload hx hb dL_law_788 (lv_at hl 0 rfl) ?_
                  refine lv_aload hx hb dL_law_790 (lv_at hl 14 rfl) ?_
                  refine lv_iconst (v := 0) hx hb dL_law_792 (by decide) ?_
                  refine f_iald hx hb hG.1 hI rfl hnm hc_now (vp_in_iff.mpr ⟨by decide, by decide⟩) dL_law_793 ?_
                  refine lv_topi (fun tv etv => ?_)
                  have etv : tv = (p_fact (B i) 0) := etv
                  subst etv
                  refine lv_topi (fun tv etv => ?_)
                  have etv : tv = (nI P1) := etv.trans (e1)
                  subst etv
                  refine lv_icmp_ne (tgt := 801) hx hb dL_law_794 (by decide) (fun c_794 => ?_) (fun c_794 => ?_)
                  · exact (c_775 (hvw pl (by omega) (by have zq : ¬ pl = P1 := (fun q => c_794 (by rw [q])); omega) n_761)).elim
                  · refine lv_iconst (v := 1) hx hb dL_law_797 (by decide) ?_
                    refine lv_goto (tgt := 802) hx hb dL_law_798 (by decide) ?_
                    refine lv_icmp_eq (tgt := 807) hx hb dL_law_802 (by decide) (fun c_802 => ?_) (fun c_802 => ?_)
                    · refine lv_iinc (v := (nI (pl + 1))) (lv' := [(21, .int (nI (pl + 1))), (20, .int 1), (0, .ref t0), (1, .ref (ad 0)), (2, .ref (ad 50)), (3, .int (nI time)), (4, .int xv), (5, .int (nI n)), (6, .ref (ad 80)), (7, .ref (ad 90)), (11, .int (nI T0)), (14, .int (p_ones B n i)), (15, .int (p_psum B (i + 1))), (16, .int (nI i)), (17, .ref (ad 92))]) hx hb dL_law_807 hl (k := 0) rfl (nI_1 pl) (by decide) rfl (fun ls hl => ?_)
                      refine lv_goto (tgt := 745) hx hb dL_law_810 (by decide) ?_
                      exact ih (pl + 1) (by omega) (by omega) (by omega) H locs ls   hI (lv_sub hl [0, 1, 2, 3, 4, 5, 6, 7, 8, 9, 10, 11, 12, 13, 14] rfl)
                    · exact absurd c_802 (by decide)
      exact Kih ((P1 + 1) + 1) (P0 + 1) (by omega) (by omega) (by omega) H locs ls   hI (lv_sub hl [0, 1, 2, 3, 4, 5, 6, 7, 8, 9, 10, 11, 12, 13, 14] rfl)

set_option maxHeartbeats 4000000 in
set_option maxRecDepth 100000 in
theorem law_Gr (l : Launch) {pr : Program} {e : Env} {s : State} {m : MethodId} {args : Array Value} {below : List Frame} {meth : Method} {c : Code} {Q : State → Prop} (hx : pr.tables.exec = Jvm.exec) (hb : c.code = cL_law) (hml : c.maxLocals = 23) (hts : ∀ w ∈ wsL_law, w.before args s = true) (hown : s.vm.findClass RL = some m.cls) {D : va_G} {cI cJ cB : ClassId} {t0 z : Nat} {tx ad : Nat → Nat} {L : List Nat} (hG : fG D cI cJ cB t0 z tx s) {cells slots : Nat} {E : Nat → va_E} {H : Heap} {locs : List Loc} {ls : Array Slot} (hl9 : l.stackTraces = false) {w p g : Nat → Int32} {nw n T T0 : Nat} {B F B0 : Nat → Nat → Int32} {G : Nat → Int32} (hL0 : okL w p g nw n T B) (hOld : okL w p g nw n T0 B0) (hTT : T = T0 + 1) (hBB : ∀ i, i < n → B i = p_tick w p g nw (nI T0) (F i) (B0 i)) (hG0 : G = fun i => p_arr w p g nw T0 (F i) (B0 i) 0 401) (hT : T < 2 ^ 20) (hXm : ∀ k, k < 5 ∨ (10 ≤ k ∧ k < 24) ∨ (30 ≤ k ∧ k < 44) → k ∈ L) (hSm : ∀ k, (50 ≤ k ∧ k < 55) ∨ (60 ≤ k ∧ k < 60 + n) ∨ (70 ≤ k ∧ k < 70 + n) → k ∈ L) (hX : x_at cI cB ad E w p g nw n T B F) (hS : s_at cI cJ ad E w p g nw n T B F) (hWm : ∀ k, (80 ≤ k ∧ k < 81 + n) ∨ k = 90 → k ∈ L) (hW : w_at cI cJ ad E n B0 G) (hnm : 92 ∈ L) {i : Nat} (hi : i < n) (hc_now : E 92 = .inl (cI, 9, .inl (p_fact (B i)))) {time : Nat} {xv : Int32} (ht : time < 70) (hc : cells ≤ 100000) (hs : slots ≤ 500000) (hI : fI D (fA z) s.heap ad L E H locs) (hl : lv_has ls 23 [(0, .ref t0), (1, .ref (ad 0)), (2, .ref (ad 50)), (3, .int (nI time)), (4, .int xv), (5, .int (nI n)), (6, .ref (ad 80)), (7, .ref (ad 90)), (11, .int (nI T0)), (14, .int (p_ones B n i)), (15, .int (p_psum B (i + 1))), (16, .int (nI i)), (17, .ref (ad 92))]) (kk : ∀ (E1 : Nat → va_E) (H1 : Heap) (locs1 : List Loc) (ls1 : Array Slot) (c1 s1 : Nat), c1 ≤ cells + 16 → s1 ≤ slots + 96 → x_at cI cB ad E1 w p g nw n T B F → s_at cI cJ ad E1 w p g nw n T B F → w_at cI cJ ad E1 n B0 G → E1 92 = .inl (cI, 9, .inl (p_fact (B i))) → fI D (fA z) s.heap ad L E1 H1 locs1 → lv_has ls1 23 [(0, .ref t0), (1, .ref (ad 0)), (2, .ref (ad 50)), (3, .int (nI time)), (4, .int xv), (5, .int (nI n)), (6, .ref (ad 80)), (7, .ref (ad 90)), (11, .int (nI T0)), (14, .int (p_ones B n (i + 1))), (15, .int (p_psum B (i + 1))), (16, .int (nI i)), (17, .ref (ad 92))] → W pr l e ({ frames := 11, cells := 1200130, slots := 5501080, locals := 402 } : Room) s m args below meth c H1 locs1 c1 s1 Q (F0 m 1011 ls1 [])) : W pr l e ({ frames := 11, cells := 1200130, slots := 5501080, locals := 402 } : Room) s m args below meth c H locs cells slots Q (F0 m 862 ls []) := by
  have hT : T < 2 ^ 30 := by omega
  have hnw := hL0.1
  have hn6 := hL0.2.1
  have h8 := hL0.h8
  have hok := hL0.2.2.2.1
  have hc_now : E 92 = .inl (cI, 9, .inl (p_fact (B i))) := hc_now
  refine lv_iconst (v := 1) hx hb dL_law_862 (by decide) ?_
  refine lv_istore (lv' := [(20, .int 1), (0, .ref t0), (1, .ref (ad 0)), (2, .ref (ad 50)), (3, .int (nI time)), (4, .int xv), (5, .int (nI n)), (6, .ref (ad 80)), (7, .ref (ad 90)), (11, .int (nI T0)), (14, .int (p_ones B n i)), (15, .int (p_psum B (i + 1))), (16, .int (nI i)), (17, .ref (ad 92))]) hx hb dL_law_863 hl (by decide) rfl (fun ls hl => ?_)
  have hl : lv_has ls 23 [(20, .int (1 + p_rk B (B i) 0)), (0, .ref t0), (1, .ref (ad 0)), (2, .ref (ad 50)), (3, .int (nI time)), (4, .int xv), (5, .int (nI n)), (6, .ref (ad 80)), (7, .ref (ad 90)), (11, .int (nI T0)), (14, .int (p_ones B n i)), (15, .int (p_psum B (i + 1))), (16, .int (nI i)), (17, .ref (ad 92))] := by rw [show 1 + p_rk B (B i) 0 = 1 from rfl]; exact hl
  refine lv_iconst (v := 0) hx hb dL_law_865 (by decide) ?_
  refine lv_istore (lv' := [(21, .int 0), (20, .int (1 + p_rk B (B i) 0)), (0, .ref t0), (1, .ref (ad 0)), (2, .ref (ad 50)), (3, .int (nI time)), (4, .int xv), (5, .int (nI n)), (6, .ref (ad 80)), (7, .ref (ad 90)), (11, .int (nI T0)), (14, .int (p_ones B n i)), (15, .int (p_psum B (i + 1))), (16, .int (nI i)), (17, .ref (ad 92))]) hx hb dL_law_866 hl (by decide) rfl (fun ls hl => ?_)
  have Kih : ∀ (dj j : Nat), 0 ≤ j → j ≤ n → n + 1 ≤ j + dj → ∀ (Ea : Nat → va_E), ∀ (H : Heap) (locs : List Loc) (ls : Array Slot), ∀ (ccj ssj : Nat), ccj ≤ cells + 2 * j → ssj ≤ slots + 12 * j → (x_at cI cB ad Ea w p g nw n T B F) → (s_at cI cJ ad Ea w p g nw n T B F) → (w_at cI cJ ad Ea n B0 G) → (Ea 92 = .inl (cI, 9, .inl (p_fact (B i)))) → fI D (fA z) s.heap ad L Ea H locs → lv_has ls 23 [(21, .int (nI j)), (20, .int (1 + p_rk B (B i) j)), (0, .ref t0), (1, .ref (ad 0)), (2, .ref (ad 50)), (3, .int (nI time)), (4, .int xv), (5, .int (nI n)), (6, .ref (ad 80)), (7, .ref (ad 90)), (11, .int (nI T0)), (14, .int (p_ones B n i)), (15, .int (p_psum B (i + 1))), (16, .int (nI i)), (17, .ref (ad 92))] → W pr l e ({ frames := 11, cells := 1200130, slots := 5501080, locals := 402 } : Room) s m args below meth c H locs ccj ssj Q (F0 m 868 ls []) := by
    intro dj
    induction dj with
    | zero => intro j h0 h1 h2; exact absurd h2 (by omega)
    | succ dj ih =>
      intro j hi0j hi1j hi2j Ea  H locs ls ccj ssj hcih hsih hX hS hW hc_now hI hl
      refine lv_iload hx hb dL_law_868 (lv_at hl 0 rfl) ?_
      refine lv_iload hx hb dL_law_870 (lv_at hl 7 rfl) ?_
      refine lv_icmp_ge (tgt := 982) hx hb dL_law_872 (by decide) (fun c_872 => ?_) (fun c_872 => ?_)
      · have n_872 := i_nlt.mpr c_872
        have hj : n = j := by have := (nI_leI (by omega) (by omega)).mp c_872; omega
        subst hj
        refine lv_aload_n hx hb dL_law_982 rfl (lv_at hl 3 rfl) ?_
        refine lv_iload hx hb dL_law_983 (lv_at hl 13 rfl) ?_
        refine f_xcalli (vx_runV (As := [.int (nI i)]) (rest := []) ⟨hx, hb, hml, hown, hts⟩ (m_X3_rank l hl9 hX hnw hn6 hT h8 hXm (nI i)) (cwV 1 hts gL_law_X3_rank rfl rfl rfl (by decide +kernel) ⟨(Nat.le_of_ble_eq_true rfl), (Nat.le_of_ble_eq_true rfl)⟩) (fPre_ofV hG hI rfl (hXm 0 (by omega)) hX.1 rfl rfl) rfl rfl hl.1 rfl (lv_room (Nat.le_of_ble_eq_true rfl)) dL_law_985 ⟨(by show _ ≤ 1200130; omega), (by show _ ≤ 5501080; omega)⟩) hI (fun En ce q9 H locs hok hI hq1 hq2 hq3 => ?_) (fun r1 E2 H locs hp hI => ?_)
        · exact absurd hok.1 (by rw [crank_0 (n := n) (b := i) (by omega) hn6]; decide)
        obtain ⟨-, hr9, hX, hn9⟩ := hp
        have hr9 : r1 = (1 + p_rk B (B i) n) := hr9.trans (by rw [show (nI i).toNatClampNeg = i from nI_clamp (by omega)])
        subst hr9
        have hc_now : E2 92 = .inl (cI, 9, .inl (p_fact (B i))) := (hn9 92 (by omega)).trans hc_now
        have hS := hS.kept hn6 (fun q h1 h2 => hn9 q (by omega))
        have hW := hW.kept hn6 (fun q h1 h2 => hn9 q (by omega))
        refine lv_iload hx hb dL_law_988 (lv_at hl 1 rfl) ?_
        refine lv_icmp_eq (tgt := 995) hx hb dL_law_990 (by decide) (fun c_990 => ?_) (fun c_990 => ?_)
        · refine lv_iload hx hb dL_law_995 (lv_at hl 11 rfl) ?_
          refine lv_iload hx hb dL_law_997 (lv_at hl 1 rfl) ?_
          refine lv_iconst (v := 1) hx hb dL_law_999 (by decide) ?_
          refine lv_icmp_ne (tgt := 1007) hx hb dL_law_1000 (by decide) (fun c_1000 => ?_) (fun c_1000 => ?_)
          · refine lv_iconst (v := 0) hx hb dL_law_1007 (by decide) ?_
            refine lv_iadd hx hb dL_law_1008 ?_
            refine lv_topi (fun tv etv => ?_)
            have etv : tv = (p_ones B n (i + 1)) := etv.trans (by rw [p_ones, if_neg c_1000])
            subst etv
            refine lv_istore (lv' := [(14, .int (p_ones B n (i + 1))), (21, .int (nI n)), (20, .int (1 + p_rk B (B i) n)), (0, .ref t0), (1, .ref (ad 0)), (2, .ref (ad 50)), (3, .int (nI time)), (4, .int xv), (5, .int (nI n)), (6, .ref (ad 80)), (7, .ref (ad 90)), (11, .int (nI T0)), (15, .int (p_psum B (i + 1))), (16, .int (nI i)), (17, .ref (ad 92))]) hx hb dL_law_1009 hl (by decide) rfl (fun ls hl => ?_)
            exact kk E2 H locs ls _ _ (by omega) (by omega) hX hS hW hc_now hI (lv_sub hl [3, 4, 5, 6, 7, 8, 9, 10, 11, 0, 12, 13, 14] rfl)
          · refine lv_iconst (v := 1) hx hb dL_law_1003 (by decide) ?_
            refine lv_goto (tgt := 1008) hx hb dL_law_1004 (by decide) ?_
            refine lv_iadd hx hb dL_law_1008 ?_
            refine lv_topi (fun tv etv => ?_)
            have etv : tv = (p_ones B n (i + 1)) := etv.trans (by rw [p_ones, if_pos c_1000])
            subst etv
            refine lv_istore (lv' := [(14, .int (p_ones B n (i + 1))), (21, .int (nI n)), (20, .int (1 + p_rk B (B i) n)), (0, .ref t0), (1, .ref (ad 0)), (2, .ref (ad 50)), (3, .int (nI time)), (4, .int xv), (5, .int (nI n)), (6, .ref (ad 80)), (7, .ref (ad 90)), (11, .int (nI T0)), (15, .int (p_psum B (i + 1))), (16, .int (nI i)), (17, .ref (ad 92))]) hx hb dL_law_1009 hl (by decide) rfl (fun ls hl => ?_)
            exact kk E2 H locs ls _ _ (by omega) (by omega) hX hS hW hc_now hI (lv_sub hl [3, 4, 5, 6, 7, 8, 9, 10, 11, 0, 12, 13, 14] rfl)
        · exact absurd rfl c_990
      · have n_872 := c_872
        have c_872 := i_nle.mp n_872
        have hj : j < n := (nI_ltI (by omega) (by omega)).mp c_872
        refine lv_aload_n hx hb dL_law_875 rfl (lv_at hl 3 rfl) ?_
        refine lv_iload hx hb dL_law_876 (lv_at hl 0 rfl) ?_
        refine lv_iconst (v := 5) hx hb dL_law_878 (by decide) ?_
        refine f_xcalli (vx_runV (As := [.int (nI j), .int 5]) (rest := []) ⟨hx, hb, hml, hown, hts⟩ (m_X3_boat l hl9 hX hnw hn6 hT h8 hXm (nI j) 5) (cwV 2 hts gL_law_X3_boat rfl rfl rfl (by decide +kernel) ⟨(Nat.le_of_ble_eq_true rfl), (Nat.le_of_ble_eq_true rfl)⟩) (fPre_ofV hG hI rfl (hXm 0 (by omega)) hX.1 rfl rfl) rfl rfl hl.1 rfl (lv_room (Nat.le_of_ble_eq_true rfl)) dL_law_879 ⟨(by show _ ≤ 1200130; omega), (by show _ ≤ 5501080; omega)⟩) hI (fun En ce q9 H locs hok hI hq1 hq2 hq3 => ?_) (fun r3 E4 H locs hp hI => ?_)
        · exact absurd hok.1 (by rw [(show c_boat n (nI j) 5 = 0 from cboat_0 (n := n) (b := j) (v := 5) (by omega) hn6 (by omega))]; decide)
        obtain ⟨-, hr9, hX, hn9⟩ := hp
        have hr9 : r3 = (p_fact (B j) 5) := hr9.trans (by rw [show (nI j).toNatClampNeg = j from nI_clamp (by omega)]; rfl)
        subst hr9
        have hc_now : E4 92 = .inl (cI, 9, .inl (p_fact (B i))) := (hn9 92 (by omega)).trans hc_now
        have hS := hS.kept hn6 (fun q h1 h2 => hn9 q (by omega))
        have hW := hW.kept hn6 (fun q h1 h2 => hn9 q (by omega))
        refine lv_aload hx hb dL_law_882 (lv_at hl 14 rfl) ?_
        refine lv_iconst (v := 5) hx hb dL_law_884 (by decide) ?_
        refine f_iald hx hb hG.1 hI rfl hnm hc_now (vp_in_iff.mpr ⟨by decide, by decide⟩) dL_law_885 ?_
        refine lv_topi (fun tv etv => ?_)
        have etv : tv = (p_fact (B i) 5) := etv
        subst etv
        refine lv_icmp_eq (tgt := 908) hx hb dL_law_886 (by decide) (fun c_886 => ?_) (fun c_886 => ?_)
        · refine lv_aload hx hb dL_law_908 (lv_at hl 14 rfl) ?_
          refine lv_iconst (v := 5) hx hb dL_law_910 (by decide) ?_
          refine f_iald hx hb hG.1 hI rfl hnm hc_now (vp_in_iff.mpr ⟨by decide, by decide⟩) dL_law_911 ?_
          refine lv_topi (fun tv etv => ?_)
          have etv : tv = (p_fact (B i) 5) := etv
          subst etv
          refine lv_iconst (v := 1) hx hb dL_law_912 (by decide) ?_
          refine lv_icmp_ne (tgt := 940) hx hb dL_law_913 (by decide) (fun c_913 => ?_) (fun c_913 => ?_)
          · refine lv_aload_n hx hb dL_law_940 rfl (lv_at hl 3 rfl) ?_
            refine lv_iload hx hb dL_law_941 (lv_at hl 0 rfl) ?_
            refine lv_iconst (v := 0) hx hb dL_law_943 (by decide) ?_
            refine f_xcalli (vx_runV (As := [.int (nI j), .int 0]) (rest := []) ⟨hx, hb, hml, hown, hts⟩ (m_X3_boat l hl9 hX hnw hn6 hT h8 hXm (nI j) 0) (cwV 2 hts gL_law_X3_boat rfl rfl rfl (by decide +kernel) ⟨(Nat.le_of_ble_eq_true rfl), (Nat.le_of_ble_eq_true rfl)⟩) (fPre_ofV hG hI rfl (hXm 0 (by omega)) hX.1 rfl rfl) rfl rfl hl.1 rfl (lv_room (Nat.le_of_ble_eq_true rfl)) dL_law_944 ⟨(by show _ ≤ 1200130; omega), (by show _ ≤ 5501080; omega)⟩) hI (fun En ce q9 H locs hok hI hq1 hq2 hq3 => ?_) (fun r5 E6 H locs hp hI => ?_)
            · exact absurd hok.1 (by rw [(show c_boat n (nI j) 0 = 0 from cboat_0 (n := n) (b := j) (v := 0) (by omega) hn6 (by omega))]; decide)
            obtain ⟨-, hr9, hX, hn9⟩ := hp
            have hr9 : r5 = (p_fact (B j) 0) := hr9.trans (by rw [show (nI j).toNatClampNeg = j from nI_clamp (by omega)]; rfl)
            subst hr9
            have hc_now : E6 92 = .inl (cI, 9, .inl (p_fact (B i))) := (hn9 92 (by omega)).trans hc_now
            have hS := hS.kept hn6 (fun q h1 h2 => hn9 q (by omega))
            have hW := hW.kept hn6 (fun q h1 h2 => hn9 q (by omega))
            refine lv_aload hx hb dL_law_947 (lv_at hl 14 rfl) ?_
            refine lv_iconst (v := 0) hx hb dL_law_949 (by decide) ?_
            refine f_iald hx hb hG.1 hI rfl hnm hc_now (vp_in_iff.mpr ⟨by decide, by decide⟩) dL_law_950 ?_
            refine lv_topi (fun tv etv => ?_)
            have etv : tv = (p_fact (B i) 0) := etv
            subst etv
            refine lv_icmp_le (tgt := 958) hx hb dL_law_951 (by decide) (fun c_951 => ?_) (fun c_951 => ?_)
            · have n_951 := i_nlt.mpr c_951
              refine lv_iconst (v := 0) hx hb dL_law_958 (by decide) ?_
              refine lv_istore (lv' := [(22, .int 0), (21, .int (nI j)), (20, .int (1 + p_rk B (B i) j)), (0, .ref t0), (1, .ref (ad 0)), (2, .ref (ad 50)), (3, .int (nI time)), (4, .int xv), (5, .int (nI n)), (6, .ref (ad 80)), (7, .ref (ad 90)), (11, .int (nI T0)), (14, .int (p_ones B n i)), (15, .int (p_psum B (i + 1))), (16, .int (nI i)), (17, .ref (ad 92))]) hx hb dL_law_959 hl (by decide) rfl (fun ls hl => ?_)
              refine lv_iload hx hb dL_law_961 (lv_at hl 2 rfl) ?_
              refine lv_iload hx hb dL_law_963 (lv_at hl 0 rfl) ?_
              refine lv_if_eq (tgt := 972) hx hb dL_law_965 (by decide) (fun c_965 => ?_) (fun c_965 => ?_)
              · refine lv_iconst (v := 0) hx hb dL_law_972 (by decide) ?_
                refine lv_iadd hx hb dL_law_973 ?_
                refine lv_topi (fun tv etv => ?_)
                have etv : tv = (1 + p_rk B (B i) (j + 1)) := etv.trans (rk_s0 ((l_ahead_eq _ _).symm.trans (by unfold l_ahead; rw [if_pos c_886, if_neg c_913, if_neg n_951])))
                subst etv
                refine lv_istore (lv' := [(20, .int (1 + p_rk B (B i) (j + 1))), (22, .int 0), (21, .int (nI j)), (0, .ref t0), (1, .ref (ad 0)), (2, .ref (ad 50)), (3, .int (nI time)), (4, .int xv), (5, .int (nI n)), (6, .ref (ad 80)), (7, .ref (ad 90)), (11, .int (nI T0)), (14, .int (p_ones B n i)), (15, .int (p_psum B (i + 1))), (16, .int (nI i)), (17, .ref (ad 92))]) hx hb dL_law_974 hl (by decide) rfl (fun ls hl => ?_)
                refine lv_iinc (v := (nI (j + 1))) (lv' := [(21, .int (nI (j + 1))), (20, .int (1 + p_rk B (B i) (j + 1))), (22, .int 0), (0, .ref t0), (1, .ref (ad 0)), (2, .ref (ad 50)), (3, .int (nI time)), (4, .int xv), (5, .int (nI n)), (6, .ref (ad 80)), (7, .ref (ad 90)), (11, .int (nI T0)), (14, .int (p_ones B n i)), (15, .int (p_psum B (i + 1))), (16, .int (nI i)), (17, .ref (ad 92))]) hx hb dL_law_976 hl (k := 2) rfl (nI_1 j) (by decide) rfl (fun ls hl => ?_)
                refine lv_goto (tgt := 868) hx hb dL_law_979 (by decide) ?_
                exact ih (j + 1) (by omega) (by omega) (by omega) E6 H locs ls _ _ (by omega) (by omega) hX hS hW hc_now hI (lv_sub hl [0, 1, 3, 4, 5, 6, 7, 8, 9, 10, 11, 12, 13, 14, 15] rfl)
              · exact absurd c_965 (by decide)
            · have n_951 := c_951
              have c_951 := i_nle.mp n_951
              refine lv_iconst (v := 1) hx hb dL_law_954 (by decide) ?_
              refine lv_goto (tgt := 959) hx hb dL_law_955 (by decide) ?_
              refine lv_istore (lv' := [(22, .int 1), (21, .int (nI j)), (20, .int (1 + p_rk B (B i) j)), (0, .ref t0), (1, .ref (ad 0)), (2, .ref (ad 50)), (3, .int (nI time)), (4, .int xv), (5, .int (nI n)), (6, .ref (ad 80)), (7, .ref (ad 90)), (11, .int (nI T0)), (14, .int (p_ones B n i)), (15, .int (p_psum B (i + 1))), (16, .int (nI i)), (17, .ref (ad 92))]) hx hb dL_law_959 hl (by decide) rfl (fun ls hl => ?_)
              refine lv_iload hx hb dL_law_961 (lv_at hl 2 rfl) ?_
              refine lv_iload hx hb dL_law_963 (lv_at hl 0 rfl) ?_
              refine lv_if_eq (tgt := 972) hx hb dL_law_965 (by decide) (fun c_965 => ?_) (fun c_965 => ?_)
              · exact absurd c_965 (by decide)
              · refine lv_iconst (v := 1) hx hb dL_law_968 (by decide) ?_
                refine lv_goto (tgt := 973) hx hb dL_law_969 (by decide) ?_
                refine lv_iadd hx hb dL_law_973 ?_
                refine lv_topi (fun tv etv => ?_)
                have etv : tv = (1 + p_rk B (B i) (j + 1)) := etv.trans (rk_s1 ((l_ahead_eq _ _).symm.trans (by unfold l_ahead; rw [if_pos c_886, if_neg c_913, if_pos c_951])))
                subst etv
                refine lv_istore (lv' := [(20, .int (1 + p_rk B (B i) (j + 1))), (22, .int 1), (21, .int (nI j)), (0, .ref t0), (1, .ref (ad 0)), (2, .ref (ad 50)), (3, .int (nI time)), (4, .int xv), (5, .int (nI n)), (6, .ref (ad 80)), (7, .ref (ad 90)), (11, .int (nI T0)), (14, .int (p_ones B n i)), (15, .int (p_psum B (i + 1))), (16, .int (nI i)), (17, .ref (ad 92))]) hx hb dL_law_974 hl (by decide) rfl (fun ls hl => ?_)
                refine lv_iinc (v := (nI (j + 1))) (lv' := [(21, .int (nI (j + 1))), (20, .int (1 + p_rk B (B i) (j + 1))), (22, .int 1), (0, .ref t0), (1, .ref (ad 0)), (2, .ref (ad 50)), (3, .int (nI time)), (4, .int xv), (5, .int (nI n)), (6, .ref (ad 80)), (7, .ref (ad 90)), (11, .int (nI T0)), (14, .int (p_ones B n i)), (15, .int (p_psum B (i + 1))), (16, .int (nI i)), (17, .ref (ad 92))]) hx hb dL_law_976 hl (k := 2) rfl (nI_1 j) (by decide) rfl (fun ls hl => ?_)
                refine lv_goto (tgt := 868) hx hb dL_law_979 (by decide) ?_
                exact ih (j + 1) (by omega) (by omega) (by omega) E6 H locs ls _ _ (by omega) (by omega) hX hS hW hc_now hI (lv_sub hl [0, 1, 3, 4, 5, 6, 7, 8, 9, 10, 11, 12, 13, 14, 15] rfl)
          · refine lv_aload_n hx hb dL_law_916 rfl (lv_at hl 3 rfl) ?_
            refine lv_iload hx hb dL_law_917 (lv_at hl 0 rfl) ?_
            refine lv_bipush (v := 6) hx hb dL_law_919 (by decide) ?_
            refine f_xcalli (vx_runV (As := [.int (nI j), .int 6]) (rest := []) ⟨hx, hb, hml, hown, hts⟩ (m_X3_boat l hl9 hX hnw hn6 hT h8 hXm (nI j) 6) (cwV 2 hts gL_law_X3_boat rfl rfl rfl (by decide +kernel) ⟨(Nat.le_of_ble_eq_true rfl), (Nat.le_of_ble_eq_true rfl)⟩) (fPre_ofV hG hI rfl (hXm 0 (by omega)) hX.1 rfl rfl) rfl rfl hl.1 rfl (lv_room (Nat.le_of_ble_eq_true rfl)) dL_law_921 ⟨(by show _ ≤ 1200130; omega), (by show _ ≤ 5501080; omega)⟩) hI (fun En ce q9 H locs hok hI hq1 hq2 hq3 => ?_) (fun r7 E8 H locs hp hI => ?_)
            · exact absurd hok.1 (by rw [(show c_boat n (nI j) 6 = 0 from cboat_0 (n := n) (b := j) (v := 6) (by omega) hn6 (by omega))]; decide)
            obtain ⟨-, hr9, hX, hn9⟩ := hp
            have hr9 : r7 = (p_fact (B j) 6) := hr9.trans (by rw [show (nI j).toNatClampNeg = j from nI_clamp (by omega)]; rfl)
            subst hr9
            have hc_now : E8 92 = .inl (cI, 9, .inl (p_fact (B i))) := (hn9 92 (by omega)).trans hc_now
            have hS := hS.kept hn6 (fun q h1 h2 => hn9 q (by omega))
            have hW := hW.kept hn6 (fun q h1 h2 => hn9 q (by omega))
            refine lv_aload hx hb dL_law_924 (lv_at hl 14 rfl) ?_
            refine lv_bipush (v := 6) hx hb dL_law_926 (by decide) ?_
            refine f_iald hx hb hG.1 hI rfl hnm hc_now (vp_in_iff.mpr ⟨by decide, by decide⟩) dL_law_928 ?_
            refine lv_topi (fun tv etv => ?_)
            have etv : tv = (p_fact (B i) 6) := etv
            subst etv
            refine lv_icmp_ge (tgt := 936) hx hb dL_law_929 (by decide) (fun c_929 => ?_) (fun c_929 => ?_)
            · have n_929 := i_nlt.mpr c_929
              refine lv_iconst (v := 0) hx hb dL_law_936 (by decide) ?_
              refine lv_goto (tgt := 959) hx hb dL_law_937 (by decide) ?_
              refine lv_istore (lv' := [(22, .int 0), (21, .int (nI j)), (20, .int (1 + p_rk B (B i) j)), (0, .ref t0), (1, .ref (ad 0)), (2, .ref (ad 50)), (3, .int (nI time)), (4, .int xv), (5, .int (nI n)), (6, .ref (ad 80)), (7, .ref (ad 90)), (11, .int (nI T0)), (14, .int (p_ones B n i)), (15, .int (p_psum B (i + 1))), (16, .int (nI i)), (17, .ref (ad 92))]) hx hb dL_law_959 hl (by decide) rfl (fun ls hl => ?_)
              refine lv_iload hx hb dL_law_961 (lv_at hl 2 rfl) ?_
              refine lv_iload hx hb dL_law_963 (lv_at hl 0 rfl) ?_
              refine lv_if_eq (tgt := 972) hx hb dL_law_965 (by decide) (fun c_965 => ?_) (fun c_965 => ?_)
              · refine lv_iconst (v := 0) hx hb dL_law_972 (by decide) ?_
                refine lv_iadd hx hb dL_law_973 ?_
                refine lv_topi (fun tv etv => ?_)
                have etv : tv = (1 + p_rk B (B i) (j + 1)) := etv.trans (rk_s0 ((l_ahead_eq _ _).symm.trans (by unfold l_ahead; rw [if_pos c_886, if_pos c_913, if_neg n_929])))
                subst etv
                refine lv_istore (lv' := [(20, .int (1 + p_rk B (B i) (j + 1))), (22, .int 0), (21, .int (nI j)), (0, .ref t0), (1, .ref (ad 0)), (2, .ref (ad 50)), (3, .int (nI time)), (4, .int xv), (5, .int (nI n)), (6, .ref (ad 80)), (7, .ref (ad 90)), (11, .int (nI T0)), (14, .int (p_ones B n i)), (15, .int (p_psum B (i + 1))), (16, .int (nI i)), (17, .ref (ad 92))]) hx hb dL_law_974 hl (by decide) rfl (fun ls hl => ?_)
                refine lv_iinc (v := (nI (j + 1))) (lv' := [(21, .int (nI (j + 1))), (20, .int (1 + p_rk B (B i) (j + 1))), (22, .int 0), (0, .ref t0), (1, .ref (ad 0)), (2, .ref (ad 50)), (3, .int (nI time)), (4, .int xv), (5, .int (nI n)), (6, .ref (ad 80)), (7, .ref (ad 90)), (11, .int (nI T0)), (14, .int (p_ones B n i)), (15, .int (p_psum B (i + 1))), (16, .int (nI i)), (17, .ref (ad 92))]) hx hb dL_law_976 hl (k := 2) rfl (nI_1 j) (by decide) rfl (fun ls hl => ?_)
                refine lv_goto (tgt := 868) hx hb dL_law_979 (by decide) ?_
                exact ih (j + 1) (by omega) (by omega) (by omega) E8 H locs ls _ _ (by omega) (by omega) hX hS hW hc_now hI (lv_sub hl [0, 1, 3, 4, 5, 6, 7, 8, 9, 10, 11, 12, 13, 14, 15] rfl)
              · exact absurd c_965 (by decide)
            · have n_929 := c_929
              have c_929 := i_nle.mp n_929
              refine lv_iconst (v := 1) hx hb dL_law_932 (by decide) ?_
              refine lv_goto (tgt := 959) hx hb dL_law_933 (by decide) ?_
              refine lv_istore (lv' := [(22, .int 1), (21, .int (nI j)), (20, .int (1 + p_rk B (B i) j)), (0, .ref t0), (1, .ref (ad 0)), (2, .ref (ad 50)), (3, .int (nI time)), (4, .int xv), (5, .int (nI n)), (6, .ref (ad 80)), (7, .ref (ad 90)), (11, .int (nI T0)), (14, .int (p_ones B n i)), (15, .int (p_psum B (i + 1))), (16, .int (nI i)), (17, .ref (ad 92))]) hx hb dL_law_959 hl (by decide) rfl (fun ls hl => ?_)
              refine lv_iload hx hb dL_law_961 (lv_at hl 2 rfl) ?_
              refine lv_iload hx hb dL_law_963 (lv_at hl 0 rfl) ?_
              refine lv_if_eq (tgt := 972) hx hb dL_law_965 (by decide) (fun c_965 => ?_) (fun c_965 => ?_)
              · exact absurd c_965 (by decide)
              · refine lv_iconst (v := 1) hx hb dL_law_968 (by decide) ?_
                refine lv_goto (tgt := 973) hx hb dL_law_969 (by decide) ?_
                refine lv_iadd hx hb dL_law_973 ?_
                refine lv_topi (fun tv etv => ?_)
                have etv : tv = (1 + p_rk B (B i) (j + 1)) := etv.trans (rk_s1 ((l_ahead_eq _ _).symm.trans (by unfold l_ahead; rw [if_pos c_886, if_pos c_913, if_pos c_929])))
                subst etv
                refine lv_istore (lv' := [(20, .int (1 + p_rk B (B i) (j + 1))), (22, .int 1), (21, .int (nI j)), (0, .ref t0), (1, .ref (ad 0)), (2, .ref (ad 50)), (3, .int (nI time)), (4, .int xv), (5, .int (nI n)), (6, .ref (ad 80)), (7, .ref (ad 90)), (11, .int (nI T0)), (14, .int (p_ones B n i)), (15, .int (p_psum B (i + 1))), (16, .int (nI i)), (17, .ref (ad 92))]) hx hb dL_law_974 hl (by decide) rfl (fun ls hl => ?_)
                refine lv_iinc (v := (nI (j + 1))) (lv' := [(21, .int (nI (j + 1))), (20, .int (1 + p_rk B (B i) (j + 1))), (22, .int 1), (0, .ref t0), (1, .ref (ad 0)), (2, .ref (ad 50)), (3, .int (nI time)), (4, .int xv), (5, .int (nI n)), (6, .ref (ad 80)), (7, .ref (ad 90)), (11, .int (nI T0)), (14, .int (p_ones B n i)), (15, .int (p_psum B (i + 1))), (16, .int (nI i)), (17, .ref (ad 92))]) hx hb dL_law_976 hl (k := 2) rfl (nI_1 j) (by decide) rfl (fun ls hl => ?_)
                refine lv_goto (tgt := 868) hx hb dL_law_979 (by decide) ?_
                exact ih (j + 1) (by omega) (by omega) (by omega) E8 H locs ls _ _ (by omega) (by omega) hX hS hW hc_now hI (lv_sub hl [0, 1, 3, 4, 5, 6, 7, 8, 9, 10, 11, 12, 13, 14, 15] rfl)
        · refine lv_aload_n hx hb dL_law_889 rfl (lv_at hl 3 rfl) ?_
          refine lv_iload hx hb dL_law_890 (lv_at hl 0 rfl) ?_
          refine lv_iconst (v := 5) hx hb dL_law_892 (by decide) ?_
          refine f_xcalli (vx_runV (As := [.int (nI j), .int 5]) (rest := []) ⟨hx, hb, hml, hown, hts⟩ (m_X3_boat l hl9 hX hnw hn6 hT h8 hXm (nI j) 5) (cwV 2 hts gL_law_X3_boat rfl rfl rfl (by decide +kernel) ⟨(Nat.le_of_ble_eq_true rfl), (Nat.le_of_ble_eq_true rfl)⟩) (fPre_ofV hG hI rfl (hXm 0 (by omega)) hX.1 rfl rfl) rfl rfl hl.1 rfl (lv_room (Nat.le_of_ble_eq_true rfl)) dL_law_893 ⟨(by show _ ≤ 1200130; omega), (by show _ ≤ 5501080; omega)⟩) hI (fun En ce q9 H locs hok hI hq1 hq2 hq3 => ?_) (fun r9 E10 H locs hp hI => ?_)
          · exact absurd hok.1 (by rw [(show c_boat n (nI j) 5 = 0 from cboat_0 (n := n) (b := j) (v := 5) (by omega) hn6 (by omega))]; decide)
          obtain ⟨-, hr9, hX, hn9⟩ := hp
          have hr9 : r9 = (p_fact (B j) 5) := hr9.trans (by rw [show (nI j).toNatClampNeg = j from nI_clamp (by omega)]; rfl)
          subst hr9
          have hc_now : E10 92 = .inl (cI, 9, .inl (p_fact (B i))) := (hn9 92 (by omega)).trans hc_now
          have hS := hS.kept hn6 (fun q h1 h2 => hn9 q (by omega))
          have hW := hW.kept hn6 (fun q h1 h2 => hn9 q (by omega))
          refine lv_iconst (v := 1) hx hb dL_law_896 (by decide) ?_
          refine lv_icmp_ne (tgt := 904) hx hb dL_law_897 (by decide) (fun c_897 => ?_) (fun c_897 => ?_)
          · refine lv_iconst (v := 0) hx hb dL_law_904 (by decide) ?_
            refine lv_goto (tgt := 959) hx hb dL_law_905 (by decide) ?_
            refine lv_istore (lv' := [(22, .int 0), (21, .int (nI j)), (20, .int (1 + p_rk B (B i) j)), (0, .ref t0), (1, .ref (ad 0)), (2, .ref (ad 50)), (3, .int (nI time)), (4, .int xv), (5, .int (nI n)), (6, .ref (ad 80)), (7, .ref (ad 90)), (11, .int (nI T0)), (14, .int (p_ones B n i)), (15, .int (p_psum B (i + 1))), (16, .int (nI i)), (17, .ref (ad 92))]) hx hb dL_law_959 hl (by decide) rfl (fun ls hl => ?_)
            refine lv_iload hx hb dL_law_961 (lv_at hl 2 rfl) ?_
            refine lv_iload hx hb dL_law_963 (lv_at hl 0 rfl) ?_
            refine lv_if_eq (tgt := 972) hx hb dL_law_965 (by decide) (fun c_965 => ?_) (fun c_965 => ?_)
            · refine lv_iconst (v := 0) hx hb dL_law_972 (by decide) ?_
              refine lv_iadd hx hb dL_law_973 ?_
              refine lv_topi (fun tv etv => ?_)
              have etv : tv = (1 + p_rk B (B i) (j + 1)) := etv.trans (rk_s0 ((l_ahead_eq _ _).symm.trans (by unfold l_ahead; rw [if_neg c_886, if_neg c_897])))
              subst etv
              refine lv_istore (lv' := [(20, .int (1 + p_rk B (B i) (j + 1))), (22, .int 0), (21, .int (nI j)), (0, .ref t0), (1, .ref (ad 0)), (2, .ref (ad 50)), (3, .int (nI time)), (4, .int xv), (5, .int (nI n)), (6, .ref (ad 80)), (7, .ref (ad 90)), (11, .int (nI T0)), (14, .int (p_ones B n i)), (15, .int (p_psum B (i + 1))), (16, .int (nI i)), (17, .ref (ad 92))]) hx hb dL_law_974 hl (by decide) rfl (fun ls hl => ?_)
              refine lv_iinc (v := (nI (j + 1))) (lv' := [(21, .int (nI (j + 1))), (20, .int (1 + p_rk B (B i) (j + 1))), (22, .int 0), (0, .ref t0), (1, .ref (ad 0)), (2, .ref (ad 50)), (3, .int (nI time)), (4, .int xv), (5, .int (nI n)), (6, .ref (ad 80)), (7, .ref (ad 90)), (11, .int (nI T0)), (14, .int (p_ones B n i)), (15, .int (p_psum B (i + 1))), (16, .int (nI i)), (17, .ref (ad 92))]) hx hb dL_law_976 hl (k := 2) rfl (nI_1 j) (by decide) rfl (fun ls hl => ?_)
              refine lv_goto (tgt := 868) hx hb dL_law_979 (by decide) ?_
              exact ih (j + 1) (by omega) (by omega) (by omega) E10 H locs ls _ _ (by omega) (by omega) hX hS hW hc_now hI (lv_sub hl [0, 1, 3, 4, 5, 6, 7, 8, 9, 10, 11, 12, 13, 14, 15] rfl)
            · exact absurd c_965 (by decide)
          · refine lv_iconst (v := 1) hx hb dL_law_900 (by decide) ?_
            refine lv_goto (tgt := 959) hx hb dL_law_901 (by decide) ?_
            refine lv_istore (lv' := [(22, .int 1), (21, .int (nI j)), (20, .int (1 + p_rk B (B i) j)), (0, .ref t0), (1, .ref (ad 0)), (2, .ref (ad 50)), (3, .int (nI time)), (4, .int xv), (5, .int (nI n)), (6, .ref (ad 80)), (7, .ref (ad 90)), (11, .int (nI T0)), (14, .int (p_ones B n i)), (15, .int (p_psum B (i + 1))), (16, .int (nI i)), (17, .ref (ad 92))]) hx hb dL_law_959 hl (by decide) rfl (fun ls hl => ?_)
            refine lv_iload hx hb dL_law_961 (lv_at hl 2 rfl) ?_
            refine lv_iload hx hb dL_law_963 (lv_at hl 0 rfl) ?_
            refine lv_if_eq (tgt := 972) hx hb dL_law_965 (by decide) (fun c_965 => ?_) (fun c_965 => ?_)
            · exact absurd c_965 (by decide)
            · refine lv_iconst (v := 1) hx hb dL_law_968 (by decide) ?_
              refine lv_goto (tgt := 973) hx hb dL_law_969 (by decide) ?_
              refine lv_iadd hx hb dL_law_973 ?_
              refine lv_topi (fun tv etv => ?_)
              have etv : tv = (1 + p_rk B (B i) (j + 1)) := etv.trans (rk_s1 ((l_ahead_eq _ _).symm.trans (by unfold l_ahead; rw [if_neg c_886, if_pos c_897])))
              subst etv
              refine lv_istore (lv' := [(20, .int (1 + p_rk B (B i) (j + 1))), (22, .int 1), (21, .int (nI j)), (0, .ref t0), (1, .ref (ad 0)), (2, .ref (ad 50)), (3, .int (nI time)), (4, .int xv), (5, .int (nI n)), (6, .ref (ad 80)), (7, .ref (ad 90)), (11, .int (nI T0)), (14, .int (p_ones B n i)), (15, .int (p_psum B (i + 1))), (16, .int (nI i)), (17, .ref (ad 92))]) hx hb dL_law_974 hl (by decide) rfl (fun ls hl => ?_)
              refine lv_iinc (v := (nI (j + 1))) (lv' := [(21, .int (nI (j + 1))), (20, .int (1 + p_rk B (B i) (j + 1))), (22, .int 1), (0, .ref t0), (1, .ref (ad 0)), (2, .ref (ad 50)), (3, .int (nI time)), (4, .int xv), (5, .int (nI n)), (6, .ref (ad 80)), (7, .ref (ad 90)), (11, .int (nI T0)), (14, .int (p_ones B n i)), (15, .int (p_psum B (i + 1))), (16, .int (nI i)), (17, .ref (ad 92))]) hx hb dL_law_976 hl (k := 2) rfl (nI_1 j) (by decide) rfl (fun ls hl => ?_)
              refine lv_goto (tgt := 868) hx hb dL_law_979 (by decide) ?_
              exact ih (j + 1) (by omega) (by omega) (by omega) E10 H locs ls _ _ (by omega) (by omega) hX hS hW hc_now hI (lv_sub hl [0, 1, 3, 4, 5, 6, 7, 8, 9, 10, 11, 12, 13, 14, 15] rfl)
  exact Kih (n + 1) 0 (by omega) (by omega) (by omega) E H locs ls _ _ (by omega) (by omega) hX hS hW hc_now hI (lv_sub hl [0, 1, 2, 3, 4, 5, 6, 7, 8, 9, 10, 11, 12, 13, 14] rfl)
