set_option maxHeartbeats 4000000 in
set_option maxRecDepth 100000 in
theorem law_D1 (l : Launch) {pr : Program} {e : Env} {s : State} {m : MethodId} {args : Array Value} {below : List Frame} {meth : Method} {c : Code} {Q : State → Prop} (hx : pr.tables.exec = Jvm.exec) (hb : c.code = cL_law) (hml : c.maxLocals = 23) (hts : ∀ w ∈ wsL_law, w.before args s = true) (hown : s.vm.findClass RL = some m.cls) {D : va_G} {cI cJ cB : ClassId} {t0 z : Nat} {tx ad : Nat → Nat} {L : List Nat} (hG : fG D cI cJ cB t0 z tx s) {cells slots : Nat} {E : Nat → va_E} {H : Heap} {locs : List Loc} {ls : Array Slot} (hl9 : l.stackTraces = false) {w p g : Nat → Int32} {nw n T : Nat} {B F : Nat → Nat → Int32} (hL0 : okL w p g nw n T B) (hT : T < 2 ^ 20) (hLt : ∀ k, k ∈ L → k < 91) (hXm : ∀ k, k < 5 ∨ (10 ≤ k ∧ k < 24) ∨ (30 ≤ k ∧ k < 44) → k ∈ L) (hSm : ∀ k, (50 ≤ k ∧ k < 55) ∨ (60 ≤ k ∧ k < 60 + n) ∨ (70 ≤ k ∧ k < 70 + n) → k ∈ L) (hX : x_at cI cB ad E w p g nw n T B F) (hS : s_at cI cJ ad E w p g nw n T B F) {B0 : Nat → Nat → Int32} {G : Nat → Int32} (hWm : ∀ k, (80 ≤ k ∧ k < 81 + n) ∨ k = 90 → k ∈ L) (hW : w_at cI cJ ad E n B0 G) {time : Nat} {xv : Int32} (ht : time < 70) (hc : cells ≤ 100000) (hs : slots ≤ 500000) (hI : fI D (fA z) s.heap ad L E H locs) (hl : lv_has ls 23 [(0, .ref t0), (1, .ref (ad 0)), (2, .ref (ad 50)), (3, .int (nI time)), (4, .int xv), (5, .int (nI n)), (6, .ref (ad 80)), (7, .ref (ad 90))]) (kk : ∀ (ad1 : Nat → Nat) (E1 : Nat → va_E) (H1 : Heap) (locs1 : List Loc) (ls1 : Array Slot) (c1 s1 : Nat), c1 ≤ cells + 20 → s1 ≤ slots + 120 → (∀ q, q < 91 → ad1 q = ad q) → x_at cI cB ad1 E1 w p g nw n (T + 1) (p_run w p g nw T n F B 1) F → s_at cI cJ ad1 E1 w p g nw n (T + 1) (p_run w p g nw T n F B 1) F → w_at cI cJ ad1 E1 n B0 G → (∃ f9, rg 3 7 f9 (fun x => p_cnt nw n (T + 1) (p_run w p g nw T n F B 1) x) ∧ E1 91 = .inl (cI, 7, .inl f9)) → fI D (fA z) s.heap ad1 (L ++ [91]) E1 H1 locs1 → lv_has ls1 23 [(0, .ref t0), (1, .ref (ad1 0)), (2, .ref (ad1 50)), (3, .int (nI time)), (4, .int xv), (5, .int (nI n)), (6, .ref (ad1 80)), (7, .ref (ad1 90)), (10, .ref (ad1 91)), (11, .int (nI T)), (12, .int (p_in B n)), (13, .int (p_in (p_run w p g nw T n F B 1) n - p_in B n))] → W pr l e ({ frames := 11, cells := 1200130, slots := 5501080, locals := 402 } : Room) s m args below meth c H1 locs1 c1 s1 Q (F0 m 233 ls1 [])) : W pr l e ({ frames := 11, cells := 1200130, slots := 5501080, locals := 402 } : Room) s m args below meth c H locs cells slots Q (F0 m 155 ls []) := by
  have hT : T < 2 ^ 30 := by omega
  have hnw := hL0.1
  have hn6 := hL0.2.1
  have h8 := hL0.h8
  have hok := hL0.2.2.2.1
  have hLn : ∀ i, i < n → B i 1 = nI (bl_len (B i)) ∧ bl_len (B i) ≤ 6 := fun i hi => ⟨(bl_len_1 (hok i hi).1).1, (bl_len_1 (hok i hi).1).2.2⟩
  refine lv_aload_n hx hb dL_law_155 rfl (lv_at hl 1 rfl) ?_
  refine f_calll1 (va_runV (As := []) (rest := []) ⟨hx, hb, hml, hown, hts⟩ (m_X3_digest l hX hnw hn6 hT h8 hXm hLn) (cwV 0 hts gL_law_X3_digest rfl rfl rfl (by decide +kernel) ⟨(Nat.le_of_ble_eq_true rfl), (Nat.le_of_ble_eq_true rfl)⟩) (fPre_ofV hG hI rfl (hXm 0 (by omega)) hX.1 rfl rfl) rfl rfl hl.1 rfl (lv_room (Nat.le_of_ble_eq_true rfl)) dL_law_156 ⟨(by show _ ≤ 1200130; omega), (by show _ ≤ 5501080; omega)⟩) hI (fun r1 E2 H locs hp hI => ?_)
  obtain ⟨hedig1, hq9⟩ := hp
  rw [hq9] at hI
  refine lv_lstore (lv' := [(8, .long r1), (0, .ref t0), (1, .ref (ad 0)), (2, .ref (ad 50)), (3, .int (nI time)), (4, .int xv), (5, .int (nI n)), (6, .ref (ad 80)), (7, .ref (ad 90))]) hx hb dL_law_159 hl (by decide) rfl (fun ls hl => ?_)
  refine lv_bipush (v := 7) hx hb dL_law_161 (by decide) ?_
  refine f_newi (k := 91) (n := 7) (N := 7) hx hb (hts (.arrayClass .int) (by decide +kernel)) hG.1 hI (fG_A hG) (by decide) (by decide) (by decide) (fun h9 => absurd (hLt _ h9) (by omega)) (by show _ ≤ 1200130; omega) (by show _ ≤ 5501080; omega) dL_law_163 (fun aN2 adN2 EN2 H hk2 hr2 hEk2 hEr2 hI => ?_)
  have hX := (hX.ad (fun q h1 => hr2 q (by omega))).kept (fun q h1 => hEr2 q (by omega))
  have hS := (hS.ad hn6 (fun q h1 h2 => hr2 q (by omega))).kept hn6 (fun q h1 h2 => hEr2 q (by omega))
  have hXm := fun k hk => List.mem_append_left [91] (hXm k hk)
  have hSm := fun k hk => List.mem_append_left [91] (hSm k hk)
  have hq2_1 : adN2 0 = (ad 0) := hr2 0 (by omega)
  have hq2_2 : adN2 50 = (ad 50) := hr2 50 (by omega)
  have hq2_6 : adN2 80 = (ad 80) := hr2 80 (by omega)
  have hq2_7 : adN2 90 = (ad 90) := hr2 90 (by omega)
  have hl : lv_has ls 23 [(8, .long r1), (0, .ref t0), (1, .ref (adN2 0)), (2, .ref (adN2 50)), (3, .int (nI time)), (4, .int xv), (5, .int (nI n)), (6, .ref (adN2 80)), (7, .ref (adN2 90))] := by rw [hq2_1, hq2_2, hq2_6, hq2_7]; exact hl
  have hc_pre : EN2 91 = .inl (cI, 7, .inl (fun _ => 0)) := hEk2
  have ha_pre : adN2 91 = aN2 := hk2
  have hW := (hW.ad hn6 (fun q h1 h2 => hr2 q (by omega))).kept hn6 (fun q h1 h2 => hEr2 q (by omega))
  have hWm := fun k hk => List.mem_append_left [91] (hWm k hk)
  refine lv_astore (lv' := [(10, .ref aN2), (8, .long r1), (0, .ref t0), (1, .ref (adN2 0)), (2, .ref (adN2 50)), (3, .int (nI time)), (4, .int xv), (5, .int (nI n)), (6, .ref (adN2 80)), (7, .ref (adN2 90))]) hx hb dL_law_165 hl (by decide) rfl (fun ls hl => ?_)
  refine lv_iconst (v := 3) hx hb dL_law_167 (by decide) ?_
  refine lv_istore (lv' := [(11, .int 3), (10, .ref aN2), (8, .long r1), (0, .ref t0), (1, .ref (adN2 0)), (2, .ref (adN2 50)), (3, .int (nI time)), (4, .int xv), (5, .int (nI n)), (6, .ref (adN2 80)), (7, .ref (adN2 90))]) hx hb dL_law_168 hl (by decide) rfl (fun ls hl => ?_)
  have Kih : ∀ (dv v : Nat), 3 ≤ v → v ≤ 7 → 7 + 1 ≤ v + dv → ∀ (f9 : Nat → Int32), ∀ (Ea : Nat → va_E), ∀ (H : Heap) (locs : List Loc) (ls : Array Slot), ∀ (ccv ssv : Nat), ccv ≤ (cells + 1) + v → ssv ≤ (slots + 7) + 6 * v → (x_at cI cB adN2 Ea w p g nw n T B F) → (s_at cI cJ adN2 Ea w p g nw n T B F) → (w_at cI cJ adN2 Ea n B0 G) → (Ea 91 = .inl (cI, 7, .inl f9)) → (rg 3 v f9 (fun x => p_cnt nw n (T + 1) (p_run w p g nw T n F B 1) x)) → fI D (fA z) s.heap adN2 (L ++ [91]) Ea H locs → lv_has ls 23 [(11, .int (nI v)), (10, .ref aN2), (8, .long r1), (0, .ref t0), (1, .ref (adN2 0)), (2, .ref (adN2 50)), (3, .int (nI time)), (4, .int xv), (5, .int (nI n)), (6, .ref (adN2 80)), (7, .ref (adN2 90))] → W pr l e ({ frames := 11, cells := 1200130, slots := 5501080, locals := 402 } : Room) s m args below meth c H locs ccv ssv Q (F0 m 170 ls []) := by
    intro dv
    induction dv with
    | zero => intro v h0 h1 h2; exact absurd h2 (by omega)
    | succ dv ih =>
      intro v hi0v hi1v hi2v f9 Ea  H locs ls ccv ssv hcih hsih hX hS hW hc_pre hfv hI hl
      refine lv_iload hx hb dL_law_170 (lv_at hl 0 rfl) ?_
      refine lv_bipush (v := 7) hx hb dL_law_172 (by decide) ?_
      refine lv_icmp_ge (tgt := 195) hx hb dL_law_174 (by decide) (fun c_174 => ?_) (fun c_174 => ?_)
      · have n_174 := i_nlt.mpr c_174
        have hv0 : v = 7 := by have := (nI_leI (by omega) (by omega) (a := 7)).mp c_174; omega
        subst hv0
        refine lv_aload_n hx hb dL_law_195 rfl (lv_at hl 4 rfl) ?_
        refine lv_iconst (v := 0) hx hb dL_law_196 (by decide) ?_
        refine f_xcalli (vx_runV (As := [.int 0]) (rest := []) ⟨hx, hb, hml, hown, hts⟩ (m_X3_count l hl9 hX hnw hn6 hT h8 hXm 0) (cwV 1 hts gL_law_X3_count rfl rfl rfl (by decide +kernel) ⟨(Nat.le_of_ble_eq_true rfl), (Nat.le_of_ble_eq_true rfl)⟩) (fPre_ofV hG hI rfl (hXm 0 (by omega)) hX.1 rfl rfl) rfl rfl hl.1 rfl (lv_room (Nat.le_of_ble_eq_true rfl)) dL_law_197 ⟨(by show _ ≤ 1200130; omega), (by show _ ≤ 5501080; omega)⟩) hI (fun En ce q9 H locs hok hI hq1 hq2 hq3 => ?_) (fun r4 E5 H locs hp hI => ?_)
        · exact absurd hok.1 (by rw [(show c_count 0 = 0 by decide)]; decide)
        obtain ⟨-, hr9, hX, hn9⟩ := hp
        have hr9 : r4 = (p_cnt nw n T B 0) := hr9.trans (rfl)
        subst hr9
        have hc_pre : E5 91 = .inl (cI, 7, .inl f9) := (hn9 91 (by omega)).trans hc_pre
        have hS := hS.kept hn6 (fun q h1 h2 => hn9 q (by omega))
        have hW := hW.kept hn6 (fun q h1 h2 => hn9 q (by omega))
        refine lv_istore (lv' := [(11, .int (p_cnt nw n T B 0)), (10, .ref aN2), (8, .long r1), (0, .ref t0), (1, .ref (adN2 0)), (2, .ref (adN2 50)), (3, .int (nI time)), (4, .int xv), (5, .int (nI n)), (6, .ref (adN2 80)), (7, .ref (adN2 90))]) hx hb dL_law_200 hl (by decide) rfl (fun ls hl => ?_)
        refine lv_aload_n hx hb dL_law_202 rfl (lv_at hl 4 rfl) ?_
        refine lv_iconst (v := 3) hx hb dL_law_203 (by decide) ?_
        refine f_xcalli (vx_runV (As := [.int 3]) (rest := []) ⟨hx, hb, hml, hown, hts⟩ (m_X3_count l hl9 hX hnw hn6 hT h8 hXm 3) (cwV 1 hts gL_law_X3_count rfl rfl rfl (by decide +kernel) ⟨(Nat.le_of_ble_eq_true rfl), (Nat.le_of_ble_eq_true rfl)⟩) (fPre_ofV hG hI rfl (hXm 0 (by omega)) hX.1 rfl rfl) rfl rfl hl.1 rfl (lv_room (Nat.le_of_ble_eq_true rfl)) dL_law_204 ⟨(by show _ ≤ 1200130; omega), (by show _ ≤ 5501080; omega)⟩) hI (fun En ce q9 H locs hok hI hq1 hq2 hq3 => ?_) (fun r6 E7 H locs hp hI => ?_)
        · exact absurd hok.1 (by rw [(show c_count 3 = 0 by decide)]; decide)
        obtain ⟨-, hr9, hX, hn9⟩ := hp
        have hr9 : r6 = (p_cnt nw n T B 3) := hr9.trans (rfl)
        subst hr9
        have hc_pre : E7 91 = .inl (cI, 7, .inl f9) := (hn9 91 (by omega)).trans hc_pre
        have hS := hS.kept hn6 (fun q h1 h2 => hn9 q (by omega))
        have hW := hW.kept hn6 (fun q h1 h2 => hn9 q (by omega))
        refine lv_istore (lv' := [(12, .int (p_cnt nw n T B 3)), (11, .int (p_cnt nw n T B 0)), (10, .ref aN2), (8, .long r1), (0, .ref t0), (1, .ref (adN2 0)), (2, .ref (adN2 50)), (3, .int (nI time)), (4, .int xv), (5, .int (nI n)), (6, .ref (adN2 80)), (7, .ref (adN2 90))]) hx hb dL_law_207 hl (by decide) rfl (fun ls hl => ?_)
        refine lv_aload_n hx hb dL_law_209 rfl (lv_at hl 5 rfl) ?_
        refine f_calll1 (va_runV (As := []) (rest := []) ⟨hx, hb, hml, hown, hts⟩ (m_X3_digest l hX hnw hn6 hT h8 hXm hLn) (cwV 0 hts gL_law_X3_digest rfl rfl rfl (by decide +kernel) ⟨(Nat.le_of_ble_eq_true rfl), (Nat.le_of_ble_eq_true rfl)⟩) (fPre_ofV hG hI rfl (hXm 0 (by omega)) hX.1 rfl rfl) rfl rfl hl.1 rfl (lv_room (Nat.le_of_ble_eq_true rfl)) dL_law_210 ⟨(by show _ ≤ 1200130; omega), (by show _ ≤ 5501080; omega)⟩) hI (fun r8 E9 H locs hp hI => ?_)
        obtain ⟨hedig2, hq9⟩ := hp
        rw [hq9] at hI
        refine lv_lload hx hb dL_law_213 (lv_at hl 3 rfl) ?_
        refine f_lcmp hx hb (hedig2.trans hedig1.symm) dL_law_215 ?_
        refine lv_if_eq (tgt := 221) hx hb dL_law_216 (by decide) (fun c_216 => ?_) (fun c_216 => ?_)
        · refine lv_aload_n hx hb dL_law_221 rfl (lv_at hl 5 rfl) ?_
          refine lv_iconst (v := 1) hx hb dL_law_222 (by decide) ?_
          refine f_xcalli (vx_runV (As := [.int 1]) (rest := []) ⟨hx, hb, hml, hown, hts⟩ (m_X3_go l hl9 hX hnw hn6 hT h8 hXm 1) (cwV 1 hts gL_law_X3_go rfl rfl rfl (by decide +kernel) ⟨(Nat.le_of_ble_eq_true rfl), (Nat.le_of_ble_eq_true rfl)⟩) (fPre_ofV hG hI rfl (hXm 0 (by omega)) hX.1 rfl rfl) rfl rfl hl.1 rfl (lv_room (Nat.le_of_ble_eq_true rfl)) dL_law_223 ⟨(by show _ ≤ 1200130; omega), (by show _ ≤ 5501080; omega)⟩) hI (fun En ce q9 H locs hok hI hq1 hq2 hq3 => ?_) (fun r10 E11 H locs hp hI => ?_)
          · exact absurd hok.1 (by rw [cgo_1]; decide)
          obtain ⟨-, hr9, hX, hn9⟩ := hp
          have hX : x_at cI cB adN2 E11 w p g nw n (T + 1) (p_run w p g nw T n F B 1) F := hX
          have hr9 : r10 = p_in (p_run w p g nw T n F B 1) n - p_in B n := hr9
          subst hr9
          have hc_pre : E11 91 = .inl (cI, 7, .inl f9) := (hn9 91 (by omega)).trans hc_pre
          have hS := hS.kept hn6 (fun q h1 h2 => hn9 q (by omega))
          have hW := hW.kept hn6 (fun q h1 h2 => hn9 q (by omega))
          refine lv_istore (lv' := [(13, .int (p_in (p_run w p g nw T n F B 1) n - p_in B n)), (12, .int (p_cnt nw n T B 3)), (11, .int (p_cnt nw n T B 0)), (10, .ref aN2), (8, .long r1), (0, .ref t0), (1, .ref (adN2 0)), (2, .ref (adN2 50)), (3, .int (nI time)), (4, .int xv), (5, .int (nI n)), (6, .ref (adN2 80)), (7, .ref (adN2 90))]) hx hb dL_law_226 hl (by decide) rfl (fun ls hl => ?_)
          refine lv_aload_n hx hb dL_law_228 rfl (lv_at hl 7 rfl) ?_
          have hS50 : E11 50 = .inr (4, [.int (nI T), .ref (adN2 51), .ref (adN2 52), .int (nI nw), .ref (adN2 53), .ref (adN2 54)]) := hS.1
          refine f_calli1 (va_runV (As := []) (rest := []) ⟨hx, hb, hml, hown, hts⟩ (m_X4_go_ l hS hSm hn6 (by omega) hL0.2.2.1 hok) (cwV 0 hts gL_law_X4_go_ rfl rfl rfl (by decide +kernel) ⟨(Nat.le_of_ble_eq_true rfl), (Nat.le_of_ble_eq_true rfl)⟩) (fPre_ofV hG hI rfl (hSm _ (by omega)) hS50 rfl rfl) rfl rfl hl.1 rfl (lv_room (Nat.le_of_ble_eq_true rfl)) dL_law_229 ⟨(by show _ ≤ 1200130; omega), (by show _ ≤ 5501080; omega)⟩) hI (fun r12 E13 H locs hp hI => ?_)
          obtain ⟨he, hS, hf9⟩ := hp
          have he : r12 = p_in (p_run w p g nw T n F B 1) n - p_in B n := he
          subst he
          have hc_pre : E13 91 = .inl (cI, 7, .inl f9) := (hf9 91 (by omega)).trans hc_pre
          have hX := hX.kept (fun q h1 => hf9 q (by omega))
          have hW := hW.kept hn6 (fun q h1 h2 => hf9 q (by omega))
          refine lv_pop hx hb dL_law_232 rfl ?_
          exact kk adN2 E13 H locs ls _ _ (by omega) (by omega) (fun q h1 => hr2 q (by omega)) hX hS hW ⟨f9, hfv, hc_pre⟩ hI (by rw [ha_pre]; exact (lv_sub hl [5, 6, 7, 8, 9, 10, 11, 12, 3, 2, 1, 0] rfl))
        · exact absurd c_216 (by decide)
      · have n_174 := c_174
        have c_174 := i_nle.mp n_174
        have hv0 : v < 7 := (nI_ltI (by omega) (by omega) (b := 7)).mp c_174
        have hcl : (nI v).toNatClampNeg = v := nI_clamp (by omega)
        refine lv_aload hx hb dL_law_177 (lv_at hl 1 rfl) ?_
        refine lv_iload hx hb dL_law_179 (lv_at hl 0 rfl) ?_
        refine lv_aload_n hx hb dL_law_181 rfl (lv_at hl 4 rfl) ?_
        refine lv_iconst (v := 1) hx hb dL_law_182 (by decide) ?_
        refine lv_iload hx hb dL_law_183 (lv_at hl 0 rfl) ?_
        refine f_xcalli (vx_runV (As := [.int 1, .int (nI v)]) (rest := [.int (nI v), .ref aN2]) ⟨hx, hb, hml, hown, hts⟩ (m_X3_foresee l hl9 hX hnw hn6 hT h8 hXm 1 (nI v)) (cwV 2 hts gL_law_X3_foresee rfl rfl rfl (by decide +kernel) ⟨(Nat.le_of_ble_eq_true rfl), (Nat.le_of_ble_eq_true rfl)⟩) (fPre_ofV hG hI rfl (hXm 0 (by omega)) hX.1 rfl rfl) rfl rfl hl.1 rfl (lv_room (Nat.le_of_ble_eq_true rfl)) dL_law_185 ⟨(by show _ ≤ 1200130; omega), (by show _ ≤ 5501080; omega)⟩) hI (fun En ce q9 H locs hok hI hq1 hq2 hq3 => ?_) (fun r14 E15 H locs hp hI => ?_)
        · exact hok.elim (fun q9 => absurd q9.1 (by rw [cforesee_0 (v := v) (by omega) (by omega)]; decide)) (fun q9 => absurd q9.1 (by rw [cforesee_0 (v := v) (by omega) (by omega)]; decide))
        obtain ⟨-, hr9, hX, hn9⟩ := hp
        have hr9 : r14 = (p_cnt nw n (T + 1) (p_run w p g nw T n F B 1) v) := hr9.trans (by rw [show (nI v).toNatClampNeg = v from nI_clamp (by omega)]; rfl)
        subst hr9
        have hc_pre : E15 91 = .inl (cI, 7, .inl f9) := (hn9 91 (by omega)).trans hc_pre
        have hS := hS.kept hn6 (fun q h1 h2 => hn9 q (by omega))
        have hW := hW.kept hn6 (fun q h1 h2 => hn9 q (by omega))
        refine f_iast hx hb hG.1 hI ha_pre in_last hc_pre (vp_in_nI (by omega) (by omega)) dL_law_188 (fun E16 H locs hE17 hz18 hI => ?_)
        have hc_pre : E16 91 = .inl (cI, 7, .inl (upd f9 v (p_cnt nw n (T + 1) (p_run w p g nw T n F B 1) v))) := (by rw [show (nI v).toNatClampNeg = v from nI_clamp (by omega)] at hE17; exact hE17)
        have hX := hX.kept (fun q h1 => hz18 q (by omega))
        have hS := hS.kept hn6 (fun q h1 h2 => hz18 q (by omega))
        have hW := hW.kept hn6 (fun q h1 h2 => hz18 q (by omega))
        refine lv_iinc (v := (nI (v + 1))) (lv' := [(11, .int (nI (v + 1))), (10, .ref aN2), (8, .long r1), (0, .ref t0), (1, .ref (adN2 0)), (2, .ref (adN2 50)), (3, .int (nI time)), (4, .int xv), (5, .int (nI n)), (6, .ref (adN2 80)), (7, .ref (adN2 90))]) hx hb dL_law_189 hl (k := 0) rfl (nI_1 v) (by decide) rfl (fun ls hl => ?_)
        refine lv_goto (tgt := 170) hx hb dL_law_192 (by decide) ?_
        have hfv := rg_s hfv rfl
        exact ih (v + 1) (by omega) (by omega) (by omega) _ E16 H locs ls _ _ (by omega) (by omega) hX hS hW hc_pre hfv hI (lv_sub hl [0, 1, 2, 3, 4, 5, 6, 7, 8, 9, 10] rfl)
  exact Kih (7 + 1) 3 (by omega) (by omega) (by omega) _ EN2 H locs ls _ _ (by omega) (by omega) hX hS hW hc_pre rg_0 hI (lv_sub hl [0, 1, 2, 3, 4, 5, 6, 7, 8, 9, 10] rfl)

set_option maxHeartbeats 4000000 in
set_option maxRecDepth 100000 in
theorem law_E (l : Launch) {pr : Program} {e : Env} {s : State} {m : MethodId} {args : Array Value} {below : List Frame} {meth : Method} {c : Code} {Q : State → Prop} (hx : pr.tables.exec = Jvm.exec) (hb : c.code = cL_law) (hml : c.maxLocals = 23) (hts : ∀ w ∈ wsL_law, w.before args s = true) (hown : s.vm.findClass RL = some m.cls) {D : va_G} {cI cJ cB : ClassId} {t0 z : Nat} {tx ad : Nat → Nat} {L : List Nat} (hG : fG D cI cJ cB t0 z tx s) {cells slots : Nat} {E : Nat → va_E} {H : Heap} {locs : List Loc} {ls : Array Slot} (hl9 : l.stackTraces = false) {w p g : Nat → Int32} {nw n T T0 : Nat} {B F B0 : Nat → Nat → Int32} {G : Nat → Int32} (hL0 : okL w p g nw n T B) (hOld : okL w p g nw n T0 B0) (hTT : T = T0 + 1) (hBB : ∀ i, i < n → B i = p_tick w p g nw (nI T0) (F i) (B0 i)) (hG0 : G = fun i => p_arr w p g nw T0 (F i) (B0 i) 0 401) (hT : T < 2 ^ 20) (hLt : ∀ k, k ∈ L → k < 92) (hXm : ∀ k, k < 5 ∨ (10 ≤ k ∧ k < 24) ∨ (30 ≤ k ∧ k < 44) → k ∈ L) (hSm : ∀ k, (50 ≤ k ∧ k < 55) ∨ (60 ≤ k ∧ k < 60 + n) ∨ (70 ≤ k ∧ k < 70 + n) → k ∈ L) (hX : x_at cI cB ad E w p g nw n T B F) (hS : s_at cI cJ ad E w p g nw n T B F) (hWm : ∀ k, (80 ≤ k ∧ k < 81 + n) ∨ k = 90 → k ∈ L) (hW : w_at cI cJ ad E n B0 G) (hpm : 91 ∈ L) {f9 : Nat → Int32} (hfv : rg 3 7 f9 (fun x => p_cnt nw n T B x)) (hc_pre : E 91 = .inl (cI, 7, .inl f9)) {time : Nat} {xv : Int32} (ht : time < 70) (hc : cells ≤ 100000) (hs : slots ≤ 500000) (hI : fI D (fA z) s.heap ad L E H locs) (hl : lv_has ls 23 [(0, .ref t0), (1, .ref (ad 0)), (2, .ref (ad 50)), (3, .int (nI time)), (4, .int xv), (5, .int (nI n)), (6, .ref (ad 80)), (7, .ref (ad 90)), (10, .ref (ad 91)), (11, .int (nI T0)), (12, .int (p_in B0 n)), (13, .int (p_in B n - p_in B0 n))]) (kk : ∀ (E1 : Nat → va_E) (H1 : Heap) (locs1 : List Loc) (ls1 : Array Slot) (c1 s1 : Nat), c1 ≤ cells + 20 → s1 ≤ slots + 120 → x_at cI cB ad E1 w p g nw n T B F → s_at cI cJ ad E1 w p g nw n T B F → w_at cI cJ ad E1 n B0 G → fI D (fA z) s.heap ad L E1 H1 locs1 → lv_has ls1 23 [(0, .ref t0), (1, .ref (ad 0)), (2, .ref (ad 50)), (3, .int (nI time)), (4, .int xv), (5, .int (nI n)), (6, .ref (ad 80)), (7, .ref (ad 90)), (11, .int (nI T0))] → W pr l e ({ frames := 11, cells := 1200130, slots := 5501080, locals := 402 } : Room) s m args below meth c H1 locs1 c1 s1 Q (F0 m 292 ls1 [])) : W pr l e ({ frames := 11, cells := 1200130, slots := 5501080, locals := 402 } : Room) s m args below meth c H locs cells slots Q (F0 m 233 ls []) := by
  have hT : T < 2 ^ 30 := by omega
  have hnw := hL0.1
  have hn6 := hL0.2.1
  have h8 := hL0.h8
  have hok := hL0.2.2.2.1
  have hc_pre : E 91 = .inl (cI, 7, .inl f9) := hc_pre
  refine lv_aload_n hx hb dL_law_233 rfl (lv_at hl 1 rfl) ?_
  refine lv_iconst (v := 0) hx hb dL_law_234 (by decide) ?_
  refine f_xcalli (vx_runV (As := [.int 0]) (rest := []) ⟨hx, hb, hml, hown, hts⟩ (m_X3_count l hl9 hX hnw hn6 hT h8 hXm 0) (cwV 1 hts gL_law_X3_count rfl rfl rfl (by decide +kernel) ⟨(Nat.le_of_ble_eq_true rfl), (Nat.le_of_ble_eq_true rfl)⟩) (fPre_ofV hG hI rfl (hXm 0 (by omega)) hX.1 rfl rfl) rfl rfl hl.1 rfl (lv_room (Nat.le_of_ble_eq_true rfl)) dL_law_235 ⟨(by show _ ≤ 1200130; omega), (by show _ ≤ 5501080; omega)⟩) hI (fun En ce q9 H locs hok hI hq1 hq2 hq3 => ?_) (fun r1 E2 H locs hp hI => ?_)
  · exact absurd hok.1 (by rw [(show c_count 0 = 0 by decide)]; decide)
  obtain ⟨-, hr9, hX, hn9⟩ := hp
  have hr9 : r1 = (p_cnt nw n T B 0) := hr9.trans (rfl)
  subst hr9
  have hc_pre : E2 91 = .inl (cI, 7, .inl f9) := (hn9 91 (by omega)).trans hc_pre
  have hS := hS.kept hn6 (fun q h1 h2 => hn9 q (by omega))
  have hW := hW.kept hn6 (fun q h1 h2 => hn9 q (by omega))
  refine lv_iload hx hb dL_law_238 (lv_at hl 9 rfl) ?_
  refine lv_iconst (v := 1) hx hb dL_law_240 (by decide) ?_
  refine lv_iadd hx hb dL_law_241 ?_
  refine lv_icmp_ne (tgt := 258) hx hb dL_law_242 (by decide) (fun c_242 => ?_) (fun c_242 => ?_)
  · exact absurd (show nI T = nI T0 + 1 from by rw [hTT, nI_succ]) c_242
  · refine lv_aload_n hx hb dL_law_245 rfl (lv_at hl 1 rfl) ?_
    refine lv_iconst (v := 3) hx hb dL_law_246 (by decide) ?_
    refine f_xcalli (vx_runV (As := [.int 3]) (rest := []) ⟨hx, hb, hml, hown, hts⟩ (m_X3_count l hl9 hX hnw hn6 hT h8 hXm 3) (cwV 1 hts gL_law_X3_count rfl rfl rfl (by decide +kernel) ⟨(Nat.le_of_ble_eq_true rfl), (Nat.le_of_ble_eq_true rfl)⟩) (fPre_ofV hG hI rfl (hXm 0 (by omega)) hX.1 rfl rfl) rfl rfl hl.1 rfl (lv_room (Nat.le_of_ble_eq_true rfl)) dL_law_247 ⟨(by show _ ≤ 1200130; omega), (by show _ ≤ 5501080; omega)⟩) hI (fun En ce q9 H locs hok hI hq1 hq2 hq3 => ?_) (fun r3 E4 H locs hp hI => ?_)
    · exact absurd hok.1 (by rw [(show c_count 3 = 0 by decide)]; decide)
    obtain ⟨-, hr9, hX, hn9⟩ := hp
    have hr9 : r3 = (p_cnt nw n T B 3) := hr9.trans (rfl)
    subst hr9
    have hc_pre : E4 91 = .inl (cI, 7, .inl f9) := (hn9 91 (by omega)).trans hc_pre
    have hS := hS.kept hn6 (fun q h1 h2 => hn9 q (by omega))
    have hW := hW.kept hn6 (fun q h1 h2 => hn9 q (by omega))
    refine lv_iload hx hb dL_law_250 (lv_at hl 10 rfl) ?_
    refine lv_iload hx hb dL_law_252 (lv_at hl 11 rfl) ?_
    refine lv_iadd hx hb dL_law_254 ?_
    refine lv_icmp_eq (tgt := 260) hx hb dL_law_255 (by decide) (fun c_255 => ?_) (fun c_255 => ?_)
    · refine lv_iconst (v := 3) hx hb dL_law_260 (by decide) ?_
      refine lv_istore (lv' := [(14, .int 3), (0, .ref t0), (1, .ref (ad 0)), (2, .ref (ad 50)), (3, .int (nI time)), (4, .int xv), (5, .int (nI n)), (6, .ref (ad 80)), (7, .ref (ad 90)), (10, .ref (ad 91)), (11, .int (nI T0)), (12, .int (p_in B0 n)), (13, .int (p_in B n - p_in B0 n))]) hx hb dL_law_261 hl (by decide) rfl (fun ls hl => ?_)
      have Kih : ∀ (dv v : Nat), 3 ≤ v → v ≤ 7 → 7 + 1 ≤ v + dv → ∀ (Ea : Nat → va_E), ∀ (H : Heap) (locs : List Loc) (ls : Array Slot), ∀ (ccv ssv : Nat), ccv ≤ ((cells + 1) + 1) + v → ssv ≤ ((slots + 6) + 6) + 6 * v → (x_at cI cB ad Ea w p g nw n T B F) → (s_at cI cJ ad Ea w p g nw n T B F) → (w_at cI cJ ad Ea n B0 G) → (Ea 91 = .inl (cI, 7, .inl f9)) → fI D (fA z) s.heap ad L Ea H locs → lv_has ls 23 [(14, .int (nI v)), (0, .ref t0), (1, .ref (ad 0)), (2, .ref (ad 50)), (3, .int (nI time)), (4, .int xv), (5, .int (nI n)), (6, .ref (ad 80)), (7, .ref (ad 90)), (10, .ref (ad 91)), (11, .int (nI T0)), (12, .int (p_in B0 n)), (13, .int (p_in B n - p_in B0 n))] → W pr l e ({ frames := 11, cells := 1200130, slots := 5501080, locals := 402 } : Room) s m args below meth c H locs ccv ssv Q (F0 m 263 ls []) := by
        intro dv
        induction dv with
        | zero => intro v h0 h1 h2; exact absurd h2 (by omega)
        | succ dv ih =>
          intro v hi0v hi1v hi2v Ea  H locs ls ccv ssv hcih hsih hX hS hW hc_pre hI hl
          refine lv_iload hx hb dL_law_263 (lv_at hl 0 rfl) ?_
          refine lv_bipush (v := 7) hx hb dL_law_265 (by decide) ?_
          refine lv_icmp_ge (tgt := 292) hx hb dL_law_267 (by decide) (fun c_267 => ?_) (fun c_267 => ?_)
          · have n_267 := i_nlt.mpr c_267
            have hv0 : v = 7 := by have := (nI_leI (by omega) (by omega) (a := 7)).mp c_267; omega
            exact kk Ea H locs ls _ _ (by omega) (by omega) hX hS hW hI (lv_sub hl [1, 2, 3, 4, 5, 6, 7, 8, 10] rfl)
          · have n_267 := c_267
            have c_267 := i_nle.mp n_267
            have hv0 : v < 7 := (nI_ltI (by omega) (by omega) (b := 7)).mp c_267
            have hcl : (nI v).toNatClampNeg = v := nI_clamp (by omega)
            refine lv_aload_n hx hb dL_law_270 rfl (lv_at hl 2 rfl) ?_
            refine lv_iload hx hb dL_law_271 (lv_at hl 0 rfl) ?_
            refine f_xcalli (vx_runV (As := [.int (nI v)]) (rest := []) ⟨hx, hb, hml, hown, hts⟩ (m_X3_count l hl9 hX hnw hn6 hT h8 hXm (nI v)) (cwV 1 hts gL_law_X3_count rfl rfl rfl (by decide +kernel) ⟨(Nat.le_of_ble_eq_true rfl), (Nat.le_of_ble_eq_true rfl)⟩) (fPre_ofV hG hI rfl (hXm 0 (by omega)) hX.1 rfl rfl) rfl rfl hl.1 rfl (lv_room (Nat.le_of_ble_eq_true rfl)) dL_law_273 ⟨(by show _ ≤ 1200130; omega), (by show _ ≤ 5501080; omega)⟩) hI (fun En ce q9 H locs hok hI hq1 hq2 hq3 => ?_) (fun r5 E6 H locs hp hI => ?_)
            · exact absurd hok.1 (by rw [ccount_0 (v := v) (by omega)]; decide)
            obtain ⟨-, hr9, hX, hn9⟩ := hp
            have hr9 : r5 = (p_cnt nw n T B v) := hr9.trans (by rw [show (nI v).toNatClampNeg = v from nI_clamp (by omega)])
            subst hr9
            have hc_pre : E6 91 = .inl (cI, 7, .inl f9) := (hn9 91 (by omega)).trans hc_pre
            have hS := hS.kept hn6 (fun q h1 h2 => hn9 q (by omega))
            have hW := hW.kept hn6 (fun q h1 h2 => hn9 q (by omega))
            refine lv_aload hx hb dL_law_276 (lv_at hl 9 rfl) ?_
            refine lv_iload hx hb dL_law_278 (lv_at hl 0 rfl) ?_
            refine f_iald hx hb hG.1 hI rfl hpm hc_pre (vp_in_nI (by omega) (by omega)) dL_law_280 ?_
            rw [show (nI v).toNatClampNeg = v from nI_clamp (by omega)]
            refine lv_icmp_eq (tgt := 286) hx hb dL_law_281 (by decide) (fun c_281 => ?_) (fun c_281 => ?_)
            · refine lv_iinc (v := (nI (v + 1))) (lv' := [(14, .int (nI (v + 1))), (0, .ref t0), (1, .ref (ad 0)), (2, .ref (ad 50)), (3, .int (nI time)), (4, .int xv), (5, .int (nI n)), (6, .ref (ad 80)), (7, .ref (ad 90)), (10, .ref (ad 91)), (11, .int (nI T0)), (12, .int (p_in B0 n)), (13, .int (p_in B n - p_in B0 n))]) hx hb dL_law_286 hl (k := 0) rfl (nI_1 v) (by decide) rfl (fun ls hl => ?_)
              refine lv_goto (tgt := 263) hx hb dL_law_289 (by decide) ?_
              exact ih (v + 1) (by omega) (by omega) (by omega) E6 H locs ls _ _ (by omega) (by omega) hX hS hW hc_pre hI (lv_sub hl [0, 1, 2, 3, 4, 5, 6, 7, 8, 9, 10, 11, 12] rfl)
            · exact absurd (hfv v (by omega) (by omega)).symm c_281
      exact Kih (7 + 1) 3 (by omega) (by omega) (by omega) E4 H locs ls _ _ (by omega) (by omega) hX hS hW hc_pre hI (lv_sub hl [0, 1, 2, 3, 4, 5, 6, 7, 8, 9, 10, 11, 12] rfl)
    · exact absurd (show p_cnt nw n T B 3 = p_in B0 n + (p_in B n - p_in B0 n) from in_add.symm) c_255
