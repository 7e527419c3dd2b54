set_option maxHeartbeats 4000000 in
set_option maxRecDepth 100000 in
theorem act_tar (l : Launch) {pr : Program} {e : Env} {s : State} {m : MethodId} {args : Array Value} {below : List Frame} {meth : Method} {c : Code} {Q : State → Prop} (hx : pr.tables.exec = Jvm.exec) (hb : c.code = cL_act) (hml : c.maxLocals = 9) (hts : ∀ w ∈ wsL_act, w.before args s = true) (hown : s.vm.findClass RL = some m.cls) {D : va_G} {cI cJ cB : ClassId} {t0 z : Nat} {tx ad : Nat → Nat} {L : List Nat} (hG : fG D cI cJ cB t0 z tx s) {E : Nat → va_E} {H : Heap} {locs : List Loc} {ls : Array Slot} (hl9 : l.stackTraces = false) (hTT : c.exceptionTable.toList = tableOf [(194, 204, 207, 40), (328, 343, 346, 40), (603, 610, 613, 40)]) {w p g : Nat → Int32} {nw n T : Nat} {B F : Nat → Nat → Int32} (hL0 : okL w p g nw n T B) (hT : T < 2 ^ 30) (hLe : L = fLS n) (hX : x_at cI cB ad E w p g nw n T B F) (hS : s_at cI cJ ad E w p g nw n T B F) {x : Int32} {b : Nat} (hbn : b < n) (hI : fI D (fA z) s.heap ad L E H locs) (hl : lv_has ls 9 [(0, .ref (ad 0)), (1, .ref (ad 50)), (2, .int x), (3, .int (nI b))]) (kk : ∀ (n1 : Nat) (ad1 : Nat → Nat) (E1 : Nat → va_E) (H1 : Heap) (locs1 : List Loc) (ls1 : Array Slot) (c1 s1 pc1 : Nat), c1 ≤ 10 → s1 ≤ 60 → (ad1 0 = ad 0 ∧ ad1 50 = ad 50) → law_st cI cJ cB T n1 ad1 E1 → fI D (fA z) s.heap ad1 (fLS n1) E1 H1 locs1 → decode cL_act pc1 = .ok (.ireturn, 1) → W pr l e ({ frames := 7, cells := 20, slots := 120, locals := 130 } : Room) s m args below meth c H1 locs1 c1 s1 Q (F0 m pc1 ls1 [.int 1])) : W pr l e ({ frames := 7, cells := 20, slots := 120, locals := 130 } : Room) s m args below meth c H locs 0 0 Q (F0 m 541 ls []) := by
  have hnw := hL0.1
  have hn6 := hL0.2.1
  have h8 := hL0.h8
  have hok := hL0.2.2.2.1
  have hv := hL0.2.2.1
  have hLt : ∀ k, k ∈ L → k < 80 := fun k hk => by rw [hLe] at hk; exact (fLS_mem.mp hk).1
  have hXm : ∀ k, k < 5 ∨ (10 ≤ k ∧ k < 24) ∨ (30 ≤ k ∧ k < 44) → k ∈ L := fun k hk => by rw [hLe]; exact fLS_x k hk
  have hSm : ∀ k, (50 ≤ k ∧ k < 55) ∨ (60 ≤ k ∧ k < 60 + n) ∨ (70 ≤ k ∧ k < 70 + n) → k ∈ L := fun k hk => by rw [hLe]; exact fLS_s hn6 k hk
  refine lv_iload_n hx hb dL_act_541 rfl (lv_at hl 3 rfl) ?_
  refine lv_if_lt (tgt := 556) hx hb dL_act_542 (by decide) (fun c_542 => ?_) (fun c_542 => ?_)
  · exact absurd c_542 (nI_pos (by omega))
  · have n_542 := c_542
    have c_542 := i_nlt.mp n_542
    refine lv_iload_n hx hb dL_act_545 rfl (lv_at hl 2 rfl) ?_
    refine lv_bipush (v := 6) hx hb dL_act_546 (by decide) ?_
    refine lv_ishr hx hb dL_act_548 ?_
    refine lv_topi (fun sv548 _ => ?_)
    refine lv_iconst (v := 2) hx hb dL_act_549 (by decide) ?_
    refine f_calli1 (va_runS (As := [.int sv548, .int 2]) (rest := []) ⟨hx, hb, hml, hown, hts⟩ (m_L_below l sv548 2 (by decide)) (va_cwS 2 hts gL_act_L_below rfl rfl rfl (by decide +kernel) ⟨(Nat.le_of_ble_eq_true rfl), (Nat.le_of_ble_eq_true rfl)⟩) (fPre_of hG hI) rfl rfl hl.1 rfl (lv_room (Nat.le_of_ble_eq_true rfl)) dL_act_550 ⟨(by show _ ≤ 20; omega), (by show _ ≤ 120; omega)⟩) hI (fun r1 E2 H locs hp hI => ?_)
    obtain ⟨he, hq9⟩ := hp
    rw [hq9] at hI
    obtain ⟨q550, hq550, e550⟩ := below_nat sv548 (m := 2) (by omega) (by omega)
    have he : r1 = nI q550 := he.trans e550
    subst he
    refine lv_if_ne (tgt := 558) hx hb dL_act_553 (by decide) (fun c_553 => ?_) (fun c_553 => ?_)
    · refine lv_aload_n hx hb dL_act_558 rfl (lv_at hl 1 rfl) ?_
      have hS50 : E 50 = .inr (4, [.int (nI T), .ref (ad 51), .ref (ad 52), .int (nI nw), .ref (ad 53), .ref (ad 54)]) := hS.1
      refine f_get (ci := 4) (v := .ref (ad 53)) (C := RX4) (T := TX4) (N := 6) hx hb hts (by decide +kernel) hown hG.1 hI rfl (hSm _ (by omega)) hS50 rfl 4 (by decide) (hts (.fieldLink RL 9 "CoracleRaceLaw$Sim" "boats" "[[I") (by decide +kernel)) rfl dL_act_559 ?_
      refine lv_iload_n hx hb dL_act_562 rfl (lv_at hl 3 rfl) ?_
      have hS53 : E 53 = .inl (cJ, n, .inr (.inr (.inr (.inr (row_at ad 60 n))))) := hS.2.2.2.1
      refine f_aldA hx hb hG.1 hI rfl (hSm _ (by omega)) hS53 (vp_in_nI (by omega) (by omega)) (v := .ref (ad (60 + b))) (by rw [show (nI b).toNatClampNeg = b from nI_clamp (by omega)]; exact row_at_at (by omega)) dL_act_563 ?_
      refine lv_astore (lv' := [(5, .ref (ad (60 + b))), (0, .ref (ad 0)), (1, .ref (ad 50)), (2, .int x), (3, .int (nI b))]) hx hb dL_act_564 hl (by decide) rfl (fun ls hl => ?_)
      refine lv_aload hx hb dL_act_566 (lv_at hl 0 rfl) ?_
      refine lv_iconst (v := 5) hx hb dL_act_568 (by decide) ?_
      have hB_b : E (60 + b) = .inl (cI, 9, .inl (a9 ((B b) 3) ((B b) 4) ((B b) 5) ((B b) 6) ((B b) 7) (if (B b) 8 = 0 then -1 else (B b) 9) ((B b) 10) ((B b) 11) ((B b) 2))) := (hS.2.2.2.2.2 b (by omega)).1
      refine f_iald hx hb hG.1 hI rfl (hSm _ (by omega)) hB_b (vp_in_iff.mpr ⟨by decide, by decide⟩) dL_act_569 ?_
      refine lv_topi (fun tv etv => ?_)
      have etv : tv = (if (B b) 8 = 0 then -1 else (B b) 9) := etv.trans rfl
      subst etv
      refine lv_if_ge (tgt := 580) hx hb dL_act_570 (by decide) (fun c_570 => ?_) (fun c_570 => ?_)
      · have n_570 := i_nlt.mpr c_570
        have h8b : ¬ B b 8 = 0 := fun q => n_570 (((tin_lt (fun q9 => ((hok b hbn).2.2.1 q9).2))).mpr q)
        refine lv_iconst (v := -1) hx hb dL_act_580 (by decide) ?_
        refine lv_istore (lv' := [(6, .int (-1)), (5, .ref (ad (60 + b))), (0, .ref (ad 0)), (1, .ref (ad 50)), (2, .int x), (3, .int (nI b))]) hx hb dL_act_581 hl (by decide) rfl (fun ls hl => ?_)
        refine lv_aload hx hb dL_act_583 (lv_at hl 1 rfl) ?_
        refine lv_iconst (v := 5) hx hb dL_act_585 (by decide) ?_
        refine f_iald hx hb hG.1 hI rfl (hSm _ (by omega)) hB_b (vp_in_iff.mpr ⟨by decide, by decide⟩) dL_act_586 ?_
        refine lv_topi (fun tv etv => ?_)
        have etv : tv = (if (B b) 8 = 0 then -1 else (B b) 9) := etv.trans rfl
        subst etv
        refine lv_if_ge (tgt := 603) hx hb dL_act_587 (by decide) (fun c_587 => ?_) (fun c_587 => ?_)
        · have n_587 := i_nlt.mpr c_587
          refine lv_aload_n hx hb dL_act_603 rfl (lv_at hl 2 rfl) ?_
          refine lv_iload_n hx hb dL_act_604 rfl (lv_at hl 5 rfl) ?_
          refine f_xcalli (vx_runV (As := [.int (nI b)]) (rest := []) ⟨hx, hb, hml, hown, hts⟩ (m_X3_tar l hl9 hX hnw hn6 hT h8 hXm (nI b)) (cwV 1 hts gL_act_X3_tar rfl rfl rfl (by decide +kernel) ⟨(Nat.le_of_ble_eq_true rfl), (Nat.le_of_ble_eq_true rfl)⟩) (fPre_ofV hG hI rfl (hXm 0 (by omega)) hX.1 rfl rfl) rfl rfl hl.1 rfl (lv_room (Nat.le_of_ble_eq_true rfl)) dL_act_605 ⟨(by show _ ≤ 20; omega), (by show _ ≤ 120; omega)⟩) hI (fun En ce q9 H locs hok hI hq1 hq2 hq3 => ?_) (fun r3 E4 H locs hp hI => ?_)
          · rcases hok with ⟨hc9, rfl⟩ | ⟨hc9, rfl⟩
            · exact absurd (hc9.symm.trans (ctar_2 hbn hn6 h8b)) (by decide)
            · refine vx_catch (E := fIS) (name := fIS) hown [(⟨194, 204, 207, 40⟩ : ExceptionTableEntry), (⟨328, 343, 346, 40⟩ : ExceptionTableEntry)] ⟨603, 610, 613, 40⟩ [] (hTT.trans rfl) (fun z hz => by rcases List.mem_cons.mp hz with h9 | h9; rw [h9]; exact Or.inl (by decide); rw [List.mem_singleton.mp h9]; exact Or.inl (by decide)) (by decide) (by decide) (hts (.classLink RL 40 fIS) (by decide +kernel)) (fNest_use (by simp [fNest]) (hG.2.1 (.castable fIS fIS) (by simp [fNest]))) hq1 hq2 hq3 ?_
              refine lv_astore (lv' := [(7, .ref q9), (6, .int (-1)), (5, .ref (ad (60 + b))), (0, .ref (ad 0)), (1, .ref (ad 50)), (2, .int x), (3, .int (nI b))]) hx hb dL_act_613 hl (by decide) rfl (fun ls hl => ?_)
              refine lv_iconst (v := -1) hx hb dL_act_615 (by decide) ?_
              refine lv_istore (lv' := [(4, .int (-1)), (7, .ref q9), (6, .int (-1)), (5, .ref (ad (60 + b))), (0, .ref (ad 0)), (1, .ref (ad 50)), (2, .int x), (3, .int (nI b))]) hx hb dL_act_616 hl (by decide) rfl (fun ls hl => ?_)
              refine lv_iload hx hb dL_act_618 (lv_at hl 0 rfl) ?_
              refine lv_iload hx hb dL_act_620 (lv_at hl 2 rfl) ?_
              refine lv_icmp_ne (tgt := 629) hx hb dL_act_622 (by decide) (fun c_622 => ?_) (fun c_622 => ?_)
              · exact absurd c_622 (by decide)
              · refine lv_iconst (v := 1) hx hb dL_act_625 (by decide) ?_
                refine lv_goto (tgt := 630) hx hb dL_act_626 (by decide) ?_
                exact kk n ad E H locs ls _ _ _ (by omega) (by omega) ⟨rfl, rfl⟩ ⟨w, p, g, nw, B, F, hL0, hX, hS⟩ (hLe ▸ hI) dL_act_630
          · exact absurd hp.1 (by rw [ctar_2 hbn hn6 h8b]; decide)
        · exact absurd c_570 c_587
      · have n_570 := c_570
        have c_570 := i_nle.mp n_570
        have h8b : B b 8 = 0 := ((tin_lt (fun q9 => ((hok b hbn).2.2.1 q9).2))).mp c_570
        refine lv_aload hx hb dL_act_573 (lv_at hl 0 rfl) ?_
        refine lv_iconst (v := 3) hx hb dL_act_575 (by decide) ?_
        refine f_iald hx hb hG.1 hI rfl (hSm _ (by omega)) hB_b (vp_in_iff.mpr ⟨by decide, by decide⟩) dL_act_576 ?_
        refine lv_topi (fun tv etv => ?_)
        have etv : tv = ((B b) 6) := etv.trans rfl
        subst etv
        refine lv_goto (tgt := 581) hx hb dL_act_577 (by decide) ?_
        refine lv_istore (lv' := [(6, .int ((B b) 6)), (5, .ref (ad (60 + b))), (0, .ref (ad 0)), (1, .ref (ad 50)), (2, .int x), (3, .int (nI b))]) hx hb dL_act_581 hl (by decide) rfl (fun ls hl => ?_)
        refine lv_aload hx hb dL_act_583 (lv_at hl 1 rfl) ?_
        refine lv_iconst (v := 5) hx hb dL_act_585 (by decide) ?_
        refine f_iald hx hb hG.1 hI rfl (hSm _ (by omega)) hB_b (vp_in_iff.mpr ⟨by decide, by decide⟩) dL_act_586 ?_
        refine lv_topi (fun tv etv => ?_)
        have etv : tv = (if (B b) 8 = 0 then -1 else (B b) 9) := etv.trans rfl
        subst etv
        refine lv_if_ge (tgt := 603) hx hb dL_act_587 (by decide) (fun c_587 => ?_) (fun c_587 => ?_)
        · exact absurd c_587 n_570
        · have n_587 := c_587
          have c_587 := i_nle.mp n_587
          refine lv_aload hx hb dL_act_590 (lv_at hl 1 rfl) ?_
          refine lv_iconst (v := 3) hx hb dL_act_592 (by decide) ?_
          refine lv_iconst (v := 0) hx hb dL_act_593 (by decide) ?_
          refine f_iast hx hb hG.1 hI rfl (hSm _ (by omega)) hB_b (vp_in_iff.mpr ⟨by decide, by decide⟩) dL_act_594 (fun E5 H locs hE6 hz7 hI => ?_)
          have hX := hX.kept (fun q h1 => hz7 q (by omega))
          have hB_b : E5 (60 + b) = .inl (cI, 9, .inl (a9 ((B b) 3) ((B b) 4) ((B b) 5) 0 ((B b) 7) (if (B b) 8 = 0 then -1 else (B b) 9) ((B b) 10) ((B b) 11) ((B b) 2))) := hE6.trans (congrArg (fun f9 => (Sum.inl (cI, 9, Sum.inl f9) : va_E)) (a9_3 (x := 0)))
          have hfb : ∀ q, q ≠ 60 + b → E5 q = E q := hz7
          refine lv_aload hx hb dL_act_595 (lv_at hl 1 rfl) ?_
          refine lv_iconst (v := 4) hx hb dL_act_597 (by decide) ?_
          refine lv_dup2_11 hx hb dL_act_598 rfl rfl ?_
          refine f_iald hx hb hG.1 hI rfl (hSm _ (by omega)) hB_b (vp_in_iff.mpr ⟨by decide, by decide⟩) dL_act_599 ?_
          refine lv_topi (fun tv etv => ?_)
          have etv : tv = ((B b) 7) := etv.trans rfl
          subst etv
          refine lv_iconst (v := 4) hx hb dL_act_600 (by decide) ?_
          refine lv_iadd hx hb dL_act_601 ?_
          refine f_iast hx hb hG.1 hI rfl (hSm _ (by omega)) hB_b (vp_in_iff.mpr ⟨by decide, by decide⟩) dL_act_602 (fun E8 H locs hE9 hz10 hI => ?_)
          have hX := hX.kept (fun q h1 => hz10 q (by omega))
          have hS := hS.boat hn6 hbn (b := va_up (va_up (B b) 6 0) 7 (B b 7 + 4)) (hE9.trans (congrArg (fun f9 => (Sum.inl (cI, 9, Sum.inl f9) : va_E)) (a9_4 (x := (((B b) 7) + 4))))) rfl (fun q h1 => (hz10 q h1).trans (hfb q h1))
          refine lv_aload_n hx hb dL_act_603 rfl (lv_at hl 2 rfl) ?_
          refine lv_iload_n hx hb dL_act_604 rfl (lv_at hl 5 rfl) ?_
          refine f_xcalli (vx_runV (As := [.int (nI b)]) (rest := []) ⟨hx, hb, hml, hown, hts⟩ (m_X3_tar l hl9 hX hnw hn6 hT h8 hXm (nI b)) (cwV 1 hts gL_act_X3_tar rfl rfl rfl (by decide +kernel) ⟨(Nat.le_of_ble_eq_true rfl), (Nat.le_of_ble_eq_true rfl)⟩) (fPre_ofV hG hI rfl (hXm 0 (by omega)) hX.1 rfl rfl) rfl rfl hl.1 rfl (lv_room (Nat.le_of_ble_eq_true rfl)) dL_act_605 ⟨(by show _ ≤ 20; omega), (by show _ ≤ 120; omega)⟩) hI (fun En ce q9 H locs hok hI hq1 hq2 hq3 => ?_) (fun r11 E12 H locs hp hI => ?_)
          · exact hok.elim (fun q9 => absurd q9.1 (by rw [ctar_0 hbn hn6 h8b]; decide)) (fun q9 => absurd q9.1 (by rw [ctar_0 hbn hn6 h8b]; decide))
          · obtain ⟨-, hr9, hX, hn9⟩ := hp
            rw [show (nI b).toNatClampNeg = b from nI_clamp (by omega)] at hr9 hX
            subst hr9
            have hS := hS.kept hn6 (fun q h1 h2 => hn9 q (by omega))
            refine lv_istore (lv' := [(4, .int (B b 6)), (6, .int ((B b) 6)), (5, .ref (ad (60 + b))), (0, .ref (ad 0)), (1, .ref (ad 50)), (2, .int x), (3, .int (nI b))]) hx hb dL_act_608 hl (by decide) rfl (fun ls hl => ?_)
            refine lv_goto (tgt := 618) hx hb dL_act_610 (by decide) ?_
            refine lv_iload hx hb dL_act_618 (lv_at hl 0 rfl) ?_
            refine lv_iload hx hb dL_act_620 (lv_at hl 1 rfl) ?_
            refine lv_icmp_ne (tgt := 629) hx hb dL_act_622 (by decide) (fun c_622 => ?_) (fun c_622 => ?_)
            · exact absurd rfl c_622
            · refine lv_iconst (v := 1) hx hb dL_act_625 (by decide) ?_
              refine lv_goto (tgt := 630) hx hb dL_act_626 (by decide) ?_
              exact kk n ad E12 H locs ls _ _ _ (by omega) (by omega) ⟨rfl, rfl⟩ ⟨w, p, g, nw, _, F, hL0.tar hbn, hX, hS⟩ (hLe ▸ hI) dL_act_630
    · refine lv_iconst (v := 1) hx hb dL_act_556 (by decide) ?_
      exact kk n ad E H locs ls _ _ _ (by omega) (by omega) ⟨rfl, rfl⟩ ⟨w, p, g, nw, B, F, hL0, hX, hS⟩ (hLe ▸ hI) dL_act_557

set_option maxHeartbeats 4000000 in
set_option maxRecDepth 100000 in
theorem act_paddle (l : Launch) {pr : Program} {e : Env} {s : State} {m : MethodId} {args : Array Value} {below : List Frame} {meth : Method} {c : Code} {Q : State → Prop} (hx : pr.tables.exec = Jvm.exec) (hb : c.code = cL_act) (hml : c.maxLocals = 9) (hts : ∀ w ∈ wsL_act, w.before args s = true) (hown : s.vm.findClass RL = some m.cls) {D : va_G} {cI cJ cB : ClassId} {t0 z : Nat} {tx ad : Nat → Nat} {L : List Nat} (hG : fG D cI cJ cB t0 z tx s) {E : Nat → va_E} {H : Heap} {locs : List Loc} {ls : Array Slot} (hl9 : l.stackTraces = false) (hTT : c.exceptionTable.toList = tableOf [(194, 204, 207, 40), (328, 343, 346, 40), (603, 610, 613, 40)]) {w p g : Nat → Int32} {nw n T : Nat} {B F : Nat → Nat → Int32} (hL0 : okL w p g nw n T B) (hT : T < 2 ^ 30) (hLe : L = fLS n) (hX : x_at cI cB ad E w p g nw n T B F) (hS : s_at cI cJ ad E w p g nw n T B F) {x : Int32} {b : Nat} (hbn : b < n) (hI : fI D (fA z) s.heap ad L E H locs) (hl : lv_has ls 9 [(0, .ref (ad 0)), (1, .ref (ad 50)), (2, .int x), (3, .int (nI b))]) (kk : ∀ (n1 : Nat) (ad1 : Nat → Nat) (E1 : Nat → va_E) (H1 : Heap) (locs1 : List Loc) (ls1 : Array Slot) (c1 s1 pc1 : Nat), c1 ≤ 10 → s1 ≤ 60 → (ad1 0 = ad 0 ∧ ad1 50 = ad 50) → law_st cI cJ cB T n1 ad1 E1 → fI D (fA z) s.heap ad1 (fLS n1) E1 H1 locs1 → decode cL_act pc1 = .ok (.ireturn, 1) → W pr l e ({ frames := 7, cells := 20, slots := 120, locals := 130 } : Room) s m args below meth c H1 locs1 c1 s1 Q (F0 m pc1 ls1 [.int 1])) : W pr l e ({ frames := 7, cells := 20, slots := 120, locals := 130 } : Room) s m args below meth c H locs 0 0 Q (F0 m 415 ls []) := by
  have hnw := hL0.1
  have hn6 := hL0.2.1
  have h8 := hL0.h8
  have hok := hL0.2.2.2.1
  have hv := hL0.2.2.1
  have hLt : ∀ k, k ∈ L → k < 80 := fun k hk => by rw [hLe] at hk; exact (fLS_mem.mp hk).1
  have hXm : ∀ k, k < 5 ∨ (10 ≤ k ∧ k < 24) ∨ (30 ≤ k ∧ k < 44) → k ∈ L := fun k hk => by rw [hLe]; exact fLS_x k hk
  have hSm : ∀ k, (50 ≤ k ∧ k < 55) ∨ (60 ≤ k ∧ k < 60 + n) ∨ (70 ≤ k ∧ k < 70 + n) → k ∈ L := fun k hk => by rw [hLe]; exact fLS_s hn6 k hk
  refine lv_iload_n hx hb dL_act_415 rfl (lv_at hl 3 rfl) ?_
  refine lv_if_ge (tgt := 421) hx hb dL_act_416 (by decide) (fun c_416 => ?_) (fun c_416 => ?_)
  · have n_416 := i_nlt.mpr c_416
    refine lv_iconst (v := 1) hx hb dL_act_421 (by decide) ?_
    refine lv_iload_n hx hb dL_act_422 rfl (lv_at hl 2 rfl) ?_
    refine lv_iconst (v := 5) hx hb dL_act_423 (by decide) ?_
    refine lv_ishr hx hb dL_act_424 ?_
    refine lv_topi (fun sv424 _ => ?_)
    refine lv_bipush (v := 6) hx hb dL_act_425 (by decide) ?_
    refine f_calli1 (va_runS (As := [.int sv424, .int 6]) (rest := [.int 1]) ⟨hx, hb, hml, hown, hts⟩ (m_L_below l sv424 6 (by decide)) (va_cwS 2 hts gL_act_L_below rfl rfl rfl (by decide +kernel) ⟨(Nat.le_of_ble_eq_true rfl), (Nat.le_of_ble_eq_true rfl)⟩) (fPre_of hG hI) rfl rfl hl.1 rfl (lv_room (Nat.le_of_ble_eq_true rfl)) dL_act_427 ⟨(by show _ ≤ 20; omega), (by show _ ≤ 120; omega)⟩) hI (fun r1 E2 H locs hp hI => ?_)
    obtain ⟨he, hq9⟩ := hp
    rw [hq9] at hI
    obtain ⟨q427, hq427, e427⟩ := below_nat sv424 (m := 6) (by omega) (by omega)
    have he : r1 = nI q427 := he.trans e427
    subst he
    refine lv_iadd hx hb dL_act_430 ?_
    refine lv_topi (fun tv etv => ?_)
    have etv : tv = (nI (q427 + 1)) := etv.trans (one_add q427)
    subst etv
    refine f_newi (k := 80) (n := (nI (q427 + 1))) (N := (q427 + 1)) hx hb (hts (.arrayClass .int) (by decide +kernel)) hG.1 hI (fG_A hG) (nI_pos (by omega)) (nI_clamp (by omega)) (by omega) (fun h9 => absurd (hLt _ h9) (by omega)) (by show _ ≤ 20; omega) (by show _ ≤ 120; omega) dL_act_431 (fun aN2 adN2 EN2 H hk2 hr2 hEk2 hEr2 hI => ?_)
    have hX := (hX.ad (fun q h1 => hr2 q (by omega))).kept (fun q h1 => hEr2 q (by omega))
    have hS := (hS.ad hn6 (fun q h1 h2 => hr2 q (by omega))).kept hn6 (fun q h1 h2 => hEr2 q (by omega))
    have hXm := fun k hk => List.mem_append_left [80] (hXm k hk)
    have hSm := fun k hk => List.mem_append_left [80] (hSm k hk)
    have hq2_0 : adN2 0 = (ad 0) := hr2 0 (by omega)
    have hq2_1 : adN2 50 = (ad 50) := hr2 50 (by omega)
    have hl : lv_has ls 9 [(0, .ref (adN2 0)), (1, .ref (adN2 50)), (2, .int x), (3, .int (nI b))] := by rw [hq2_0, hq2_1]; exact hl
    have hc_own : EN2 80 = .inl (cI, (q427 + 1), .inl (fun _ => 0)) := hEk2
    have ha_own : adN2 80 = aN2 := hk2
    refine lv_astore (lv' := [(5, .ref aN2), (0, .ref (adN2 0)), (1, .ref (adN2 50)), (2, .int x), (3, .int (nI b))]) hx hb dL_act_433 hl (by decide) rfl (fun ls hl => ?_)
    refine lv_iconst (v := 0) hx hb dL_act_435 (by decide) ?_
    refine lv_istore (lv' := [(6, .int 0), (5, .ref aN2), (0, .ref (adN2 0)), (1, .ref (adN2 50)), (2, .int x), (3, .int (nI b))]) hx hb dL_act_436 hl (by decide) rfl (fun ls hl => ?_)
    refine lv_iconst (v := 0) hx hb dL_act_438 (by decide) ?_
    refine lv_istore (lv' := [(7, .int 0), (6, .int 0), (5, .ref aN2), (0, .ref (adN2 0)), (1, .ref (adN2 50)), (2, .int x), (3, .int (nI b))]) hx hb dL_act_439 hl (by decide) rfl (fun ls hl => ?_)
    have K9 : ∀ (d k : Nat), k ≤ q427 + 1 → q427 + 2 ≤ k + d → ∀ (f : Nat → Int32) (num : Int32) (Ea : Nat → va_E) (H : Heap) (locs : List Loc) (ls : Array Slot), pd f k num → x_at cI cB adN2 Ea w p g nw n T B F → s_at cI cJ adN2 Ea w p g nw n T B F → Ea 80 = .inl (cI, q427 + 1, .inl f) → fI D (fA z) s.heap adN2 (L ++ [80]) Ea H locs → lv_has ls 9 [(0, .ref (adN2 0)), (1, .ref (adN2 50)), (2, .int x), (3, .int (nI b)), (5, .ref aN2), (6, .int num), (7, .int (nI k))] → W pr l e ({ frames := 7, cells := 20, slots := 120, locals := 130 } : Room) s m args below meth c H locs (0 + 1) (0 + (q427 + 1)) Q (F0 m 441 ls []) := by
      intro d
      induction d with
      | zero => intro k h1 h2; exact absurd h2 (by omega)
      | succ d ih =>
        intro k hk1 hk2 f num Ea H locs ls hpd hX hS hc_own hI hl
        refine lv_iload hx hb dL_act_441 (lv_at hl 6 rfl) ?_
        refine lv_aload hx hb dL_act_443 (lv_at hl 4 rfl) ?_
        refine f_alen hx hb hG.1 hI ha_own in_last hc_own (v := nI (q427 + 1)) rfl dL_act_445 ?_
        refine lv_icmp_ge (tgt := 503) hx hb dL_act_446 (by decide) (fun c_446 => ?_) (fun c_446 => ?_)
        · have n_446 := i_nlt.mpr c_446
          have hke : k = q427 + 1 := by have := (nI_leI (by omega) (by omega)).mp c_446; omega
          rw [hke] at hpd
          refine lv_aload_n hx hb dL_act_503 rfl (lv_at hl 1 rfl) ?_
          have hS50 : Ea 50 = .inr (4, [.int (nI T), .ref (adN2 51), .ref (adN2 52), .int (nI nw), .ref (adN2 53), .ref (adN2 54)]) := hS.1
          refine f_get (ci := 4) (v := .ref (adN2 54)) (C := RX4) (T := TX4) (N := 6) hx hb hts (by decide +kernel) hown hG.1 hI rfl (hSm _ (by omega)) hS50 rfl 5 (by decide) (hts (.fieldLink RL 49 "CoracleRaceLaw$Sim" "strokes" "[[I") (by decide +kernel)) rfl dL_act_504 ?_
          refine lv_iload_n hx hb dL_act_507 rfl (lv_at hl 3 rfl) ?_
          have hS54 : Ea 54 = .inl (cJ, n, .inr (.inr (.inr (.inr (row_at adN2 70 n))))) := hS.2.2.2.2.1
          refine f_aldA hx hb hG.1 hI rfl (hSm _ (by omega)) hS54 (vp_in_nI (by omega) (by omega)) (v := .ref (adN2 (70 + b))) (by rw [show (nI b).toNatClampNeg = b from nI_clamp (by omega)]; exact row_at_at (by omega)) dL_act_508 ?_
          have hT_b : Ea (70 + b) = .inl (cI, (bl_len (B b)), .inl (F b)) := (hS.2.2.2.2.2 b (by omega)).2
          refine f_alen hx hb hG.1 hI rfl (hSm _ (by omega)) hT_b (v := nI (bl_len (B b))) rfl dL_act_509 ?_
          refine lv_istore (lv' := [(7, .int (nI (bl_len (B b)))), (0, .ref (adN2 0)), (1, .ref (adN2 50)), (2, .int x), (3, .int (nI b)), (5, .ref aN2), (6, .int num)]) hx hb dL_act_510 hl (by decide) rfl (fun ls hl => ?_)
          refine lv_aload_n hx hb dL_act_512 rfl (lv_at hl 2 rfl) ?_
          refine f_get (ci := 4) (v := .ref (adN2 54)) (C := RX4) (T := TX4) (N := 6) hx hb hts (by decide +kernel) hown hG.1 hI rfl (hSm _ (by omega)) hS50 rfl 5 (by decide) (hts (.fieldLink RL 49 "CoracleRaceLaw$Sim" "strokes" "[[I") (by decide +kernel)) rfl dL_act_513 ?_
          refine lv_iload_n hx hb dL_act_516 rfl (lv_at hl 4 rfl) ?_
          refine lv_aload hx hb dL_act_517 (lv_at hl 5 rfl) ?_
          refine f_astA hx hb hG.1 (hG.2.1 (.arrayOver (.array .int)) (by simp [fNest])) hI rfl (hSm _ (by omega)) hS54 ha_own in_last hc_own (vp_in_nI (by omega) (by omega)) dL_act_519 (fun E4 H locs hE5 hz6 hI => ?_)
          have hX := hX.kept (fun q h1 => hz6 q (by omega))
          have h54 : E4 54 = .inl (cJ, n, .inr (.inr (.inr (.inr (va_up (row_at adN2 70 n) b (some aN2)))))) := (by rw [show (nI b).toNatClampNeg = b from nI_clamp (by omega)] at hE5; exact hE5)
          have hf54 : ∀ q, q ≠ 54 → E4 q = Ea q := hz6
          have hc_own : E4 80 = .inl (cI, (q427 + 1), .inl f) := (hz6 80 (by omega)).trans hc_own
          refine lv_aload_n hx hb dL_act_520 rfl (lv_at hl 1 rfl) ?_
          refine lv_iload_n hx hb dL_act_521 rfl (lv_at hl 4 rfl) ?_
          refine lv_aload hx hb dL_act_522 (lv_at hl 5 rfl) ?_
          refine f_alen hx hb hG.1 hI ha_own in_last hc_own (v := nI (q427 + 1)) rfl dL_act_524 ?_
          refine lv_iload hx hb dL_act_525 (lv_at hl 6 rfl) ?_
          refine f_xcalli (vx_runV (As := [.int (nI b), .int (nI (q427 + 1)), .int num]) (rest := []) ⟨hx, hb, hml, hown, hts⟩ (m_X3_paddle l hl9 hX hnw hn6 hT h8 hXm (nI b) (nI (q427 + 1)) num) (cwV 3 hts gL_act_X3_paddle rfl rfl rfl (by decide +kernel) ⟨(Nat.le_of_ble_eq_true rfl), (Nat.le_of_ble_eq_true rfl)⟩) (fPre_ofV hG hI rfl (hXm 0 (by omega)) hX.1 rfl rfl) rfl rfl hl.1 rfl (lv_room (Nat.le_of_ble_eq_true rfl)) dL_act_527 ⟨(by show _ ≤ 20; omega), (by show _ ≤ 120; omega)⟩) hI (fun En ce q9 H locs hok hI hq1 hq2 hq3 => ?_) (fun r7 E8 H locs hp hI => ?_)
          · exact hok.elim (fun q9 => absurd q9.1 (by rw [cpaddle_0 hbn hn6 (len := q427 + 1) (by omega) (by omega) (pd_end (F := F b) hpd (by omega)).1]; decide)) (fun q9 => absurd q9.1 (by rw [cpaddle_0 hbn hn6 (len := q427 + 1) (by omega) (by omega) (pd_end (F := F b) hpd (by omega)).1]; decide))
          obtain ⟨-, hr9, hX, hn9⟩ := hp
          have hc_own : E8 80 = .inl (cI, (q427 + 1), .inl f) := (hn9 80 (by omega)).trans hc_own
          rw [show (nI b).toNatClampNeg = b from nI_clamp (by omega)] at hr9
          rw [show (nI b).toNatClampNeg = b from nI_clamp (by omega), show (nI (q427 + 1)).toNatClampNeg = q427 + 1 from nI_clamp (by omega)] at hX
          subst hr9
          have h54 := (hn9 54 (by omega)).trans h54
          have hf54 : ∀ q, 44 ≤ q → q ≠ 54 → E8 q = Ea q := fun q h1 h2 => (hn9 q h1).trans (hf54 q h2)
          refine lv_iload hx hb dL_act_530 (lv_at hl 0 rfl) ?_
          refine lv_icmp_ne (tgt := 539) hx hb dL_act_532 (by decide) (fun c_532 => ?_) (fun c_532 => ?_)
          · exact (c_532 ((bl_len_1 (hok b hbn).1).1)).elim
          · refine lv_iconst (v := 1) hx hb dL_act_535 (by decide) ?_
            refine lv_goto (tgt := 540) hx hb dL_act_536 (by decide) ?_
            obtain ⟨ad9, E9, had9, hst9, hI9⟩ := paddle_end (ad := adN2) (E := E8) (num := num) (hLe ▸ hI) hL0 hbn (by omega) (by omega) hX ((hf54 50 (by omega) (by omega)).trans hS.1) ((hf54 51 (by omega) (by omega)).trans hS.2.1) ((hf54 52 (by omega) (by omega)).trans hS.2.2.1) ((hf54 53 (by omega) (by omega)).trans hS.2.2.2.1) (h54.trans (by rw [ha_own])) (fun i hi => ⟨(hf54 _ (by omega) (by omega)).trans (hS.2.2.2.2.2 i hi).1, (hf54 _ (by omega) (by omega)).trans (hS.2.2.2.2.2 i hi).2⟩) hc_own (pd_end hpd (by omega)).2
            exact kk n ad9 E9 H locs ls _ _ _ (by omega) (by omega) ⟨had9.1.trans (hr2 0 (by omega)), had9.2.trans (hr2 50 (by omega))⟩ hst9 hI9 dL_act_540
        · have n_446 := c_446
          have c_446 := i_nle.mp n_446
          have hke : k < q427 + 1 := (nI_ltI (by omega) (by omega)).mp c_446
          refine lv_aload hx hb dL_act_449 (lv_at hl 4 rfl) ?_
          refine lv_iload hx hb dL_act_451 (lv_at hl 6 rfl) ?_
          refine lv_iload_n hx hb dL_act_453 rfl (lv_at hl 2 rfl) ?_
          refine lv_bipush (v := 7) hx hb dL_act_454 (by decide) ?_
          refine lv_iload hx hb dL_act_456 (lv_at hl 6 rfl) ?_
          refine lv_iadd hx hb dL_act_458 ?_
          refine lv_ishr hx hb dL_act_459 ?_
          refine lv_topi (fun sv459 _ => ?_)
          refine lv_iconst (v := 3) hx hb dL_act_460 (by decide) ?_
          refine f_calli1 (va_runS (As := [.int sv459, .int 3]) (rest := [.int (nI k), .ref aN2]) ⟨hx, hb, hml, hown, hts⟩ (m_L_below l sv459 3 (by decide)) (va_cwS 2 hts gL_act_L_below rfl rfl rfl (by decide +kernel) ⟨(Nat.le_of_ble_eq_true rfl), (Nat.le_of_ble_eq_true rfl)⟩) (fPre_of hG hI) rfl rfl hl.1 rfl (lv_room (Nat.le_of_ble_eq_true rfl)) dL_act_461 ⟨(by show _ ≤ 20; omega), (by show _ ≤ 120; omega)⟩) hI (fun r9 E10 H locs hp hI => ?_)
          obtain ⟨he, hq9⟩ := hp
          rw [hq9] at hI
          obtain ⟨q461, hq461, e461⟩ := below_nat sv459 (m := 3) (by omega) (by omega)
          have he : r9 = nI q461 := he.trans e461
          subst he
          refine lv_if_ne (tgt := 471) hx hb dL_act_464 (by decide) (fun c_464 => ?_) (fun c_464 => ?_)
          · refine lv_iload_n hx hb dL_act_471 rfl (lv_at hl 2 rfl) ?_
            refine lv_iconst (v := 4) hx hb dL_act_472 (by decide) ?_
            refine lv_ishr hx hb dL_act_473 ?_
            refine lv_topi (fun sv473 _ => ?_)
            refine lv_iconst (v := 3) hx hb dL_act_474 (by decide) ?_
            refine lv_iload hx hb dL_act_475 (lv_at hl 6 rfl) ?_
            refine lv_imul hx hb dL_act_477 ?_
            refine lv_iadd hx hb dL_act_478 ?_
            refine lv_iconst (v := 4) hx hb dL_act_479 (by decide) ?_
            refine f_calli1 (va_runS (As := [.int (sv473 + (3 * (nI k))), .int 4]) (rest := [.int (nI k), .ref aN2]) ⟨hx, hb, hml, hown, hts⟩ (m_L_below l (sv473 + (3 * (nI k))) 4 (by decide)) (va_cwS 2 hts gL_act_L_below rfl rfl rfl (by decide +kernel) ⟨(Nat.le_of_ble_eq_true rfl), (Nat.le_of_ble_eq_true rfl)⟩) (fPre_of hG hI) rfl rfl hl.1 rfl (lv_room (Nat.le_of_ble_eq_true rfl)) dL_act_480 ⟨(by show _ ≤ 20; omega), (by show _ ≤ 120; omega)⟩) hI (fun r11 E12 H locs hp hI => ?_)
            obtain ⟨he, hq9⟩ := hp
            rw [hq9] at hI
            obtain ⟨q480, hq480, e480⟩ := below_nat (sv473 + (3 * (nI k))) (m := 4) (by omega) (by omega)
            have he : r11 = nI q480 := he.trans e480
            subst he
            refine f_iast hx hb hG.1 hI ha_own in_last hc_own (vp_in_nI (by omega) (by omega)) dL_act_483 (fun E13 H locs hE14 hz15 hI => ?_)
            have hc_own : E13 80 = .inl (cI, (q427 + 1), .inl (upd f k (nI q480))) := (by rw [show (nI k).toNatClampNeg = k from nI_clamp (by omega)] at hE14; exact hE14)
            have hX := hX.kept (fun q h1 => hz15 q (by omega))
            have hS := hS.kept hn6 (fun q h1 h2 => hz15 q (by omega))
            refine lv_bipush (v := 10) hx hb dL_act_484 (by decide) ?_
            refine lv_iload hx hb dL_act_486 (lv_at hl 5 rfl) ?_
            refine lv_imul hx hb dL_act_488 ?_
            refine lv_aload hx hb dL_act_489 (lv_at hl 4 rfl) ?_
            refine lv_iload hx hb dL_act_491 (lv_at hl 6 rfl) ?_
            refine f_iald hx hb hG.1 hI ha_own in_last hc_own (vp_in_nI (by omega) (by omega)) dL_act_493 ?_
            refine lv_topi (fun tv etv => ?_)
            have etv : tv = (nI q480) := etv.trans (by rw [show (nI k).toNatClampNeg = k from nI_clamp (by omega)]; exact pk_us)
            subst etv
            refine lv_iadd hx hb dL_act_494 ?_
            refine lv_istore (lv' := [(6, .int ((10 * num) + (nI q480))), (0, .ref (adN2 0)), (1, .ref (adN2 50)), (2, .int x), (3, .int (nI b)), (5, .ref aN2), (7, .int (nI k))]) hx hb dL_act_495 hl (by decide) rfl (fun ls hl => ?_)
            refine lv_iinc (v := (nI (k + 1))) (lv' := [(7, .int (nI (k + 1))), (6, .int ((10 * num) + (nI q480))), (0, .ref (adN2 0)), (1, .ref (adN2 50)), (2, .int x), (3, .int (nI b)), (5, .ref aN2)]) hx hb dL_act_497 hl (k := 6) rfl (nI_1 k) (by decide) rfl (fun ls hl => ?_)
            refine lv_goto (tgt := 441) hx hb dL_act_500 (by decide) ?_
            exact ih (k + 1) (by omega) (by omega) _ _ E13 H locs ls (pd_s hpd hq480 rfl) hX hS hc_own hI (lv_sub hl [2, 3, 4, 5, 6, 1, 0] rfl)
          · refine lv_iconst (v := 3) hx hb dL_act_467 (by decide) ?_
            refine lv_goto (tgt := 483) hx hb dL_act_468 (by decide) ?_
            refine f_iast hx hb hG.1 hI ha_own in_last hc_own (vp_in_nI (by omega) (by omega)) dL_act_483 (fun E16 H locs hE17 hz18 hI => ?_)
            have hc_own : E16 80 = .inl (cI, (q427 + 1), .inl (upd f k 3)) := (by rw [show (nI k).toNatClampNeg = k from nI_clamp (by omega)] at hE17; exact hE17)
            have hX := hX.kept (fun q h1 => hz18 q (by omega))
            have hS := hS.kept hn6 (fun q h1 h2 => hz18 q (by omega))
            refine lv_bipush (v := 10) hx hb dL_act_484 (by decide) ?_
            refine lv_iload hx hb dL_act_486 (lv_at hl 5 rfl) ?_
            refine lv_imul hx hb dL_act_488 ?_
            refine lv_aload hx hb dL_act_489 (lv_at hl 4 rfl) ?_
            refine lv_iload hx hb dL_act_491 (lv_at hl 6 rfl) ?_
            refine f_iald hx hb hG.1 hI ha_own in_last hc_own (vp_in_nI (by omega) (by omega)) dL_act_493 ?_
            refine lv_topi (fun tv etv => ?_)
            have etv : tv = 3 := etv.trans (by rw [show (nI k).toNatClampNeg = k from nI_clamp (by omega)]; exact pk_us)
            subst etv
            refine lv_iadd hx hb dL_act_494 ?_
            refine lv_istore (lv' := [(6, .int ((10 * num) + 3)), (0, .ref (adN2 0)), (1, .ref (adN2 50)), (2, .int x), (3, .int (nI b)), (5, .ref aN2), (7, .int (nI k))]) hx hb dL_act_495 hl (by decide) rfl (fun ls hl => ?_)
            refine lv_iinc (v := (nI (k + 1))) (lv' := [(7, .int (nI (k + 1))), (6, .int ((10 * num) + 3)), (0, .ref (adN2 0)), (1, .ref (adN2 50)), (2, .int x), (3, .int (nI b)), (5, .ref aN2)]) hx hb dL_act_497 hl (k := 6) rfl (nI_1 k) (by decide) rfl (fun ls hl => ?_)
            refine lv_goto (tgt := 441) hx hb dL_act_500 (by decide) ?_
            exact ih (k + 1) (by omega) (by omega) _ _ E16 H locs ls (pd_s hpd (q := 3) (by omega) rfl) hX hS hc_own hI (lv_sub hl [2, 3, 4, 5, 6, 1, 0] rfl)
    exact K9 (q427 + 2) 0 (by omega) (by omega) (fun _ => 0) 0 EN2 H locs ls (pd_0 _) hX hS hc_own hI (lv_sub hl [3, 4, 5, 6, 2, 1, 0] rfl)
  · exact absurd (nI_pos' (by omega)) c_416

set_option maxHeartbeats 4000000 in
set_option maxRecDepth 100000 in
theorem act_launch (l : Launch) {pr : Program} {e : Env} {s : State} {m : MethodId} {args : Array Value} {below : List Frame} {meth : Method} {c : Code} {Q : State → Prop} (hx : pr.tables.exec = Jvm.exec) (hb : c.code = cL_act) (hml : c.maxLocals = 9) (hts : ∀ w ∈ wsL_act, w.before args s = true) (hown : s.vm.findClass RL = some m.cls) {D : va_G} {cI cJ cB : ClassId} {t0 z : Nat} {tx ad : Nat → Nat} {L : List Nat} (hG : fG D cI cJ cB t0 z tx s) {E : Nat → va_E} {H : Heap} {locs : List Loc} {ls : Array Slot} (hl9 : l.stackTraces = false) (hTT : c.exceptionTable.toList = tableOf [(194, 204, 207, 40), (328, 343, 346, 40), (603, 610, 613, 40)]) {w p g : Nat → Int32} {nw n T : Nat} {B F : Nat → Nat → Int32} (hL0 : okL w p g nw n T B) (hT : T < 2 ^ 30) (hLe : L = fLS n) (hX : x_at cI cB ad E w p g nw n T B F) (hS : s_at cI cJ ad E w p g nw n T B F) {x bv : Int32} (hI : fI D (fA z) s.heap ad L E H locs) (hl : lv_has ls 9 [(0, .ref (ad 0)), (1, .ref (ad 50)), (2, .int x), (3, .int bv)]) (kk : ∀ (n1 : Nat) (ad1 : Nat → Nat) (E1 : Nat → va_E) (H1 : Heap) (locs1 : List Loc) (ls1 : Array Slot) (c1 s1 pc1 : Nat), c1 ≤ 10 → s1 ≤ 60 → (ad1 0 = ad 0 ∧ ad1 50 = ad 50) → law_st cI cJ cB T n1 ad1 E1 → fI D (fA z) s.heap ad1 (fLS n1) E1 H1 locs1 → decode cL_act pc1 = .ok (.ireturn, 1) → W pr l e ({ frames := 7, cells := 20, slots := 120, locals := 130 } : Room) s m args below meth c H1 locs1 c1 s1 Q (F0 m pc1 ls1 [.int 1])) : W pr l e ({ frames := 7, cells := 20, slots := 120, locals := 130 } : Room) s m args below meth c H locs 0 0 Q (F0 m 260 ls []) := by
  have hnw := hL0.1
  have hn6 := hL0.2.1
  have h8 := hL0.h8
  have hok := hL0.2.2.2.1
  have hv := hL0.2.2.1
  have hLt : ∀ k, k ∈ L → k < 80 := fun k hk => by rw [hLe] at hk; exact (fLS_mem.mp hk).1
  have hXm : ∀ k, k < 5 ∨ (10 ≤ k ∧ k < 24) ∨ (30 ≤ k ∧ k < 44) → k ∈ L := fun k hk => by rw [hLe]; exact fLS_x k hk
  have hSm : ∀ k, (50 ≤ k ∧ k < 55) ∨ (60 ≤ k ∧ k < 60 + n) ∨ (70 ≤ k ∧ k < 70 + n) → k ∈ L := fun k hk => by rw [hLe]; exact fLS_s hn6 k hk
  refine lv_bipush (v := 9) hx hb dL_act_260 (by decide) ?_
  refine f_newi (k := 80) (n := 9) (N := 9) hx hb (hts (.arrayClass .int) (by decide +kernel)) hG.1 hI (fG_A hG) (by decide) (by decide) (by decide) (fun h9 => absurd (hLt _ h9) (by omega)) (by show _ ≤ 20; omega) (by show _ ≤ 120; omega) dL_act_262 (fun aN0 adN0 EN0 H hk0 hr0 hEk0 hEr0 hI => ?_)
  have hX := (hX.ad (fun q h1 => hr0 q (by omega))).kept (fun q h1 => hEr0 q (by omega))
  have hS := (hS.ad hn6 (fun q h1 h2 => hr0 q (by omega))).kept hn6 (fun q h1 h2 => hEr0 q (by omega))
  have hXm := fun k hk => List.mem_append_left [80] (hXm k hk)
  have hSm := fun k hk => List.mem_append_left [80] (hSm k hk)
  have hq0_0 : adN0 0 = (ad 0) := hr0 0 (by omega)
  have hq0_1 : adN0 50 = (ad 50) := hr0 50 (by omega)
  have hl : lv_has ls 9 [(0, .ref (adN0 0)), (1, .ref (adN0 50)), (2, .int x), (3, .int bv)] := by rw [hq0_0, hq0_1]; exact hl
  have hc_own : EN0 80 = .inl (cI, 9, .inl (a9 0 0 0 0 0 0 0 0 0)) := by rw [hEk0, a9_z]
  have ha_own : adN0 80 = aN0 := hk0
  refine lv_dup hx hb dL_act_264 rfl ?_
  refine lv_iconst (v := 0) hx hb dL_act_265 (by decide) ?_
  refine lv_iconst (v := 0) hx hb dL_act_266 (by decide) ?_
  refine f_iast hx hb hG.1 hI ha_own in_last hc_own (vp_in_iff.mpr ⟨by decide, by decide⟩) dL_act_267 (fun E2 H locs hE3 hz4 hI => ?_)
  have hc_own : E2 80 = .inl (cI, 9, .inl (a9 0 0 0 0 0 0 0 0 0)) := hE3.trans (congrArg (fun f9 => (Sum.inl (cI, 9, Sum.inl f9) : va_E)) (a9_0 (x := 0)))
  have hX := hX.kept (fun q h1 => hz4 q (by omega))
  have hS := hS.kept hn6 (fun q h1 h2 => hz4 q (by omega))
  refine lv_dup hx hb dL_act_268 rfl ?_
  refine lv_iconst (v := 1) hx hb dL_act_269 (by decide) ?_
  refine lv_iload_n hx hb dL_act_270 rfl (lv_at hl 2 rfl) ?_
  refine lv_iconst (v := 4) hx hb dL_act_271 (by decide) ?_
  refine lv_ishr hx hb dL_act_272 ?_
  refine lv_topi (fun sv272 _ => ?_)
  refine lv_iconst (v := 5) hx hb dL_act_273 (by decide) ?_
  refine f_calli1 (va_runS (As := [.int sv272, .int 5]) (rest := [.int 1, .ref aN0, .ref aN0]) ⟨hx, hb, hml, hown, hts⟩ (m_L_below l sv272 5 (by decide)) (va_cwS 2 hts gL_act_L_below rfl rfl rfl (by decide +kernel) ⟨(Nat.le_of_ble_eq_true rfl), (Nat.le_of_ble_eq_true rfl)⟩) (fPre_of hG hI) rfl rfl hl.1 rfl (lv_room (Nat.le_of_ble_eq_true rfl)) dL_act_274 ⟨(by show _ ≤ 20; omega), (by show _ ≤ 120; omega)⟩) hI (fun r5 E6 H locs hp hI => ?_)
  obtain ⟨he, hq9⟩ := hp
  rw [hq9] at hI
  obtain ⟨q274, hq274, e274⟩ := below_nat sv272 (m := 5) (by omega) (by omega)
  have he : r5 = nI q274 := he.trans e274
  subst he
  refine f_iast hx hb hG.1 hI ha_own in_last hc_own (vp_in_iff.mpr ⟨by decide, by decide⟩) dL_act_277 (fun E7 H locs hE8 hz9 hI => ?_)
  have hc_own : E7 80 = .inl (cI, 9, .inl (a9 0 (nI q274) 0 0 0 0 0 0 0)) := hE8.trans (congrArg (fun f9 => (Sum.inl (cI, 9, Sum.inl f9) : va_E)) (a9_1 (x := (nI q274))))
  have hX := hX.kept (fun q h1 => hz9 q (by omega))
  have hS := hS.kept hn6 (fun q h1 h2 => hz9 q (by omega))
  refine lv_dup hx hb dL_act_278 rfl ?_
  refine lv_iconst (v := 2) hx hb dL_act_279 (by decide) ?_
  refine lv_iconst (v := 0) hx hb dL_act_280 (by decide) ?_
  refine f_iast hx hb hG.1 hI ha_own in_last hc_own (vp_in_iff.mpr ⟨by decide, by decide⟩) dL_act_281 (fun E10 H locs hE11 hz12 hI => ?_)
  have hc_own : E10 80 = .inl (cI, 9, .inl (a9 0 (nI q274) 0 0 0 0 0 0 0)) := hE11.trans (congrArg (fun f9 => (Sum.inl (cI, 9, Sum.inl f9) : va_E)) (a9_2 (x := 0)))
  have hX := hX.kept (fun q h1 => hz12 q (by omega))
  have hS := hS.kept hn6 (fun q h1 h2 => hz12 q (by omega))
  refine lv_dup hx hb dL_act_282 rfl ?_
  refine lv_iconst (v := 3) hx hb dL_act_283 (by decide) ?_
  refine lv_iconst (v := 0) hx hb dL_act_284 (by decide) ?_
  refine f_iast hx hb hG.1 hI ha_own in_last hc_own (vp_in_iff.mpr ⟨by decide, by decide⟩) dL_act_285 (fun E13 H locs hE14 hz15 hI => ?_)
  have hc_own : E13 80 = .inl (cI, 9, .inl (a9 0 (nI q274) 0 0 0 0 0 0 0)) := hE14.trans (congrArg (fun f9 => (Sum.inl (cI, 9, Sum.inl f9) : va_E)) (a9_3 (x := 0)))
  have hX := hX.kept (fun q h1 => hz15 q (by omega))
  have hS := hS.kept hn6 (fun q h1 h2 => hz15 q (by omega))
  refine lv_dup hx hb dL_act_286 rfl ?_
  refine lv_iconst (v := 4) hx hb dL_act_287 (by decide) ?_
  refine lv_iconst (v := 0) hx hb dL_act_288 (by decide) ?_
  refine f_iast hx hb hG.1 hI ha_own in_last hc_own (vp_in_iff.mpr ⟨by decide, by decide⟩) dL_act_289 (fun E16 H locs hE17 hz18 hI => ?_)
  have hc_own : E16 80 = .inl (cI, 9, .inl (a9 0 (nI q274) 0 0 0 0 0 0 0)) := hE17.trans (congrArg (fun f9 => (Sum.inl (cI, 9, Sum.inl f9) : va_E)) (a9_4 (x := 0)))
  have hX := hX.kept (fun q h1 => hz18 q (by omega))
  have hS := hS.kept hn6 (fun q h1 h2 => hz18 q (by omega))
  refine lv_dup hx hb dL_act_290 rfl ?_
  refine lv_iconst (v := 5) hx hb dL_act_291 (by decide) ?_
  refine lv_iconst (v := -1) hx hb dL_act_292 (by decide) ?_
  refine f_iast hx hb hG.1 hI ha_own in_last hc_own (vp_in_iff.mpr ⟨by decide, by decide⟩) dL_act_293 (fun E19 H locs hE20 hz21 hI => ?_)
  have hc_own : E19 80 = .inl (cI, 9, .inl (a9 0 (nI q274) 0 0 0 (-1) 0 0 0)) := hE20.trans (congrArg (fun f9 => (Sum.inl (cI, 9, Sum.inl f9) : va_E)) (a9_5 (x := (-1))))
  have hX := hX.kept (fun q h1 => hz21 q (by omega))
  have hS := hS.kept hn6 (fun q h1 h2 => hz21 q (by omega))
  refine lv_dup hx hb dL_act_294 rfl ?_
  refine lv_bipush (v := 6) hx hb dL_act_295 (by decide) ?_
  refine lv_iconst (v := 0) hx hb dL_act_297 (by decide) ?_
  refine f_iast hx hb hG.1 hI ha_own in_last hc_own (vp_in_iff.mpr ⟨by decide, by decide⟩) dL_act_298 (fun E22 H locs hE23 hz24 hI => ?_)
  have hc_own : E22 80 = .inl (cI, 9, .inl (a9 0 (nI q274) 0 0 0 (-1) 0 0 0)) := hE23.trans (congrArg (fun f9 => (Sum.inl (cI, 9, Sum.inl f9) : va_E)) (a9_6 (x := 0)))
  have hX := hX.kept (fun q h1 => hz24 q (by omega))
  have hS := hS.kept hn6 (fun q h1 h2 => hz24 q (by omega))
  refine lv_dup hx hb dL_act_299 rfl ?_
  refine lv_bipush (v := 7) hx hb dL_act_300 (by decide) ?_
  refine lv_iconst (v := 0) hx hb dL_act_302 (by decide) ?_
  refine f_iast hx hb hG.1 hI ha_own in_last hc_own (vp_in_iff.mpr ⟨by decide, by decide⟩) dL_act_303 (fun E25 H locs hE26 hz27 hI => ?_)
  have hc_own : E25 80 = .inl (cI, 9, .inl (a9 0 (nI q274) 0 0 0 (-1) 0 0 0)) := hE26.trans (congrArg (fun f9 => (Sum.inl (cI, 9, Sum.inl f9) : va_E)) (a9_7 (x := 0)))
  have hX := hX.kept (fun q h1 => hz27 q (by omega))
  have hS := hS.kept hn6 (fun q h1 h2 => hz27 q (by omega))
  refine lv_dup hx hb dL_act_304 rfl ?_
  refine lv_bipush (v := 8) hx hb dL_act_305 (by decide) ?_
  refine lv_iconst (v := 1) hx hb dL_act_307 (by decide) ?_
  refine lv_iload_n hx hb dL_act_308 rfl (lv_at hl 2 rfl) ?_
  refine lv_bipush (v := 7) hx hb dL_act_309 (by decide) ?_
  refine lv_ishr hx hb dL_act_311 ?_
  refine lv_topi (fun sv311 _ => ?_)
  refine lv_bipush (v := 8) hx hb dL_act_312 (by decide) ?_
  refine f_calli1 (va_runS (As := [.int sv311, .int 8]) (rest := [.int 1, .int 8, .ref aN0, .ref aN0]) ⟨hx, hb, hml, hown, hts⟩ (m_L_below l sv311 8 (by decide)) (va_cwS 2 hts gL_act_L_below rfl rfl rfl (by decide +kernel) ⟨(Nat.le_of_ble_eq_true rfl), (Nat.le_of_ble_eq_true rfl)⟩) (fPre_of hG hI) rfl rfl hl.1 rfl (lv_room (Nat.le_of_ble_eq_true rfl)) dL_act_314 ⟨(by show _ ≤ 20; omega), (by show _ ≤ 120; omega)⟩) hI (fun r28 E29 H locs hp hI => ?_)
  obtain ⟨he, hq9⟩ := hp
  rw [hq9] at hI
  obtain ⟨q314, hq314, e314⟩ := below_nat sv311 (m := 8) (by omega) (by omega)
  have he : r28 = nI q314 := he.trans e314
  subst he
  refine lv_iadd hx hb dL_act_317 ?_
  refine lv_topi (fun tv etv => ?_)
  have etv : tv = (nI (q314 + 1)) := etv.trans (one_add q314)
  subst etv
  refine f_iast hx hb hG.1 hI ha_own in_last hc_own (vp_in_iff.mpr ⟨by decide, by decide⟩) dL_act_318 (fun E30 H locs hE31 hz32 hI => ?_)
  have hc_own : E30 80 = .inl (cI, 9, .inl (a9 0 (nI q274) 0 0 0 (-1) 0 0 (nI (q314 + 1)))) := hE31.trans (congrArg (fun f9 => (Sum.inl (cI, 9, Sum.inl f9) : va_E)) (a9_8 (x := (nI (q314 + 1)))))
  have hX := hX.kept (fun q h1 => hz32 q (by omega))
  have hS := hS.kept hn6 (fun q h1 h2 => hz32 q (by omega))
  refine lv_astore (lv' := [(5, .ref aN0), (0, .ref (adN0 0)), (1, .ref (adN0 50)), (2, .int x), (3, .int bv)]) hx hb dL_act_319 hl (by decide) rfl (fun ls hl => ?_)
  refine lv_aload_n hx hb dL_act_321 rfl (lv_at hl 2 rfl) ?_
  have hS50 : E30 50 = .inr (4, [.int (nI T), .ref (adN0 51), .ref (adN0 52), .int (nI nw), .ref (adN0 53), .ref (adN0 54)]) := hS.1
  refine f_get (ci := 4) (v := .ref (adN0 53)) (C := RX4) (T := TX4) (N := 6) hx hb hts (by decide +kernel) hown hG.1 hI rfl (hSm _ (by omega)) hS50 rfl 4 (by decide) (hts (.fieldLink RL 9 "CoracleRaceLaw$Sim" "boats" "[[I") (by decide +kernel)) rfl dL_act_322 ?_
  have hS53 : E30 53 = .inl (cJ, n, .inr (.inr (.inr (.inr (row_at adN0 60 n))))) := hS.2.2.2.1
  refine f_alenA hx hb hG.1 hI rfl (hSm _ (by omega)) hS53 (v := nI n) rfl dL_act_325 ?_
  refine lv_istore (lv' := [(6, .int (nI n)), (5, .ref aN0), (0, .ref (adN0 0)), (1, .ref (adN0 50)), (2, .int x), (3, .int bv)]) hx hb dL_act_326 hl (by decide) rfl (fun ls hl => ?_)
  rcases Nat.lt_or_ge n 6 with h6 | h6
  · refine lv_aload_n hx hb dL_act_328 rfl (lv_at hl 2 rfl) ?_
    refine lv_aload hx hb dL_act_329 (lv_at hl 1 rfl) ?_
    refine lv_iconst (v := 1) hx hb dL_act_331 (by decide) ?_
    refine f_iald hx hb hG.1 hI ha_own in_last hc_own (vp_in_iff.mpr ⟨by decide, by decide⟩) dL_act_332 ?_
    refine lv_topi (fun tv etv => ?_)
    have etv : tv = (nI q274) := etv.trans rfl
    subst etv
    refine lv_aload hx hb dL_act_333 (lv_at hl 1 rfl) ?_
    refine lv_bipush (v := 8) hx hb dL_act_335 (by decide) ?_
    refine f_iald hx hb hG.1 hI ha_own in_last hc_own (vp_in_iff.mpr ⟨by decide, by decide⟩) dL_act_337 ?_
    refine lv_topi (fun tv etv => ?_)
    have etv : tv = (nI (q314 + 1)) := etv.trans rfl
    subst etv
    refine f_xcalli (vx_runV (As := [.int (nI q274), .int (nI (q314 + 1))]) (rest := []) ⟨hx, hb, hml, hown, hts⟩ (m_X3_launch l hl9 hX hnw hn6 hT h8 hXm (nI q274) (nI (q314 + 1))) (cwV 2 hts gL_act_X3_launch rfl rfl rfl (by decide +kernel) ⟨(Nat.le_of_ble_eq_true rfl), (Nat.le_of_ble_eq_true rfl)⟩) (fPre_ofV hG hI rfl (hXm 0 (by omega)) hX.1 rfl rfl) rfl rfl hl.1 rfl (lv_room (Nat.le_of_ble_eq_true rfl)) dL_act_338 ⟨(by show _ ≤ 20; omega), (by show _ ≤ 120; omega)⟩) hI (fun En ce q9 H locs hok hI hq1 hq2 hq3 => ?_) (fun r33 E34 H locs hp hI => ?_)
    · exact hok.elim (fun q9 => absurd q9.1 (by rw [claunch_0 (n := n) (a := q274) (s := q314 + 1) (by omega) (by omega) (by omega) h6]; decide)) (fun q9 => absurd q9.1 (by rw [claunch_0 (n := n) (a := q274) (s := q314 + 1) (by omega) (by omega) (by omega) h6]; decide))
    · obtain ⟨-, hr9, hX, hn9⟩ := hp
      have hc_own : E34 80 = .inl (cI, 9, .inl (a9 0 (nI q274) 0 0 0 (-1) 0 0 (nI (q314 + 1)))) := (hn9 80 (by omega)).trans hc_own
      subst hr9
      have hS := hS.kept hn6 (fun q h1 h2 => hn9 q (by omega))
      refine lv_istore (lv' := [(4, .int (nI n)), (6, .int (nI n)), (5, .ref aN0), (0, .ref (adN0 0)), (1, .ref (adN0 50)), (2, .int x), (3, .int bv)]) hx hb dL_act_341 hl (by decide) rfl (fun ls hl => ?_)
      refine lv_goto (tgt := 351) hx hb dL_act_343 (by decide) ?_
      refine lv_iload hx hb dL_act_351 (lv_at hl 0 rfl) ?_
      refine lv_iload hx hb dL_act_353 (lv_at hl 1 rfl) ?_
      refine lv_bipush (v := 6) hx hb dL_act_355 (by decide) ?_
      refine lv_icmp_ge (tgt := 365) hx hb dL_act_357 (by decide) (fun c_357 => ?_) (fun c_357 => ?_)
      · exact absurd ((nI_leI (by omega) (by omega) (a := 6)).mp c_357) (by omega)
      · have n_357 := c_357
        have c_357 := i_nle.mp n_357
        refine lv_iload hx hb dL_act_360 (lv_at hl 1 rfl) ?_
        refine lv_goto (tgt := 366) hx hb dL_act_362 (by decide) ?_
        refine lv_icmp_eq (tgt := 371) hx hb dL_act_366 (by decide) (fun c_366 => ?_) (fun c_366 => ?_)
        · refine lv_iload hx hb dL_act_371 (lv_at hl 0 rfl) ?_
          refine lv_if_ge (tgt := 378) hx hb dL_act_373 (by decide) (fun c_373 => ?_) (fun c_373 => ?_)
          · have n_373 := i_nlt.mpr c_373
            have hR : s_rest cI cJ adN0 E34 w p g nw n B F := hS.2
            have hacc : ∀ q, q < 80 → adN0 q = adN0 q := fun _ _ => rfl
            have hc_sim : E34 50 = .inr (4, [.int (nI T), .ref (adN0 51), .ref (adN0 52), .int (nI nw), .ref (adN0 53), .ref (adN0 54)]) := hS.1
            refine lv_aload_n hx hb dL_act_378 rfl (lv_at hl 4 rfl) ?_
            refine lv_aload_n hx hb dL_act_379 rfl (lv_at hl 4 rfl) ?_
            refine f_get (ci := 4) (v := .ref (adN0 53)) (C := RX4) (T := TX4) (N := 6) hx hb hts (by decide +kernel) hown hG.1 hI rfl (hSm _ (by omega)) hc_sim rfl 4 (by decide) (hts (.fieldLink RL 9 "CoracleRaceLaw$Sim" "boats" "[[I") (by decide +kernel)) rfl dL_act_380 ?_
            refine lv_aload hx hb dL_act_383 (lv_at hl 2 rfl) ?_
            refine f_callr (va_runS (As := [.ref (adN0 53), .ref aN0]) (rest := [.ref (adN0 50)]) ⟨hx, hb, hml, hown, hts⟩ (m_X4_more l (hacc 53 (by omega)) (hSm 53 (by omega)) hn6 (k0 := 60) hR.2.2.1 (M := (fun _ => 9)) (G := (fun i => sB (B i))) (fun i hi => ⟨hSm _ (by omega), (hR.2.2.2.2 i hi).1⟩) ha_own in_last hc_own (kn := 81) (nin_app (fun h9 => absurd (hLt _ h9) (by omega)) (by omega))) (va_cwS 2 hts gL_act_X4_more rfl rfl rfl (by decide +kernel) ⟨(Nat.le_of_ble_eq_true rfl), (Nat.le_of_ble_eq_true rfl)⟩) (fPre_of hG hI) rfl rfl hl.1 rfl (lv_room (Nat.le_of_ble_eq_true rfl)) dL_act_385 ⟨(by show _ ≤ 20; omega), (by show _ ≤ 120; omega)⟩) hI (fun adN35 EN36 H locs ra37 hra hp hI => ?_)
            obtain ⟨hr81, hEr81, hm81⟩ := hp
            have hr81 : ∀ q : Nat, q ≠ 81 → adN35 q = adN0 q := hr81
            have hEr81 : ∀ q : Nat, q ≠ 81 → EN36 q = E34 q := hEr81
            have ha_mk81 := hra
            have hX := (hX.ad (fun q h1 => hr81 q (by omega))).kept (fun q h1 => hEr81 q (by omega))
            have hR := (hR.ad hn6 (fun q h1 h2 => hr81 q (by omega))).kept hn6 (fun q h1 h2 => hEr81 q (by omega))
            have hXm := fun k hk => List.mem_append_left [81] (hXm k hk)
            have hSm := fun k hk => List.mem_append_left [81] (hSm k hk)
            have ha_own : adN35 80 = aN0 := (hr81 80 (by omega)).trans ha_own
            have hc_own : EN36 80 = .inl (cI, 9, .inl (a9 0 (nI q274) 0 0 0 (-1) 0 0 (nI (q314 + 1)))) := (hEr81 80 (by omega)).trans hc_own
            have ha_sim : adN35 50 = (adN0 50) := (hr81 50 (by omega)).trans rfl
            have hc_sim : EN36 50 = .inr (4, [.int (nI T), .ref (adN0 51), .ref (adN0 52), .int (nI nw), .ref (adN0 53), .ref (adN0 54)]) := (hEr81 50 (by omega)).trans hc_sim
            have hacc : ∀ q, q < 80 → adN35 q = adN0 q := fun q h1 => (hr81 q (by omega)).trans (hacc q h1)
            have hc_mk81 : EN36 81 = .inl (cJ, (n + 1), .inr (.inr (.inr (.inr (va_up (row_at adN0 60 n) n (some aN0)))))) := hm81
            have ha_mk81 : adN35 81 = ra37 := ha_mk81
            refine f_put (ci := 4) (v := .ref ra37) (C := RX4) (T := TX4) (N := 6) hx hb hts (by decide +kernel) tyX4 tyX4_ok nmX4 hown hG.1 hI ha_sim (hSm 50 (by omega)) hc_sim rfl 4 (by decide) (hts (.fieldLink RL 9 "CoracleRaceLaw$Sim" "boats" "[[I") (by decide +kernel)) rfl rfl rfl (Nat.le_of_ble_eq_true rfl) dL_act_388 (fun E38 H locs hE39 hz40 hI => ?_)
            have hc_sim : E38 50 = .inr (4, [.int (nI T), .ref (adN0 51), .ref (adN0 52), .int (nI nw), .ref ra37, .ref (adN0 54)]) := hE39
            have hc_own : E38 80 = .inl (cI, 9, .inl (a9 0 (nI q274) 0 0 0 (-1) 0 0 (nI (q314 + 1)))) := (hz40 80 (by omega)).trans hc_own
            have hc_mk81 : E38 81 = .inl (cJ, (n + 1), .inr (.inr (.inr (.inr (va_up (row_at adN0 60 n) n (some aN0)))))) := (hz40 81 (by omega)).trans hc_mk81
            have hX := hX.kept (fun q h1 => hz40 q (by omega))
            have hR := hR.kept hn6 (fun q h1 h2 => hz40 q (by omega))
            refine lv_iconst (v := 1) hx hb dL_act_391 (by decide) ?_
            refine f_newi (k := 82) (n := 1) (N := 1) hx hb (hts (.arrayClass .int) (by decide +kernel)) hG.1 hI (fG_A hG) (by decide) (by decide) (by decide) (nin_app (nin_app (fun h9 => absurd (hLt _ h9) (by omega)) (by omega)) (by omega)) (by show _ ≤ 20; omega) (by show _ ≤ 120; omega) dL_act_392 (fun aN82 adN82 EN82 H hk82 hr82 hEk82 hEr82 hI => ?_)
            have hX := (hX.ad (fun q h1 => hr82 q (by omega))).kept (fun q h1 => hEr82 q (by omega))
            have hR := (hR.ad hn6 (fun q h1 h2 => hr82 q (by omega))).kept hn6 (fun q h1 h2 => hEr82 q (by omega))
            have hXm := fun k hk => List.mem_append_left [82] (hXm k hk)
            have hSm := fun k hk => List.mem_append_left [82] (hSm k hk)
            have ha_own : adN82 80 = aN0 := (hr82 80 (by omega)).trans ha_own
            have hc_own : EN82 80 = .inl (cI, 9, .inl (a9 0 (nI q274) 0 0 0 (-1) 0 0 (nI (q314 + 1)))) := (hEr82 80 (by omega)).trans hc_own
            have ha_sim : adN82 50 = (adN0 50) := (hr82 50 (by omega)).trans ha_sim
            have hc_sim : EN82 50 = .inr (4, [.int (nI T), .ref (adN0 51), .ref (adN0 52), .int (nI nw), .ref ra37, .ref (adN0 54)]) := (hEr82 50 (by omega)).trans hc_sim
            have ha_mk81 : adN82 81 = ra37 := (hr82 81 (by omega)).trans ha_mk81
            have hc_mk81 : EN82 81 = .inl (cJ, (n + 1), .inr (.inr (.inr (.inr (va_up (row_at adN0 60 n) n (some aN0)))))) := (hEr82 81 (by omega)).trans hc_mk81
            have hacc : ∀ q, q < 80 → adN82 q = adN0 q := fun q h1 => (hr82 q (by omega)).trans (hacc q h1)
            have hc_both : EN82 82 = .inl (cI, 1, .inl (fun _ => 0)) := hEk82
            have ha_both : adN82 82 = aN82 := hk82
            refine lv_dup hx hb dL_act_394 rfl ?_
            refine lv_iconst (v := 0) hx hb dL_act_395 (by decide) ?_
            refine lv_iconst (v := 3) hx hb dL_act_396 (by decide) ?_
            refine f_iast hx hb hG.1 hI ha_both in_last hc_both (vp_in_iff.mpr ⟨by decide, by decide⟩) dL_act_397 (fun E41 H locs hE42 hz43 hI => ?_)
            have hc_both : E41 82 = .inl (cI, 1, .inl (upd (fun _ => 0) 0 3)) := hE42
            have hc_own : E41 80 = .inl (cI, 9, .inl (a9 0 (nI q274) 0 0 0 (-1) 0 0 (nI (q314 + 1)))) := (hz43 80 (by omega)).trans hc_own
            have hc_sim : E41 50 = .inr (4, [.int (nI T), .ref (adN0 51), .ref (adN0 52), .int (nI nw), .ref ra37, .ref (adN0 54)]) := (hz43 50 (by omega)).trans hc_sim
            have hc_mk81 : E41 81 = .inl (cJ, (n + 1), .inr (.inr (.inr (.inr (va_up (row_at adN0 60 n) n (some aN0)))))) := (hz43 81 (by omega)).trans hc_mk81
            have hX := hX.kept (fun q h1 => hz43 q (by omega))
            have hR := hR.kept hn6 (fun q h1 h2 => hz43 q (by omega))
            refine lv_astore (lv' := [(7, .ref aN82), (4, .int (nI n)), (6, .int (nI n)), (5, .ref aN0), (0, .ref (adN0 0)), (1, .ref (adN0 50)), (2, .int x), (3, .int bv)]) hx hb dL_act_398 hl (by decide) rfl (fun ls hl => ?_)
            refine lv_aload_n hx hb dL_act_400 rfl (lv_at hl 5 rfl) ?_
            refine lv_aload_n hx hb dL_act_401 rfl (lv_at hl 5 rfl) ?_
            refine f_get (ci := 4) (v := .ref (adN0 54)) (C := RX4) (T := TX4) (N := 6) hx hb hts (by decide +kernel) hown hG.1 hI ha_sim (hSm 50 (by omega)) hc_sim rfl 5 (by decide) (hts (.fieldLink RL 49 "CoracleRaceLaw$Sim" "strokes" "[[I") (by decide +kernel)) rfl dL_act_402 ?_
            refine lv_aload hx hb dL_act_405 (lv_at hl 0 rfl) ?_
            refine f_callr (va_runS (As := [.ref (adN0 54), .ref aN82]) (rest := [.ref (adN0 50)]) ⟨hx, hb, hml, hown, hts⟩ (m_X4_more l (hacc 54 (by omega)) (hSm 54 (by omega)) hn6 (k0 := 70) hR.2.2.2.1 (M := (fun i => bl_len (B i))) (G := F) (fun i hi => ⟨hSm _ (by omega), (hR.2.2.2.2 i hi).2⟩) ha_both in_last hc_both (kn := 83) (nin_app (nin_app (nin_app (fun h9 => absurd (hLt _ h9) (by omega)) (by omega)) (by omega)) (by omega))) (va_cwS 2 hts gL_act_X4_more rfl rfl rfl (by decide +kernel) ⟨(Nat.le_of_ble_eq_true rfl), (Nat.le_of_ble_eq_true rfl)⟩) (fPre_of hG hI) rfl rfl hl.1 rfl (lv_room (Nat.le_of_ble_eq_true rfl)) dL_act_407 ⟨(by show _ ≤ 20; omega), (by show _ ≤ 120; omega)⟩) hI (fun adN44 EN45 H locs ra46 hra hp hI => ?_)
            obtain ⟨hr83, hEr83, hm83⟩ := hp
            have hr83 : ∀ q : Nat, q ≠ 83 → adN44 q = adN82 q := hr83
            have hEr83 : ∀ q : Nat, q ≠ 83 → EN45 q = E41 q := hEr83
            have ha_mk83 := hra
            have hX := (hX.ad (fun q h1 => hr83 q (by omega))).kept (fun q h1 => hEr83 q (by omega))
            have hR := (hR.ad hn6 (fun q h1 h2 => hr83 q (by omega))).kept hn6 (fun q h1 h2 => hEr83 q (by omega))
            have hXm := fun k hk => List.mem_append_left [83] (hXm k hk)
            have hSm := fun k hk => List.mem_append_left [83] (hSm k hk)
            have ha_own : adN44 80 = aN0 := (hr83 80 (by omega)).trans ha_own
            have hc_own : EN45 80 = .inl (cI, 9, .inl (a9 0 (nI q274) 0 0 0 (-1) 0 0 (nI (q314 + 1)))) := (hEr83 80 (by omega)).trans hc_own
            have ha_sim : adN44 50 = (adN0 50) := (hr83 50 (by omega)).trans ha_sim
            have hc_sim : EN45 50 = .inr (4, [.int (nI T), .ref (adN0 51), .ref (adN0 52), .int (nI nw), .ref ra37, .ref (adN0 54)]) := (hEr83 50 (by omega)).trans hc_sim
            have ha_mk81 : adN44 81 = ra37 := (hr83 81 (by omega)).trans ha_mk81
            have hc_mk81 : EN45 81 = .inl (cJ, (n + 1), .inr (.inr (.inr (.inr (va_up (row_at adN0 60 n) n (some aN0)))))) := (hEr83 81 (by omega)).trans hc_mk81
            have ha_both : adN44 82 = aN82 := (hr83 82 (by omega)).trans ha_both
            have hc_both : EN45 82 = .inl (cI, 1, .inl (upd (fun _ => 0) 0 3)) := (hEr83 82 (by omega)).trans hc_both
            have hacc : ∀ q, q < 80 → adN44 q = adN0 q := fun q h1 => (hr83 q (by omega)).trans (hacc q h1)
            have hc_mk83 : EN45 83 = .inl (cJ, (n + 1), .inr (.inr (.inr (.inr (va_up (row_at adN82 70 n) n (some aN82)))))) := hm83
            have ha_mk83 : adN44 83 = ra46 := ha_mk83
            refine f_put (ci := 4) (v := .ref ra46) (C := RX4) (T := TX4) (N := 6) hx hb hts (by decide +kernel) tyX4 tyX4_ok nmX4 hown hG.1 hI ha_sim (hSm 50 (by omega)) hc_sim rfl 5 (by decide) (hts (.fieldLink RL 49 "CoracleRaceLaw$Sim" "strokes" "[[I") (by decide +kernel)) rfl rfl rfl (Nat.le_of_ble_eq_true rfl) dL_act_410 (fun E47 H locs hE48 hz49 hI => ?_)
            have hc_sim : E47 50 = .inr (4, [.int (nI T), .ref (adN0 51), .ref (adN0 52), .int (nI nw), .ref ra37, .ref ra46]) := hE48
            have hc_own : E47 80 = .inl (cI, 9, .inl (a9 0 (nI q274) 0 0 0 (-1) 0 0 (nI (q314 + 1)))) := (hz49 80 (by omega)).trans hc_own
            have hc_mk81 : E47 81 = .inl (cJ, (n + 1), .inr (.inr (.inr (.inr (va_up (row_at adN0 60 n) n (some aN0)))))) := (hz49 81 (by omega)).trans hc_mk81
            have hc_both : E47 82 = .inl (cI, 1, .inl (upd (fun _ => 0) 0 3)) := (hz49 82 (by omega)).trans hc_both
            have hc_mk83 : E47 83 = .inl (cJ, (n + 1), .inr (.inr (.inr (.inr (va_up (row_at adN82 70 n) n (some aN82)))))) := (hz49 83 (by omega)).trans hc_mk83
            have hX := hX.kept (fun q h1 => hz49 q (by omega))
            have hR := hR.kept hn6 (fun q h1 h2 => hz49 q (by omega))
            refine lv_iconst (v := 1) hx hb dL_act_413 (by decide) ?_
            obtain ⟨ad9, E9, had9, hst9, hI9⟩ := launch_end (a := q274) (s := q314 + 1) (hLe ▸ hI) h6 hL0 hq274 (by omega) (by omega) hX hR (hc_sim.trans (by rw [hacc 51 (by omega), hacc 52 (by omega), ha_mk81, ha_mk83])) hc_own (hc_mk81.trans (by rw [row_at_ad (ad := adN0) (ad1 := adN44) (k0 := 60) (n := n) (fun i hi => hacc _ (by omega)), ha_own])) hc_both pk_us (hc_mk83.trans (by rw [row_at_ad (ad := adN82) (ad1 := adN44) (k0 := 70) (n := n) (fun i hi => hr83 _ (by omega)), ha_both]))
            exact kk (n + 1) ad9 E9 H locs ls _ _ _ (by omega) (by omega) ⟨had9.1.trans ((hacc 0 (by omega)).trans (hr0 0 (by omega))), had9.2.trans ((hacc 50 (by omega)).trans (hr0 50 (by omega)))⟩ hst9 hI9 dL_act_414
          · exact absurd (nI_pos' (by omega)) c_373
        · exact absurd rfl c_366
  · have h66 : n = 6 := by omega
    refine lv_aload_n hx hb dL_act_328 rfl (lv_at hl 2 rfl) ?_
    refine lv_aload hx hb dL_act_329 (lv_at hl 1 rfl) ?_
    refine lv_iconst (v := 1) hx hb dL_act_331 (by decide) ?_
    refine f_iald hx hb hG.1 hI ha_own in_last hc_own (vp_in_iff.mpr ⟨by decide, by decide⟩) dL_act_332 ?_
    refine lv_topi (fun tv etv => ?_)
    have etv : tv = (nI q274) := etv.trans rfl
    subst etv
    refine lv_aload hx hb dL_act_333 (lv_at hl 1 rfl) ?_
    refine lv_bipush (v := 8) hx hb dL_act_335 (by decide) ?_
    refine f_iald hx hb hG.1 hI ha_own in_last hc_own (vp_in_iff.mpr ⟨by decide, by decide⟩) dL_act_337 ?_
    refine lv_topi (fun tv etv => ?_)
    have etv : tv = (nI (q314 + 1)) := etv.trans rfl
    subst etv
    refine f_xcalli (vx_runV (As := [.int (nI q274), .int (nI (q314 + 1))]) (rest := []) ⟨hx, hb, hml, hown, hts⟩ (m_X3_launch l hl9 hX hnw hn6 hT h8 hXm (nI q274) (nI (q314 + 1))) (cwV 2 hts gL_act_X3_launch rfl rfl rfl (by decide +kernel) ⟨(Nat.le_of_ble_eq_true rfl), (Nat.le_of_ble_eq_true rfl)⟩) (fPre_ofV hG hI rfl (hXm 0 (by omega)) hX.1 rfl rfl) rfl rfl hl.1 rfl (lv_room (Nat.le_of_ble_eq_true rfl)) dL_act_338 ⟨(by show _ ≤ 20; omega), (by show _ ≤ 120; omega)⟩) hI (fun En ce q9 H locs hok hI hq1 hq2 hq3 => ?_) (fun r50 E51 H locs hp hI => ?_)
    · rcases hok with ⟨hc9, rfl⟩ | ⟨hc9, rfl⟩
      · exact absurd (hc9.symm.trans (claunch_2 (n := n) (a := q274) (s := q314 + 1) (by omega) (by omega) (by omega) h66)) (by decide)
      · refine vx_catch (E := fIS) (name := fIS) hown [(⟨194, 204, 207, 40⟩ : ExceptionTableEntry)] ⟨328, 343, 346, 40⟩ [(⟨603, 610, 613, 40⟩ : ExceptionTableEntry)] (hTT.trans rfl) (fun z hz => by rw [List.mem_singleton.mp hz]; exact Or.inl (by decide)) (by decide) (by decide) (hts (.classLink RL 40 fIS) (by decide +kernel)) (fNest_use (by simp [fNest]) (hG.2.1 (.castable fIS fIS) (by simp [fNest]))) hq1 hq2 hq3 ?_
        refine lv_astore (lv' := [(7, .ref q9), (6, .int (nI n)), (5, .ref aN0), (0, .ref (adN0 0)), (1, .ref (adN0 50)), (2, .int x), (3, .int bv)]) hx hb dL_act_346 hl (by decide) rfl (fun ls hl => ?_)
        refine lv_iconst (v := -1) hx hb dL_act_348 (by decide) ?_
        refine lv_istore (lv' := [(4, .int (-1)), (7, .ref q9), (6, .int (nI n)), (5, .ref aN0), (0, .ref (adN0 0)), (1, .ref (adN0 50)), (2, .int x), (3, .int bv)]) hx hb dL_act_349 hl (by decide) rfl (fun ls hl => ?_)
        refine lv_iload hx hb dL_act_351 (lv_at hl 0 rfl) ?_
        refine lv_iload hx hb dL_act_353 (lv_at hl 2 rfl) ?_
        refine lv_bipush (v := 6) hx hb dL_act_355 (by decide) ?_
        refine lv_icmp_ge (tgt := 365) hx hb dL_act_357 (by decide) (fun c_357 => ?_) (fun c_357 => ?_)
        · have n_357 := i_nlt.mpr c_357
          refine lv_iconst (v := -1) hx hb dL_act_365 (by decide) ?_
          refine lv_icmp_eq (tgt := 371) hx hb dL_act_366 (by decide) (fun c_366 => ?_) (fun c_366 => ?_)
          · refine lv_iload hx hb dL_act_371 (lv_at hl 0 rfl) ?_
            refine lv_if_ge (tgt := 378) hx hb dL_act_373 (by decide) (fun c_373 => ?_) (fun c_373 => ?_)
            · exact absurd c_373 (by decide)
            · have n_373 := c_373
              have c_373 := i_nle.mp n_373
              refine lv_iconst (v := 1) hx hb dL_act_376 (by decide) ?_
              have hI := fI_sub (E := E30) hI (fun q hq => hr0 q (by have := hLt q hq; omega)) (fun _ _ => rfl)
              have hX := hX.ad (fun q h1 => (hr0 q (by omega)).symm)
              have hS := hS.ad hn6 (fun q h1 h2 => (hr0 q (by omega)).symm)
              exact kk n ad E30 H locs ls _ _ _ (by omega) (by omega) ⟨rfl, rfl⟩ ⟨w, p, g, nw, B, F, hL0, hX, hS⟩ (hLe ▸ hI) dL_act_377
          · exact absurd c_366 (by decide)
        · exact absurd ((nI_leI (by omega) (by omega) (a := 6)).mpr (by omega)) c_357
    · exact absurd hp.1 (by rw [claunch_2 (n := n) (a := q274) (s := q314 + 1) (by omega) (by omega) (by omega) h66]; decide)
