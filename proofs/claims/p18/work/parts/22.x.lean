set_option maxHeartbeats 4000000 in
set_option maxRecDepth 100000 in
theorem m_X3_setWater (l : Launch) {D : va_G} {cI cJ cB : ClassId} {t0 z : Nat} {tx ad : Nat → Nat} {L : List Nat} {E : Nat → va_E} (hl9 : l.stackTraces = false) {w p g : Nat → Int32} {nw n T : Nat} {Bs Fs : Nat → Nat → Int32} (hX : x_at cI cB ad E w p g nw n T Bs Fs) (hnw : nw ≤ 6) (hn6 : n ≤ 6) (hTb : T < 2 ^ 30) (h8 : ∀ i, i < n → Bs i 8 = 0 ∨ Bs i 8 = 1) (hXm : ∀ k, k < 5 ∨ (10 ≤ k ∧ k < 24) ∨ (30 ≤ k ∧ k < 44) → k ∈ L) (x y : Int32) : vx_Met l yX3_setWater wsX3_setWater ({ frames := 6, cells := 1, slots := 6, locals := 82 } : Room) (va_Pc [.ref (ad 0), .int x, .int y] (fPre D cI cJ cB t0 z tx ad L E)) (va_Qi (fun (r : Int32) (E1 : Nat → va_E) => c_water x y = 0 ∧ r = w x.toNatClampNeg ∧ x_at cI cB ad E1 (upd w x.toNatClampNeg y) p g nw n T Bs Fs ∧ ∀ q : Nat, 44 ≤ q → E1 q = E q) (fB D z ad L) (fA z)) (f_X D z ad L E (ok2 (c_water x y) fIO fIA)) 1 6 (fA z) := by
  refine f_ofX (cc := cX3_setWater) (maxL := 4) (ret := some .int) (by decide) rfl (Nat.le_of_ble_eq_true rfl) ?_
  intro pr e s m args below meth c Q hx hb hr hml hT hts hown hlocks hG H locs hI hQ ls hl
  have hl : lv_has ls 4 [(0, .ref (ad 0)), (1, .int x), (2, .int y)] := hl
  obtain ⟨hX0, ⟨hR, hRw, hRp, hRg⟩, hF10, nt, Tt, Bt, Ft, hnt, hF30⟩ := id hX
  have hr1 : 1 ∈ L := hXm _ (by omega)
  have hr2 : 2 ∈ L := hXm _ (by omega)
  have hr3 : 3 ∈ L := hXm _ (by omega)
  have hr4 : 4 ∈ L := hXm _ (by omega)
  obtain ⟨hFo10, hFr10, -⟩ := id hF10
  obtain ⟨hFo30, hFr30, -⟩ := id hF30
  have hX0 : E 0 = .inr (3, [.ref (ad 1), .ref (ad 10), .ref (ad 30)]) := hX0
  have hR : E 1 = .inr (2, [.ref (ad 2), .ref (ad 3), .ref (ad 4), .int (nI nw)]) := hR
  have hRw : E 2 = .inl (cI, 5, .inl w) := hRw
  have hRp : E 3 = .inl (cI, 6, .inl p) := hRp
  have hRg : E 4 = .inl (cI, 6, .inl g) := hRg
  have hFo10 : E 10 = .inr (1, [.ref (ad (10 + 1)), .int (nI n), .int (nI T)]) := hFo10
  have hFr10 : E (10 + 1) = .inl (cB, 6, .inr (.inr (.inr (.inr (fl_row ad 10))))) := hFr10
  have hFo30 : E 30 = .inr (1, [.ref (ad (30 + 1)), .int (nI nt), .int (nI Tt)]) := hFo30
  have hFr30 : E (30 + 1) = .inl (cB, 6, .inr (.inr (.inr (.inr (fl_row ad 30))))) := hFr30
  refine lv_iload_n hx hb dX3_setWater_0 rfl (lv_at hl 1 rfl) ?_
  refine f_calli1 (va_runS (As := [.int x]) (rest := []) ⟨hx, hb, hml, hown, hts⟩ (m_X2_isLane l x) (va_cwS 1 hts gX3_setWater_X2_isLane rfl rfl rfl (by decide +kernel) ⟨Nat.le_of_ble_eq_true rfl, Nat.le_of_ble_eq_true rfl⟩) (fPre_of hG hI) rfl rfl hl.1 rfl (lv_room (Nat.le_of_ble_eq_true rfl)) dX3_setWater_1 ⟨Nat.le_of_ble_eq_true rfl, Nat.le_of_ble_eq_true rfl⟩) hI (fun r1 E2 H locs hp hI => ?_)
  obtain ⟨he, hq⟩ := hp
  rw [hq] at hI
  refine lv_if_ne (tgt := 17) hx hb dX3_setWater_4 (by decide) (fun c_4 => ?_) (fun c_4 => ?_)
  · have p_4 := bl_t he c_4
    refine lv_iload_n hx hb dX3_setWater_17 rfl (lv_at hl 2 rfl) ?_
    refine lv_if_lt (tgt := 27) hx hb dX3_setWater_18 (by decide) (fun c_18 => ?_) (fun c_18 => ?_)
    · have n_18 := i_nle.mpr c_18
      exact f_throw (cls := fIA) (text := "water is 0 to 6") hQ (Or.inr ⟨by simp [c_water, c_4, if_pos p_4, p_4, c_18, n_18], rfl⟩) hl9 hx hb hG hI hown hT hlocks (hl.1.trans hml.symm) (hts (.classLink RX3 37 fIA) (by decide +kernel)) (hts (.initialized fIA) (by decide +kernel)) (fun w hw => hts w (List.mem_cons_of_mem _ (List.mem_append_right _ hw))) vxf_IA vxn_41 vxg_41 (by decide +kernel) dX3_setWater_27 dX3_setWater_30 dX3_setWater_31 dX3_setWater_33 dX3_setWater_36 (by decide +kernel) (Nat.le_of_ble_eq_true rfl) (Nat.le_of_ble_eq_true rfl) (Nat.le_of_ble_eq_true rfl) (by omega) (by omega)
    · have n_18 := c_18
      have c_18 := i_nlt.mp n_18
      refine lv_iload_n hx hb dX3_setWater_21 rfl (lv_at hl 2 rfl) ?_
      refine lv_bipush (v := 6) hx hb dX3_setWater_22 (by decide) ?_
      refine lv_icmp_le (tgt := 37) hx hb dX3_setWater_24 (by decide) (fun c_24 => ?_) (fun c_24 => ?_)
      · have n_24 := i_nlt.mpr c_24
        refine lv_aload_n hx hb dX3_setWater_37 rfl (lv_at hl 0 rfl) ?_
        refine f_get (ci := 3) (v := .ref (ad 1)) (C := RX3) (T := TX3) (N := 3) hx hb hts (by decide +kernel) hown hG.1 hI rfl (hXm _ (by omega)) hX0 rfl 0 (by decide) (hts (.fieldLink RX3 10 "CoracleRace" "river" "LCoracleRace$River;") (by decide +kernel)) rfl dX3_setWater_38 ?_
        refine f_get (ci := 2) (v := .ref (ad 2)) (C := RX2) (T := TX2) (N := 4) hx hb hts (by decide +kernel) hown hG.1 hI rfl hr1 hR rfl 0 (by decide) (hts (.fieldLink RX3 42 "CoracleRace$River" "water" "[I") (by decide +kernel)) rfl dX3_setWater_41 ?_
        refine lv_iload_n hx hb dX3_setWater_44 rfl (lv_at hl 1 rfl) ?_
        refine f_iald hx hb hG.1 hI rfl hr2 hRw (lane_ix p_4) dX3_setWater_45 ?_
        refine lv_istore_n (lv' := [(3, .int (w (x).toNatClampNeg)), (0, .ref (ad 0)), (1, .int x), (2, .int y)]) hx hb dX3_setWater_46 rfl hl (by decide) rfl (fun ls hl => ?_)
        refine lv_aload_n hx hb dX3_setWater_47 rfl (lv_at hl 1 rfl) ?_
        refine f_get (ci := 3) (v := .ref (ad 1)) (C := RX3) (T := TX3) (N := 3) hx hb hts (by decide +kernel) hown hG.1 hI rfl (hXm _ (by omega)) hX0 rfl 0 (by decide) (hts (.fieldLink RX3 10 "CoracleRace" "river" "LCoracleRace$River;") (by decide +kernel)) rfl dX3_setWater_48 ?_
        refine f_get (ci := 2) (v := .ref (ad 2)) (C := RX2) (T := TX2) (N := 4) hx hb hts (by decide +kernel) hown hG.1 hI rfl hr1 hR rfl 0 (by decide) (hts (.fieldLink RX3 42 "CoracleRace$River" "water" "[I") (by decide +kernel)) rfl dX3_setWater_51 ?_
        refine lv_iload_n hx hb dX3_setWater_54 rfl (lv_at hl 2 rfl) ?_
        refine lv_iload_n hx hb dX3_setWater_55 rfl (lv_at hl 3 rfl) ?_
        refine f_iast hx hb hG.1 hI rfl hr2 hRw (lane_ix p_4) dX3_setWater_56 (fun E3 H locs hE4 hn5 hI => ?_)
        have hRw : E3 2 = .inl (cI, 5, .inl (upd w x.toNatClampNeg y)) := hE4
        have hX0 : E3 0 = .inr (3, [.ref (ad 1), .ref (ad 10), .ref (ad 30)]) := (hn5 0 (by omega)).trans hX0
        have hR : E3 1 = .inr (2, [.ref (ad 2), .ref (ad 3), .ref (ad 4), .int (nI nw)]) := (hn5 1 (by omega)).trans hR
        have hRp : E3 3 = .inl (cI, 6, .inl p) := (hn5 3 (by omega)).trans hRp
        have hRg : E3 4 = .inl (cI, 6, .inl g) := (hn5 4 (by omega)).trans hRg
        have hFo10 : E3 10 = .inr (1, [.ref (ad (10 + 1)), .int (nI n), .int (nI T)]) := (hn5 10 (by omega)).trans hFo10
        have hFr10 : E3 (10 + 1) = .inl (cB, 6, .inr (.inr (.inr (.inr (fl_row ad 10))))) := (hn5 (10 + 1) (by omega)).trans hFr10
        have hFo30 : E3 30 = .inr (1, [.ref (ad (30 + 1)), .int (nI nt), .int (nI Tt)]) := (hn5 30 (by omega)).trans hFo30
        have hFr30 : E3 (30 + 1) = .inl (cB, 6, .inr (.inr (.inr (.inr (fl_row ad 30))))) := (hn5 (30 + 1) (by omega)).trans hFr30
        refine lv_iload_n hx hb dX3_setWater_57 rfl (lv_at hl 0 rfl) ?_
        exact f_xreti hQ hx hb hr hlocks hI.2.2 (by omega) (by omega) dX3_setWater_58 E3 (fB_of hI) (⟨by simp [c_water, c_4, if_pos p_4, p_4, c_18, n_18, c_24, n_24], rfl, hX.riv (fun q hq => hn5 q (by omega)) hR hRw hRp hRg, fun q hq => hn5 q (by omega)⟩)
      · have n_24 := c_24
        have c_24 := i_nle.mp n_24
        exact f_throw (cls := fIA) (text := "water is 0 to 6") hQ (Or.inr ⟨by simp [c_water, c_4, if_pos p_4, p_4, c_18, n_18, c_24, n_24], rfl⟩) hl9 hx hb hG hI hown hT hlocks (hl.1.trans hml.symm) (hts (.classLink RX3 37 fIA) (by decide +kernel)) (hts (.initialized fIA) (by decide +kernel)) (fun w hw => hts w (List.mem_cons_of_mem _ (List.mem_append_right _ hw))) vxf_IA vxn_41 vxg_41 (by decide +kernel) dX3_setWater_27 dX3_setWater_30 dX3_setWater_31 dX3_setWater_33 dX3_setWater_36 (by decide +kernel) (Nat.le_of_ble_eq_true rfl) (Nat.le_of_ble_eq_true rfl) (Nat.le_of_ble_eq_true rfl) (by omega) (by omega)
  · have p_4 := bl_f he c_4
    exact f_throw (cls := fIO) (text := "no such lane") hQ (Or.inl ⟨by simp [c_water, c_4, if_neg p_4], rfl⟩) hl9 hx hb hG hI hown hT hlocks (hl.1.trans hml.symm) (hts (.classLink RX3 30 fIO) (by decide +kernel)) (hts (.initialized fIO) (by decide +kernel)) (fun w hw => hts w (List.mem_cons_of_mem _ (List.mem_append_left _ (List.mem_append_right _ hw)))) vxf_IO vxn_34 vxg_34 (by decide +kernel) dX3_setWater_7 dX3_setWater_10 dX3_setWater_11 dX3_setWater_13 dX3_setWater_16 (by decide +kernel) (Nat.le_of_ble_eq_true rfl) (Nat.le_of_ble_eq_true rfl) (Nat.le_of_ble_eq_true rfl) (by omega) (by omega)

set_option maxHeartbeats 4000000 in
set_option maxRecDepth 100000 in
theorem m_X3_weir (l : Launch) {D : va_G} {cI cJ cB : ClassId} {t0 z : Nat} {tx ad : Nat → Nat} {L : List Nat} {E : Nat → va_E} (hl9 : l.stackTraces = false) {w p g : Nat → Int32} {nw n T : Nat} {Bs Fs : Nat → Nat → Int32} (hX : x_at cI cB ad E w p g nw n T Bs Fs) (hnw : nw ≤ 6) (hn6 : n ≤ 6) (hTb : T < 2 ^ 30) (h8 : ∀ i, i < n → Bs i 8 = 0 ∨ Bs i 8 = 1) (hXm : ∀ k, k < 5 ∨ (10 ≤ k ∧ k < 24) ∨ (30 ≤ k ∧ k < 44) → k ∈ L) (x y : Int32) : vx_Met l yX3_weir wsX3_weir ({ frames := 6, cells := 1, slots := 6, locals := 82 } : Room) (va_Pc [.ref (ad 0), .int x, .int y] (fPre D cI cJ cB t0 z tx ad L E)) (va_Qi (fun (r : Int32) (E1 : Nat → va_E) => c_weir p nw x y = 0 ∧ r = nI (nw + 1) ∧ x_at cI cB ad E1 w (upd p nw x) (upd g nw y) (nw + 1) n T Bs Fs ∧ ∀ q : Nat, 44 ≤ q → E1 q = E q) (fB D z ad L) (fA z)) (f_X D z ad L E (ok2 (c_weir p nw x y) fIA fIS)) 1 6 (fA z) := by
  refine f_ofX (cc := cX3_weir) (maxL := 3) (ret := some .int) (by decide) rfl (Nat.le_of_ble_eq_true rfl) ?_
  intro pr e s m args below meth c Q hx hb hr hml hT hts hown hlocks hG H locs hI hQ ls hl
  have hl : lv_has ls 3 [(0, .ref (ad 0)), (1, .int x), (2, .int y)] := hl
  obtain ⟨hX0, ⟨hR, hRw, hRp, hRg⟩, hF10, nt, Tt, Bt, Ft, hnt, hF30⟩ := id hX
  have hr1 : 1 ∈ L := hXm _ (by omega)
  have hr2 : 2 ∈ L := hXm _ (by omega)
  have hr3 : 3 ∈ L := hXm _ (by omega)
  have hr4 : 4 ∈ L := hXm _ (by omega)
  obtain ⟨hFo10, hFr10, -⟩ := id hF10
  obtain ⟨hFo30, hFr30, -⟩ := id hF30
  have hX0 : E 0 = .inr (3, [.ref (ad 1), .ref (ad 10), .ref (ad 30)]) := hX0
  have hR : E 1 = .inr (2, [.ref (ad 2), .ref (ad 3), .ref (ad 4), .int (nI nw)]) := hR
  have hRw : E 2 = .inl (cI, 5, .inl w) := hRw
  have hRp : E 3 = .inl (cI, 6, .inl p) := hRp
  have hRg : E 4 = .inl (cI, 6, .inl g) := hRg
  have hFo10 : E 10 = .inr (1, [.ref (ad (10 + 1)), .int (nI n), .int (nI T)]) := hFo10
  have hFr10 : E (10 + 1) = .inl (cB, 6, .inr (.inr (.inr (.inr (fl_row ad 10))))) := hFr10
  have hFo30 : E 30 = .inr (1, [.ref (ad (30 + 1)), .int (nI nt), .int (nI Tt)]) := hFo30
  have hFr30 : E (30 + 1) = .inl (cB, 6, .inr (.inr (.inr (.inr (fl_row ad 30))))) := hFr30
  refine lv_iload_n hx hb dX3_weir_0 rfl (lv_at hl 1 rfl) ?_
  refine lv_iconst (v := 1) hx hb dX3_weir_1 (by decide) ?_
  refine lv_icmp_lt (tgt := 12) hx hb dX3_weir_2 (by decide) (fun c_2 => ?_) (fun c_2 => ?_)
  · have n_2 := i_nle.mpr c_2
    exact f_throw (cls := fIA) (text := "a weir's place is 1 to 199") hQ (Or.inl ⟨by simp [c_weir, c_2, n_2], rfl⟩) hl9 hx hb hG hI hown hT hlocks (hl.1.trans hml.symm) (hts (.classLink RX3 37 fIA) (by decide +kernel)) (hts (.initialized fIA) (by decide +kernel)) (fun w hw => hts w (List.mem_cons_of_mem _ (List.mem_append_left _ (List.mem_append_right _ hw)))) vxf_IA vxn_41 vxg_41 (by decide +kernel) dX3_weir_12 dX3_weir_15 dX3_weir_16 dX3_weir_18 dX3_weir_21 (by decide +kernel) (Nat.le_of_ble_eq_true rfl) (Nat.le_of_ble_eq_true rfl) (Nat.le_of_ble_eq_true rfl) (by omega) (by omega)
  · have n_2 := c_2
    have c_2 := i_nlt.mp n_2
    refine lv_iload_n hx hb dX3_weir_5 rfl (lv_at hl 1 rfl) ?_
    refine lv_sipush (v := 200) hx hb dX3_weir_6 (by decide) ?_
    refine lv_icmp_lt (tgt := 22) hx hb dX3_weir_9 (by decide) (fun c_9 => ?_) (fun c_9 => ?_)
    · have n_9 := i_nle.mpr c_9
      refine lv_iload_n hx hb dX3_weir_22 rfl (lv_at hl 2 rfl) ?_
      refine f_calli1 (va_runS (As := [.int y]) (rest := []) ⟨hx, hb, hml, hown, hts⟩ (m_X2_isLane l y) (va_cwS 1 hts gX3_weir_X2_isLane rfl rfl rfl (by decide +kernel) ⟨Nat.le_of_ble_eq_true rfl, Nat.le_of_ble_eq_true rfl⟩) (fPre_of hG hI) rfl rfl hl.1 rfl (lv_room (Nat.le_of_ble_eq_true rfl)) dX3_weir_23 ⟨Nat.le_of_ble_eq_true rfl, Nat.le_of_ble_eq_true rfl⟩) hI (fun r1 E2 H locs hp hI => ?_)
      obtain ⟨he, hq⟩ := hp
      rw [hq] at hI
      refine lv_if_ne (tgt := 39) hx hb dX3_weir_26 (by decide) (fun c_26 => ?_) (fun c_26 => ?_)
      · have p_26 := bl_t he c_26
        refine lv_aload_n hx hb dX3_weir_39 rfl (lv_at hl 0 rfl) ?_
        refine f_get (ci := 3) (v := .ref (ad 1)) (C := RX3) (T := TX3) (N := 3) hx hb hts (by decide +kernel) hown hG.1 hI rfl (hXm _ (by omega)) hX0 rfl 0 (by decide) (hts (.fieldLink RX3 10 "CoracleRace" "river" "LCoracleRace$River;") (by decide +kernel)) rfl dX3_weir_40 ?_
        refine f_get (ci := 2) (v := .int (nI nw)) (C := RX2) (T := TX2) (N := 4) hx hb hts (by decide +kernel) hown hG.1 hI rfl hr1 hR rfl 3 (by decide) (hts (.fieldLink RX3 50 "CoracleRace$River" "weirs" "I") (by decide +kernel)) rfl dX3_weir_43 ?_
        refine lv_bipush (v := 6) hx hb dX3_weir_46 (by decide) ?_
        refine lv_icmp_lt (tgt := 61) hx hb dX3_weir_48 (by decide) (fun c_48 => ?_) (fun c_48 => ?_)
        · have n_48 := i_nle.mpr c_48
          have hnw6 : nw < 6 := (nI_ltI (by omega) (by omega) (b := 6)).mp c_48
          refine lv_aload_n hx hb dX3_weir_61 rfl (lv_at hl 0 rfl) ?_
          refine f_get (ci := 3) (v := .ref (ad 1)) (C := RX3) (T := TX3) (N := 3) hx hb hts (by decide +kernel) hown hG.1 hI rfl (hXm _ (by omega)) hX0 rfl 0 (by decide) (hts (.fieldLink RX3 10 "CoracleRace" "river" "LCoracleRace$River;") (by decide +kernel)) rfl dX3_weir_62 ?_
          refine lv_iload_n hx hb dX3_weir_65 rfl (lv_at hl 1 rfl) ?_
          refine f_calli1 (va_runV (As := [.int x]) (rest := []) ⟨hx, hb, hml, hown, hts⟩ (m_X2_hasWeirAt l hnw hr1 hr2 hr3 hr4 hR hRw hRp hRg x) (cwV 1 hts gX3_weir_X2_hasWeirAt rfl rfl rfl (by decide +kernel) ⟨Nat.le_of_ble_eq_true rfl, Nat.le_of_ble_eq_true rfl⟩) (fPre_ofV hG hI rfl hr1 hR rfl rfl) rfl rfl hl.1 rfl (lv_room (Nat.le_of_ble_eq_true rfl)) dX3_weir_66 ⟨Nat.le_of_ble_eq_true rfl, Nat.le_of_ble_eq_true rfl⟩) hI (fun r3 E4 H locs hp hI => ?_)
          obtain ⟨he7, hq⟩ := hp
          rw [hq] at hI
          have he7 : r3 = (p_has p x nw) := he7
          subst he7
          refine lv_if_eq (tgt := 82) hx hb dX3_weir_69 (by decide) (fun c_69 => ?_) (fun c_69 => ?_)
          · refine lv_aload_n hx hb dX3_weir_82 rfl (lv_at hl 0 rfl) ?_
            refine f_get (ci := 3) (v := .ref (ad 1)) (C := RX3) (T := TX3) (N := 3) hx hb hts (by decide +kernel) hown hG.1 hI rfl (hXm _ (by omega)) hX0 rfl 0 (by decide) (hts (.fieldLink RX3 10 "CoracleRace" "river" "LCoracleRace$River;") (by decide +kernel)) rfl dX3_weir_83 ?_
            refine lv_iload_n hx hb dX3_weir_86 rfl (lv_at hl 1 rfl) ?_
            refine lv_iload_n hx hb dX3_weir_87 rfl (lv_at hl 2 rfl) ?_
            refine f_callv1 (va_runV (As := [.int x, .int y]) (rest := []) ⟨hx, hb, hml, hown, hts⟩ (m_X2_addWeir l hnw6 hr1 hr2 hr3 hr4 hR hRw hRp hRg x y) (cwV 2 hts gX3_weir_X2_addWeir rfl rfl rfl (by decide +kernel) ⟨Nat.le_of_ble_eq_true rfl, Nat.le_of_ble_eq_true rfl⟩) (fPre_ofV hG hI rfl hr1 hR rfl rfl) rfl rfl hl.1 rfl (lv_room (Nat.le_of_ble_eq_true rfl)) dX3_weir_88 ⟨Nat.le_of_ble_eq_true rfl, Nat.le_of_ble_eq_true rfl⟩) hI (fun E5 H locs hp hI => ?_)
            obtain ⟨hR9, hRp9, hRg9, hn9⟩ := hp
            have hX0 : E5 0 = .inr (3, [.ref (ad 1), .ref (ad 10), .ref (ad 30)]) := (hn9 0 (by omega)).trans hX0
            refine lv_aload_n hx hb dX3_weir_91 rfl (lv_at hl 0 rfl) ?_
            refine f_get (ci := 3) (v := .ref (ad 1)) (C := RX3) (T := TX3) (N := 3) hx hb hts (by decide +kernel) hown hG.1 hI rfl (hXm _ (by omega)) hX0 rfl 0 (by decide) (hts (.fieldLink RX3 10 "CoracleRace" "river" "LCoracleRace$River;") (by decide +kernel)) rfl dX3_weir_92 ?_
            refine f_get (ci := 2) (v := .int (nI (nw + 1))) (C := RX2) (T := TX2) (N := 4) hx hb hts (by decide +kernel) hown hG.1 hI rfl hr1 hR9 rfl 3 (by decide) (hts (.fieldLink RX3 50 "CoracleRace$River" "weirs" "I") (by decide +kernel)) rfl dX3_weir_95 ?_
            exact f_xreti hQ hx hb hr hlocks hI.2.2 (by omega) (by omega) dX3_weir_98 E5 (fB_of hI) (⟨by simp [c_weir, c_2, n_2, c_9, n_9, c_26, if_pos p_26, p_26, c_48, n_48, c_69], rfl, hX.riv (fun q hq => hn9 q (by omega)) hR9 ((hn9 2 (by omega)).trans hRw) hRp9 hRg9, fun q hq => hn9 q (by omega)⟩)
          · exact f_throw (cls := fIS) (text := "there is a weir at this place") hQ (Or.inr ⟨by simp [c_weir, c_2, n_2, c_9, n_9, c_26, if_pos p_26, p_26, c_48, n_48, c_69], rfl⟩) hl9 hx hb hG hI hown hT hlocks (hl.1.trans hml.symm) (hts (.classLink RX3 54 fIS) (by decide +kernel)) (hts (.initialized fIS) (by decide +kernel)) (fun w hw => hts w (List.mem_cons_of_mem _ (List.mem_append_right _ hw))) vxf_IS vxn_58 vxg_58 (by decide +kernel) dX3_weir_72 dX3_weir_75 dX3_weir_76 dX3_weir_78 dX3_weir_81 (by decide +kernel) (Nat.le_of_ble_eq_true rfl) (Nat.le_of_ble_eq_true rfl) (Nat.le_of_ble_eq_true rfl) (by omega) (by omega)
        · have n_48 := c_48
          have c_48 := i_nlt.mp n_48
          exact f_throw (cls := fIS) (text := "there are 6 weirs") hQ (Or.inr ⟨by simp [c_weir, c_2, n_2, c_9, n_9, c_26, if_pos p_26, p_26, c_48, n_48], rfl⟩) hl9 hx hb hG hI hown hT hlocks (hl.1.trans hml.symm) (hts (.classLink RX3 54 fIS) (by decide +kernel)) (hts (.initialized fIS) (by decide +kernel)) (fun w hw => hts w (List.mem_cons_of_mem _ (List.mem_append_right _ hw))) vxf_IS vxn_58 vxg_58 (by decide +kernel) dX3_weir_51 dX3_weir_54 dX3_weir_55 dX3_weir_57 dX3_weir_60 (by decide +kernel) (Nat.le_of_ble_eq_true rfl) (Nat.le_of_ble_eq_true rfl) (Nat.le_of_ble_eq_true rfl) (by omega) (by omega)
      · have p_26 := bl_f he c_26
        exact f_throw (cls := fIA) (text := "a gap is in a lane, 0 to 4") hQ (Or.inl ⟨by simp [c_weir, c_2, n_2, c_9, n_9, c_26, if_neg p_26], rfl⟩) hl9 hx hb hG hI hown hT hlocks (hl.1.trans hml.symm) (hts (.classLink RX3 37 fIA) (by decide +kernel)) (hts (.initialized fIA) (by decide +kernel)) (fun w hw => hts w (List.mem_cons_of_mem _ (List.mem_append_left _ (List.mem_append_right _ hw)))) vxf_IA vxn_41 vxg_41 (by decide +kernel) dX3_weir_29 dX3_weir_32 dX3_weir_33 dX3_weir_35 dX3_weir_38 (by decide +kernel) (Nat.le_of_ble_eq_true rfl) (Nat.le_of_ble_eq_true rfl) (Nat.le_of_ble_eq_true rfl) (by omega) (by omega)
    · have n_9 := c_9
      have c_9 := i_nlt.mp n_9
      exact f_throw (cls := fIA) (text := "a weir's place is 1 to 199") hQ (Or.inl ⟨by simp [c_weir, c_2, n_2, c_9, n_9], rfl⟩) hl9 hx hb hG hI hown hT hlocks (hl.1.trans hml.symm) (hts (.classLink RX3 37 fIA) (by decide +kernel)) (hts (.initialized fIA) (by decide +kernel)) (fun w hw => hts w (List.mem_cons_of_mem _ (List.mem_append_left _ (List.mem_append_right _ hw)))) vxf_IA vxn_41 vxg_41 (by decide +kernel) dX3_weir_12 dX3_weir_15 dX3_weir_16 dX3_weir_18 dX3_weir_21 (by decide +kernel) (Nat.le_of_ble_eq_true rfl) (Nat.le_of_ble_eq_true rfl) (Nat.le_of_ble_eq_true rfl) (by omega) (by omega)

set_option maxHeartbeats 4000000 in
set_option maxRecDepth 100000 in
theorem m_X3_launch (l : Launch) {D : va_G} {cI cJ cB : ClassId} {t0 z : Nat} {tx ad : Nat → Nat} {L : List Nat} {E : Nat → va_E} (hl9 : l.stackTraces = false) {w p g : Nat → Int32} {nw n T : Nat} {Bs Fs : Nat → Nat → Int32} (hX : x_at cI cB ad E w p g nw n T Bs Fs) (hnw : nw ≤ 6) (hn6 : n ≤ 6) (hTb : T < 2 ^ 30) (h8 : ∀ i, i < n → Bs i 8 = 0 ∨ Bs i 8 = 1) (hXm : ∀ k, k < 5 ∨ (10 ≤ k ∧ k < 24) ∨ (30 ≤ k ∧ k < 44) → k ∈ L) (x y : Int32) : vx_Met l yX3_launch wsX3_launch ({ frames := 6, cells := 1, slots := 6, locals := 82 } : Room) (va_Pc [.ref (ad 0), .int x, .int y] (fPre D cI cJ cB t0 z tx ad L E)) (va_Qi (fun (r : Int32) (E1 : Nat → va_E) => c_launch n x y = 0 ∧ r = nI n ∧ x_at cI cB ad E1 w p g nw (n + 1) T (va_up Bs n (p_new (Bs n) x y)) (va_up Fs n (p_row (Fs n) 1 3)) ∧ ∀ q : Nat, 44 ≤ q → E1 q = E q) (fB D z ad L) (fA z)) (f_X D z ad L E (ok2 (c_launch n x y) fIA fIS)) 1 6 (fA z) := by
  refine f_ofX (cc := cX3_launch) (maxL := 3) (ret := some .int) (by decide) rfl (Nat.le_of_ble_eq_true rfl) ?_
  intro pr e s m args below meth c Q hx hb hr hml hT hts hown hlocks hG H locs hI hQ ls hl
  have hl : lv_has ls 3 [(0, .ref (ad 0)), (1, .int x), (2, .int y)] := hl
  obtain ⟨hX0, ⟨hR, hRw, hRp, hRg⟩, hF10, nt, Tt, Bt, Ft, hnt, hF30⟩ := id hX
  have hr1 : 1 ∈ L := hXm _ (by omega)
  have hr2 : 2 ∈ L := hXm _ (by omega)
  have hr3 : 3 ∈ L := hXm _ (by omega)
  have hr4 : 4 ∈ L := hXm _ (by omega)
  obtain ⟨hFo10, hFr10, -⟩ := id hF10
  obtain ⟨hFo30, hFr30, -⟩ := id hF30
  have hX0 : E 0 = .inr (3, [.ref (ad 1), .ref (ad 10), .ref (ad 30)]) := hX0
  have hR : E 1 = .inr (2, [.ref (ad 2), .ref (ad 3), .ref (ad 4), .int (nI nw)]) := hR
  have hRw : E 2 = .inl (cI, 5, .inl w) := hRw
  have hRp : E 3 = .inl (cI, 6, .inl p) := hRp
  have hRg : E 4 = .inl (cI, 6, .inl g) := hRg
  have hFo10 : E 10 = .inr (1, [.ref (ad (10 + 1)), .int (nI n), .int (nI T)]) := hFo10
  have hFr10 : E (10 + 1) = .inl (cB, 6, .inr (.inr (.inr (.inr (fl_row ad 10))))) := hFr10
  have hFo30 : E 30 = .inr (1, [.ref (ad (30 + 1)), .int (nI nt), .int (nI Tt)]) := hFo30
  have hFr30 : E (30 + 1) = .inl (cB, 6, .inr (.inr (.inr (.inr (fl_row ad 30))))) := hFr30
  refine lv_iload_n hx hb dX3_launch_0 rfl (lv_at hl 1 rfl) ?_
  refine f_calli1 (va_runS (As := [.int x]) (rest := []) ⟨hx, hb, hml, hown, hts⟩ (m_X2_isLane l x) (va_cwS 1 hts gX3_launch_X2_isLane rfl rfl rfl (by decide +kernel) ⟨Nat.le_of_ble_eq_true rfl, Nat.le_of_ble_eq_true rfl⟩) (fPre_of hG hI) rfl rfl hl.1 rfl (lv_room (Nat.le_of_ble_eq_true rfl)) dX3_launch_1 ⟨Nat.le_of_ble_eq_true rfl, Nat.le_of_ble_eq_true rfl⟩) hI (fun r1 E2 H locs hp hI => ?_)
  obtain ⟨he, hq⟩ := hp
  rw [hq] at hI
  refine lv_if_ne (tgt := 17) hx hb dX3_launch_4 (by decide) (fun c_4 => ?_) (fun c_4 => ?_)
  · have p_4 := bl_t he c_4
    refine lv_iload_n hx hb dX3_launch_17 rfl (lv_at hl 2 rfl) ?_
    refine lv_iconst (v := 1) hx hb dX3_launch_18 (by decide) ?_
    refine lv_icmp_lt (tgt := 28) hx hb dX3_launch_19 (by decide) (fun c_19 => ?_) (fun c_19 => ?_)
    · have n_19 := i_nle.mpr c_19
      exact f_throw (cls := fIA) (text := "strength is 1 to 8") hQ (Or.inl ⟨by simp [c_launch, c_4, if_pos p_4, p_4, c_19, n_19], rfl⟩) hl9 hx hb hG hI hown hT hlocks (hl.1.trans hml.symm) (hts (.classLink RX3 37 fIA) (by decide +kernel)) (hts (.initialized fIA) (by decide +kernel)) (fun w hw => hts w (List.mem_cons_of_mem _ (List.mem_append_left _ (List.mem_append_right _ hw)))) vxf_IA vxn_41 vxg_41 (by decide +kernel) dX3_launch_28 dX3_launch_31 dX3_launch_32 dX3_launch_34 dX3_launch_37 (by decide +kernel) (Nat.le_of_ble_eq_true rfl) (Nat.le_of_ble_eq_true rfl) (Nat.le_of_ble_eq_true rfl) (by omega) (by omega)
    · have n_19 := c_19
      have c_19 := i_nlt.mp n_19
      refine lv_iload_n hx hb dX3_launch_22 rfl (lv_at hl 2 rfl) ?_
      refine lv_bipush (v := 8) hx hb dX3_launch_23 (by decide) ?_
      refine lv_icmp_le (tgt := 38) hx hb dX3_launch_25 (by decide) (fun c_25 => ?_) (fun c_25 => ?_)
      · have n_25 := i_nlt.mpr c_25
        refine lv_aload_n hx hb dX3_launch_38 rfl (lv_at hl 0 rfl) ?_
        refine f_get (ci := 3) (v := .ref (ad 10)) (C := RX3) (T := TX3) (N := 3) hx hb hts (by decide +kernel) hown hG.1 hI rfl (hXm _ (by omega)) hX0 rfl 1 (by decide) (hts (.fieldLink RX3 19 "CoracleRace" "fleet" "LCoracleRace$Fleet;") (by decide +kernel)) rfl dX3_launch_39 ?_
        refine f_get (ci := 1) (v := .int (nI n)) (C := RX1) (T := TX1) (N := 3) hx hb hts (by decide +kernel) hown hG.1 hI rfl (hXm _ (by omega)) hFo10 rfl 1 (by decide) (hts (.fieldLink RX3 74 "CoracleRace$Fleet" "size" "I") (by decide +kernel)) rfl dX3_launch_42 ?_
        refine lv_bipush (v := 6) hx hb dX3_launch_45 (by decide) ?_
        refine lv_icmp_lt (tgt := 60) hx hb dX3_launch_47 (by decide) (fun c_47 => ?_) (fun c_47 => ?_)
        · have n_47 := i_nle.mpr c_47
          have hn66 : n < 6 := (nI_ltI (by omega) (by omega) (b := 6)).mp c_47
          refine lv_aload_n hx hb dX3_launch_60 rfl (lv_at hl 0 rfl) ?_
          refine f_get (ci := 3) (v := .ref (ad 10)) (C := RX3) (T := TX3) (N := 3) hx hb hts (by decide +kernel) hown hG.1 hI rfl (hXm _ (by omega)) hX0 rfl 1 (by decide) (hts (.fieldLink RX3 19 "CoracleRace" "fleet" "LCoracleRace$Fleet;") (by decide +kernel)) rfl dX3_launch_61 ?_
          refine lv_iload_n hx hb dX3_launch_64 rfl (lv_at hl 1 rfl) ?_
          refine lv_iload_n hx hb dX3_launch_65 rfl (lv_at hl 2 rfl) ?_
          refine f_calli1 (va_runV (As := [.int x, .int y]) (rest := []) ⟨hx, hb, hml, hown, hts⟩ (m_X1_add l (fb := 10) rfl (by decide) (fun k h1 h2 => hXm k (by omega)) hn66 hF10 x y) (cwV 2 hts gX3_launch_X1_add rfl rfl rfl (by decide +kernel) ⟨Nat.le_of_ble_eq_true rfl, Nat.le_of_ble_eq_true rfl⟩) (fPre_ofV hG hI rfl (hXm _ (by omega)) hFo10 rfl rfl) rfl rfl hl.1 rfl (lv_room (Nat.le_of_ble_eq_true rfl)) dX3_launch_66 ⟨Nat.le_of_ble_eq_true rfl, Nat.le_of_ble_eq_true rfl⟩) hI (fun r3 E4 H locs hp hI => ?_)
          obtain ⟨hr9, hF9, hn9⟩ := hp
          subst hr9
          exact f_xreti hQ hx hb hr hlocks hI.2.2 (by omega) (by omega) dX3_launch_69 E4 (fB_of hI) (⟨by simp [c_launch, c_4, if_pos p_4, p_4, c_19, n_19, c_25, n_25, c_47, n_47], rfl, hX.f10 hn9 hF9, fun q hq => hn9 q (by omega)⟩)
        · have n_47 := c_47
          have c_47 := i_nlt.mp n_47
          exact f_throw (cls := fIS) (text := "there are 6 boats") hQ (Or.inr ⟨by simp [c_launch, c_4, if_pos p_4, p_4, c_19, n_19, c_25, n_25, c_47, n_47], rfl⟩) hl9 hx hb hG hI hown hT hlocks (hl.1.trans hml.symm) (hts (.classLink RX3 54 fIS) (by decide +kernel)) (hts (.initialized fIS) (by decide +kernel)) (fun w hw => hts w (List.mem_cons_of_mem _ (List.mem_append_right _ hw))) vxf_IS vxn_58 vxg_58 (by decide +kernel) dX3_launch_50 dX3_launch_53 dX3_launch_54 dX3_launch_56 dX3_launch_59 (by decide +kernel) (Nat.le_of_ble_eq_true rfl) (Nat.le_of_ble_eq_true rfl) (Nat.le_of_ble_eq_true rfl) (by omega) (by omega)
      · have n_25 := c_25
        have c_25 := i_nle.mp n_25
        exact f_throw (cls := fIA) (text := "strength is 1 to 8") hQ (Or.inl ⟨by simp [c_launch, c_4, if_pos p_4, p_4, c_19, n_19, c_25, n_25], rfl⟩) hl9 hx hb hG hI hown hT hlocks (hl.1.trans hml.symm) (hts (.classLink RX3 37 fIA) (by decide +kernel)) (hts (.initialized fIA) (by decide +kernel)) (fun w hw => hts w (List.mem_cons_of_mem _ (List.mem_append_left _ (List.mem_append_right _ hw)))) vxf_IA vxn_41 vxg_41 (by decide +kernel) dX3_launch_28 dX3_launch_31 dX3_launch_32 dX3_launch_34 dX3_launch_37 (by decide +kernel) (Nat.le_of_ble_eq_true rfl) (Nat.le_of_ble_eq_true rfl) (Nat.le_of_ble_eq_true rfl) (by omega) (by omega)
  · have p_4 := bl_f he c_4
    exact f_throw (cls := fIA) (text := "a lane is 0 to 4") hQ (Or.inl ⟨by simp [c_launch, c_4, if_neg p_4], rfl⟩) hl9 hx hb hG hI hown hT hlocks (hl.1.trans hml.symm) (hts (.classLink RX3 37 fIA) (by decide +kernel)) (hts (.initialized fIA) (by decide +kernel)) (fun w hw => hts w (List.mem_cons_of_mem _ (List.mem_append_left _ (List.mem_append_right _ hw)))) vxf_IA vxn_41 vxg_41 (by decide +kernel) dX3_launch_7 dX3_launch_10 dX3_launch_11 dX3_launch_13 dX3_launch_16 (by decide +kernel) (Nat.le_of_ble_eq_true rfl) (Nat.le_of_ble_eq_true rfl) (Nat.le_of_ble_eq_true rfl) (by omega) (by omega)

set_option maxHeartbeats 4000000 in
set_option maxRecDepth 100000 in
theorem m_X3_tar (l : Launch) {D : va_G} {cI cJ cB : ClassId} {t0 z : Nat} {tx ad : Nat → Nat} {L : List Nat} {E : Nat → va_E} (hl9 : l.stackTraces = false) {w p g : Nat → Int32} {nw n T : Nat} {Bs Fs : Nat → Nat → Int32} (hX : x_at cI cB ad E w p g nw n T Bs Fs) (hnw : nw ≤ 6) (hn6 : n ≤ 6) (hTb : T < 2 ^ 30) (h8 : ∀ i, i < n → Bs i 8 = 0 ∨ Bs i 8 = 1) (hXm : ∀ k, k < 5 ∨ (10 ≤ k ∧ k < 24) ∨ (30 ≤ k ∧ k < 44) → k ∈ L) (x : Int32) : vx_Met l yX3_tar wsX3_tar ({ frames := 6, cells := 1, slots := 6, locals := 82 } : Room) (va_Pc [.ref (ad 0), .int x] (fPre D cI cJ cB t0 z tx ad L E)) (va_Qi (fun (r : Int32) (E1 : Nat → va_E) => c_tar n Bs x = 0 ∧ r = Bs x.toNatClampNeg 6 ∧ x_at cI cB ad E1 w p g nw n T (va_up Bs x.toNatClampNeg (va_up (va_up (Bs x.toNatClampNeg) 6 0) 7 (Bs x.toNatClampNeg 7 + 4))) Fs ∧ ∀ q : Nat, 44 ≤ q → E1 q = E q) (fB D z ad L) (fA z)) (f_X D z ad L E (ok2 (c_tar n Bs x) fIO fIS)) 1 6 (fA z) := by
  refine f_ofX (cc := cX3_tar) (maxL := 2) (ret := some .int) (by decide) rfl (Nat.le_of_ble_eq_true rfl) ?_
  intro pr e s m args below meth c Q hx hb hr hml hT hts hown hlocks hG H locs hI hQ ls hl
  have hl : lv_has ls 2 [(0, .ref (ad 0)), (1, .int x)] := hl
  obtain ⟨hX0, ⟨hR, hRw, hRp, hRg⟩, hF10, nt, Tt, Bt, Ft, hnt, hF30⟩ := id hX
  have hr1 : 1 ∈ L := hXm _ (by omega)
  have hr2 : 2 ∈ L := hXm _ (by omega)
  have hr3 : 3 ∈ L := hXm _ (by omega)
  have hr4 : 4 ∈ L := hXm _ (by omega)
  obtain ⟨hFo10, hFr10, -⟩ := id hF10
  obtain ⟨hFo30, hFr30, -⟩ := id hF30
  have hX0 : E 0 = .inr (3, [.ref (ad 1), .ref (ad 10), .ref (ad 30)]) := hX0
  have hR : E 1 = .inr (2, [.ref (ad 2), .ref (ad 3), .ref (ad 4), .int (nI nw)]) := hR
  have hRw : E 2 = .inl (cI, 5, .inl w) := hRw
  have hRp : E 3 = .inl (cI, 6, .inl p) := hRp
  have hRg : E 4 = .inl (cI, 6, .inl g) := hRg
  have hFo10 : E 10 = .inr (1, [.ref (ad (10 + 1)), .int (nI n), .int (nI T)]) := hFo10
  have hFr10 : E (10 + 1) = .inl (cB, 6, .inr (.inr (.inr (.inr (fl_row ad 10))))) := hFr10
  have hFo30 : E 30 = .inr (1, [.ref (ad (30 + 1)), .int (nI nt), .int (nI Tt)]) := hFo30
  have hFr30 : E (30 + 1) = .inl (cB, 6, .inr (.inr (.inr (.inr (fl_row ad 30))))) := hFr30
  refine lv_aload_n hx hb dX3_tar_0 rfl (lv_at hl 0 rfl) ?_
  refine f_get (ci := 3) (v := .ref (ad 10)) (C := RX3) (T := TX3) (N := 3) hx hb hts (by decide +kernel) hown hG.1 hI rfl (hXm _ (by omega)) hX0 rfl 1 (by decide) (hts (.fieldLink RX3 19 "CoracleRace" "fleet" "LCoracleRace$Fleet;") (by decide +kernel)) rfl dX3_tar_1 ?_
  refine lv_iload_n hx hb dX3_tar_4 rfl (lv_at hl 1 rfl) ?_
  refine f_calli1 (va_runV (As := [.int x]) (rest := []) ⟨hx, hb, hml, hown, hts⟩ (m_X1_has l (fb := 10) rfl (by decide) (fun k h1 h2 => hXm k (by omega)) hn6 hF10 x) (cwV 1 hts gX3_tar_X1_has rfl rfl rfl (by decide +kernel) ⟨Nat.le_of_ble_eq_true rfl, Nat.le_of_ble_eq_true rfl⟩) (fPre_ofV hG hI rfl (hXm _ (by omega)) hFo10 rfl rfl) rfl rfl hl.1 rfl (lv_room (Nat.le_of_ble_eq_true rfl)) dX3_tar_5 ⟨Nat.le_of_ble_eq_true rfl, Nat.le_of_ble_eq_true rfl⟩) hI (fun r1 E2 H locs hp hI => ?_)
  obtain ⟨he, hq⟩ := hp
  rw [hq] at hI
  refine lv_if_ne (tgt := 21) hx hb dX3_tar_8 (by decide) (fun c_8 => ?_) (fun c_8 => ?_)
  · have p_8 := bl_t he c_8
    obtain ⟨i, hi, hxi⟩ := ix_nat p_8 (by omega)
    subst hxi
    have hcl : (nI i).toNatClampNeg = i := nI_clamp (by omega)
    obtain ⟨hCF, hSF⟩ := hF10.2.2 i (by omega)
    refine lv_aload_n hx hb dX3_tar_21 rfl (lv_at hl 0 rfl) ?_
    refine f_get (ci := 3) (v := .ref (ad 10)) (C := RX3) (T := TX3) (N := 3) hx hb hts (by decide +kernel) hown hG.1 hI rfl (hXm _ (by omega)) hX0 rfl 1 (by decide) (hts (.fieldLink RX3 19 "CoracleRace" "fleet" "LCoracleRace$Fleet;") (by decide +kernel)) rfl dX3_tar_22 ?_
    refine f_get (ci := 1) (v := .ref (ad (10 + 1))) (C := RX1) (T := TX1) (N := 3) hx hb hts (by decide +kernel) hown hG.1 hI rfl (hXm _ (by omega)) hFo10 rfl 0 (by decide) (hts (.fieldLink RX3 96 "CoracleRace$Fleet" "boats" "[LCoracleRace$Boat;") (by decide +kernel)) rfl dX3_tar_25 ?_
    refine lv_iload_n hx hb dX3_tar_28 rfl (lv_at hl 1 rfl) ?_
    refine f_aldq hx hb hG.1 hI rfl (hXm _ (by omega)) hFr10 (vp_in_nI (by omega) (by omega)) (v := .ref (ad (10 + 2 + 2 * i))) (by rw [hcl]; exact fl_row_at (by omega)) dX3_tar_29 ?_
    refine f_calli1 (va_runV (As := []) (rest := []) ⟨hx, hb, hml, hown, hts⟩ (m_X0_isIn l rfl (hXm _ (by omega)) (b := Bs i) hCF (h8 i hi)) (cwV 0 hts gX3_tar_X0_isIn rfl rfl rfl (by decide +kernel) ⟨Nat.le_of_ble_eq_true rfl, Nat.le_of_ble_eq_true rfl⟩) (fPre_ofV hG hI rfl (hXm _ (by omega)) hCF rfl rfl) rfl rfl hl.1 rfl (lv_room (Nat.le_of_ble_eq_true rfl)) dX3_tar_30 ⟨Nat.le_of_ble_eq_true rfl, Nat.le_of_ble_eq_true rfl⟩) hI (fun r3 E4 H locs hp hI => ?_)
    obtain ⟨he3, hq⟩ := hp
    rw [hq] at hI
    have he3 : r3 = (Bs i 8) := he3
    subst he3
    refine lv_if_eq (tgt := 46) hx hb dX3_tar_33 (by decide) (fun c_33 => ?_) (fun c_33 => ?_)
    · refine lv_aload_n hx hb dX3_tar_46 rfl (lv_at hl 0 rfl) ?_
      refine f_get (ci := 3) (v := .ref (ad 10)) (C := RX3) (T := TX3) (N := 3) hx hb hts (by decide +kernel) hown hG.1 hI rfl (hXm _ (by omega)) hX0 rfl 1 (by decide) (hts (.fieldLink RX3 19 "CoracleRace" "fleet" "LCoracleRace$Fleet;") (by decide +kernel)) rfl dX3_tar_47 ?_
      refine f_get (ci := 1) (v := .ref (ad (10 + 1))) (C := RX1) (T := TX1) (N := 3) hx hb hts (by decide +kernel) hown hG.1 hI rfl (hXm _ (by omega)) hFo10 rfl 0 (by decide) (hts (.fieldLink RX3 96 "CoracleRace$Fleet" "boats" "[LCoracleRace$Boat;") (by decide +kernel)) rfl dX3_tar_50 ?_
      refine lv_iload_n hx hb dX3_tar_53 rfl (lv_at hl 1 rfl) ?_
      refine f_aldq hx hb hG.1 hI rfl (hXm _ (by omega)) hFr10 (vp_in_nI (by omega) (by omega)) (v := .ref (ad (10 + 2 + 2 * i))) (by rw [hcl]; exact fl_row_at (by omega)) dX3_tar_54 ?_
      refine f_calli1 (va_runV (As := []) (rest := []) ⟨hx, hb, hml, hown, hts⟩ (m_X0_dryOut l rfl (hXm _ (by omega)) (b := Bs i) hCF) (cwV 0 hts gX3_tar_X0_dryOut rfl rfl rfl (by decide +kernel) ⟨Nat.le_of_ble_eq_true rfl, Nat.le_of_ble_eq_true rfl⟩) (fPre_ofV hG hI rfl (hXm _ (by omega)) hCF rfl rfl) rfl rfl hl.1 rfl (lv_room (Nat.le_of_ble_eq_true rfl)) dX3_tar_55 ⟨Nat.le_of_ble_eq_true rfl, Nat.le_of_ble_eq_true rfl⟩) hI (fun r5 E6 H locs hp hI => ?_)
      obtain ⟨hr9, hE9, hn9⟩ := hp
      subst hr9
      exact f_xreti hQ hx hb hr hlocks hI.2.2 (by omega) (by omega) dX3_tar_58 E6 (fB_of hI) (⟨by simp [c_tar, hcl, c_8, if_pos p_8, p_8, hcl, c_33], by rw [hcl], by rw [hcl]; exact hX.f10 (fun q hq => hn9 q (by omega)) (hF10.boat1 (by omega) hE9 hn9), fun q hq => hn9 q (by omega)⟩)
    · exact f_throw (cls := fIS) (text := "this boat is in") hQ (Or.inr ⟨by simp [c_tar, c_8, if_pos p_8, p_8, hcl, c_33], rfl⟩) hl9 hx hb hG hI hown hT hlocks (hl.1.trans hml.symm) (hts (.classLink RX3 54 fIS) (by decide +kernel)) (hts (.initialized fIS) (by decide +kernel)) (fun w hw => hts w (List.mem_cons_of_mem _ (List.mem_append_right _ hw))) vxf_IS vxn_58 vxg_58 (by decide +kernel) dX3_tar_36 dX3_tar_39 dX3_tar_40 dX3_tar_42 dX3_tar_45 (by decide +kernel) (Nat.le_of_ble_eq_true rfl) (Nat.le_of_ble_eq_true rfl) (Nat.le_of_ble_eq_true rfl) (by omega) (by omega)
  · have p_8 := bl_f he c_8
    exact f_throw (cls := fIO) (text := "no such boat") hQ (Or.inl ⟨by simp [c_tar, c_8, if_neg p_8], rfl⟩) hl9 hx hb hG hI hown hT hlocks (hl.1.trans hml.symm) (hts (.classLink RX3 30 fIO) (by decide +kernel)) (hts (.initialized fIO) (by decide +kernel)) (fun w hw => hts w (List.mem_cons_of_mem _ (List.mem_append_left _ (List.mem_append_right _ hw)))) vxf_IO vxn_34 vxg_34 (by decide +kernel) dX3_tar_11 dX3_tar_14 dX3_tar_15 dX3_tar_17 dX3_tar_20 (by decide +kernel) (Nat.le_of_ble_eq_true rfl) (Nat.le_of_ble_eq_true rfl) (Nat.le_of_ble_eq_true rfl) (by omega) (by omega)

set_option maxHeartbeats 4000000 in
set_option maxRecDepth 100000 in
theorem m_X3_boat (l : Launch) {D : va_G} {cI cJ cB : ClassId} {t0 z : Nat} {tx ad : Nat → Nat} {L : List Nat} {E : Nat → va_E} (hl9 : l.stackTraces = false) {w p g : Nat → Int32} {nw n T : Nat} {Bs Fs : Nat → Nat → Int32} (hX : x_at cI cB ad E w p g nw n T Bs Fs) (hnw : nw ≤ 6) (hn6 : n ≤ 6) (hTb : T < 2 ^ 30) (h8 : ∀ i, i < n → Bs i 8 = 0 ∨ Bs i 8 = 1) (hXm : ∀ k, k < 5 ∨ (10 ≤ k ∧ k < 24) ∨ (30 ≤ k ∧ k < 44) → k ∈ L) (x y : Int32) : vx_Met l yX3_boat wsX3_boat ({ frames := 6, cells := 1, slots := 6, locals := 82 } : Room) (va_Pc [.ref (ad 0), .int x, .int y] (fPre D cI cJ cB t0 z tx ad L E)) (va_Qi (fun (r : Int32) (E1 : Nat → va_E) => c_boat n x y = 0 ∧ r = p_fact (Bs x.toNatClampNeg) y.toNatClampNeg ∧ x_at cI cB ad E1 w p g nw n T Bs Fs ∧ ∀ q : Nat, 44 ≤ q → E1 q = E q) (fB D z ad L) (fA z)) (f_X D z ad L E (ok1 (c_boat n x y) fIO)) 1 6 (fA z) := by
  refine f_ofX (cc := cX3_boat) (maxL := 3) (ret := some .int) (by decide) rfl (Nat.le_of_ble_eq_true rfl) ?_
  intro pr e s m args below meth c Q hx hb hr hml hT hts hown hlocks hG H locs hI hQ ls hl
  have hl : lv_has ls 3 [(0, .ref (ad 0)), (1, .int x), (2, .int y)] := hl
  obtain ⟨hX0, ⟨hR, hRw, hRp, hRg⟩, hF10, nt, Tt, Bt, Ft, hnt, hF30⟩ := id hX
  have hr1 : 1 ∈ L := hXm _ (by omega)
  have hr2 : 2 ∈ L := hXm _ (by omega)
  have hr3 : 3 ∈ L := hXm _ (by omega)
  have hr4 : 4 ∈ L := hXm _ (by omega)
  obtain ⟨hFo10, hFr10, -⟩ := id hF10
  obtain ⟨hFo30, hFr30, -⟩ := id hF30
  have hX0 : E 0 = .inr (3, [.ref (ad 1), .ref (ad 10), .ref (ad 30)]) := hX0
  have hR : E 1 = .inr (2, [.ref (ad 2), .ref (ad 3), .ref (ad 4), .int (nI nw)]) := hR
  have hRw : E 2 = .inl (cI, 5, .inl w) := hRw
  have hRp : E 3 = .inl (cI, 6, .inl p) := hRp
  have hRg : E 4 = .inl (cI, 6, .inl g) := hRg
  have hFo10 : E 10 = .inr (1, [.ref (ad (10 + 1)), .int (nI n), .int (nI T)]) := hFo10
  have hFr10 : E (10 + 1) = .inl (cB, 6, .inr (.inr (.inr (.inr (fl_row ad 10))))) := hFr10
  have hFo30 : E 30 = .inr (1, [.ref (ad (30 + 1)), .int (nI nt), .int (nI Tt)]) := hFo30
  have hFr30 : E (30 + 1) = .inl (cB, 6, .inr (.inr (.inr (.inr (fl_row ad 30))))) := hFr30
  refine lv_aload_n hx hb dX3_boat_0 rfl (lv_at hl 0 rfl) ?_
  refine f_get (ci := 3) (v := .ref (ad 10)) (C := RX3) (T := TX3) (N := 3) hx hb hts (by decide +kernel) hown hG.1 hI rfl (hXm _ (by omega)) hX0 rfl 1 (by decide) (hts (.fieldLink RX3 19 "CoracleRace" "fleet" "LCoracleRace$Fleet;") (by decide +kernel)) rfl dX3_boat_1 ?_
  refine lv_iload_n hx hb dX3_boat_4 rfl (lv_at hl 1 rfl) ?_
  refine f_calli1 (va_runV (As := [.int x]) (rest := []) ⟨hx, hb, hml, hown, hts⟩ (m_X1_has l (fb := 10) rfl (by decide) (fun k h1 h2 => hXm k (by omega)) hn6 hF10 x) (cwV 1 hts gX3_boat_X1_has rfl rfl rfl (by decide +kernel) ⟨Nat.le_of_ble_eq_true rfl, Nat.le_of_ble_eq_true rfl⟩) (fPre_ofV hG hI rfl (hXm _ (by omega)) hFo10 rfl rfl) rfl rfl hl.1 rfl (lv_room (Nat.le_of_ble_eq_true rfl)) dX3_boat_5 ⟨Nat.le_of_ble_eq_true rfl, Nat.le_of_ble_eq_true rfl⟩) hI (fun r1 E2 H locs hp hI => ?_)
  obtain ⟨he, hq⟩ := hp
  rw [hq] at hI
  refine lv_if_ne (tgt := 21) hx hb dX3_boat_8 (by decide) (fun c_8 => ?_) (fun c_8 => ?_)
  · have p_8 := bl_t he c_8
    obtain ⟨i, hi, hxi⟩ := ix_nat p_8 (by omega)
    subst hxi
    have hcl : (nI i).toNatClampNeg = i := nI_clamp (by omega)
    obtain ⟨hCF, hSF⟩ := hF10.2.2 i (by omega)
    refine lv_iload_n hx hb dX3_boat_21 rfl (lv_at hl 2 rfl) ?_
    refine lv_if_lt (tgt := 31) hx hb dX3_boat_22 (by decide) (fun c_22 => ?_) (fun c_22 => ?_)
    · have n_22 := i_nle.mpr c_22
      exact f_throw (cls := fIO) (text := "what is 0 to 8") hQ (⟨by simp [c_boat, c_8, if_pos p_8, p_8, hcl, c_22, n_22], rfl⟩) hl9 hx hb hG hI hown hT hlocks (hl.1.trans hml.symm) (hts (.classLink RX3 30 fIO) (by decide +kernel)) (hts (.initialized fIO) (by decide +kernel)) (fun w hw => hts w (List.mem_cons_of_mem _ (List.mem_append_right _ hw))) vxf_IO vxn_34 vxg_34 (by decide +kernel) dX3_boat_31 dX3_boat_34 dX3_boat_35 dX3_boat_37 dX3_boat_40 (by decide +kernel) (Nat.le_of_ble_eq_true rfl) (Nat.le_of_ble_eq_true rfl) (Nat.le_of_ble_eq_true rfl) (by omega) (by omega)
    · have n_22 := c_22
      have c_22 := i_nlt.mp n_22
      refine lv_iload_n hx hb dX3_boat_25 rfl (lv_at hl 2 rfl) ?_
      refine lv_bipush (v := 8) hx hb dX3_boat_26 (by decide) ?_
      refine lv_icmp_le (tgt := 41) hx hb dX3_boat_28 (by decide) (fun c_28 => ?_) (fun c_28 => ?_)
      · have n_28 := i_nlt.mpr c_28
        obtain ⟨v, hv, hxv⟩ := le_nat (n := 8) c_22 c_28 (by omega)
        subst hxv
        refine lv_aload_n hx hb dX3_boat_41 rfl (lv_at hl 0 rfl) ?_
        refine f_get (ci := 3) (v := .ref (ad 10)) (C := RX3) (T := TX3) (N := 3) hx hb hts (by decide +kernel) hown hG.1 hI rfl (hXm _ (by omega)) hX0 rfl 1 (by decide) (hts (.fieldLink RX3 19 "CoracleRace" "fleet" "LCoracleRace$Fleet;") (by decide +kernel)) rfl dX3_boat_42 ?_
        refine f_get (ci := 1) (v := .ref (ad (10 + 1))) (C := RX1) (T := TX1) (N := 3) hx hb hts (by decide +kernel) hown hG.1 hI rfl (hXm _ (by omega)) hFo10 rfl 0 (by decide) (hts (.fieldLink RX3 96 "CoracleRace$Fleet" "boats" "[LCoracleRace$Boat;") (by decide +kernel)) rfl dX3_boat_45 ?_
        refine lv_iload_n hx hb dX3_boat_48 rfl (lv_at hl 1 rfl) ?_
        refine f_aldq hx hb hG.1 hI rfl (hXm _ (by omega)) hFr10 (vp_in_nI (by omega) (by omega)) (v := .ref (ad (10 + 2 + 2 * i))) (by rw [hcl]; exact fl_row_at (by omega)) dX3_boat_49 ?_
        refine lv_iload_n hx hb dX3_boat_50 rfl (lv_at hl 2 rfl) ?_
        refine f_calli1 (va_runV (As := [.int (nI v)]) (rest := []) ⟨hx, hb, hml, hown, hts⟩ (m_X0_fact l rfl (hXm _ (by omega)) (b := Bs i) hCF v hv) (cwV 1 hts gX3_boat_X0_fact rfl rfl rfl (by decide +kernel) ⟨Nat.le_of_ble_eq_true rfl, Nat.le_of_ble_eq_true rfl⟩) (fPre_ofV hG hI rfl (hXm _ (by omega)) hCF rfl rfl) rfl rfl hl.1 rfl (lv_room (Nat.le_of_ble_eq_true rfl)) dX3_boat_51 ⟨Nat.le_of_ble_eq_true rfl, Nat.le_of_ble_eq_true rfl⟩) hI (fun r3 E4 H locs hp hI => ?_)
        obtain ⟨he4, hq⟩ := hp
        rw [hq] at hI
        have he4 : r3 = (p_fact (Bs i) v) := he4
        subst he4
        exact f_xreti hQ hx hb hr hlocks hI.2.2 (by omega) (by omega) dX3_boat_54 E (fB_of hI) (⟨by simp [c_boat, c_8, if_pos p_8, p_8, hcl, c_22, n_22, c_28, n_28], by rw [hcl, nI_clamp (by omega)], hX, fun _ _ => rfl⟩)
      · have n_28 := c_28
        have c_28 := i_nle.mp n_28
        exact f_throw (cls := fIO) (text := "what is 0 to 8") hQ (⟨by simp [c_boat, c_8, if_pos p_8, p_8, hcl, c_22, n_22, c_28, n_28], rfl⟩) hl9 hx hb hG hI hown hT hlocks (hl.1.trans hml.symm) (hts (.classLink RX3 30 fIO) (by decide +kernel)) (hts (.initialized fIO) (by decide +kernel)) (fun w hw => hts w (List.mem_cons_of_mem _ (List.mem_append_right _ hw))) vxf_IO vxn_34 vxg_34 (by decide +kernel) dX3_boat_31 dX3_boat_34 dX3_boat_35 dX3_boat_37 dX3_boat_40 (by decide +kernel) (Nat.le_of_ble_eq_true rfl) (Nat.le_of_ble_eq_true rfl) (Nat.le_of_ble_eq_true rfl) (by omega) (by omega)
  · have p_8 := bl_f he c_8
    exact f_throw (cls := fIO) (text := "no such boat") hQ (⟨by simp [c_boat, c_8, if_neg p_8], rfl⟩) hl9 hx hb hG hI hown hT hlocks (hl.1.trans hml.symm) (hts (.classLink RX3 30 fIO) (by decide +kernel)) (hts (.initialized fIO) (by decide +kernel)) (fun w hw => hts w (List.mem_cons_of_mem _ (List.mem_append_right _ hw))) vxf_IO vxn_34 vxg_34 (by decide +kernel) dX3_boat_11 dX3_boat_14 dX3_boat_15 dX3_boat_17 dX3_boat_20 (by decide +kernel) (Nat.le_of_ble_eq_true rfl) (Nat.le_of_ble_eq_true rfl) (Nat.le_of_ble_eq_true rfl) (by omega) (by omega)

set_option maxHeartbeats 4000000 in
set_option maxRecDepth 100000 in
theorem m_X3_countIn (l : Launch) {D : va_G} {cI cJ cB : ClassId} {t0 z : Nat} {tx ad : Nat → Nat} {L : List Nat} {E : Nat → va_E} {fb a : Nat} (ha : ad fb = a) (h10 : 10 ≤ fb) (hLm : ∀ k, fb ≤ k → k < fb + 14 → k ∈ L) {n T : Nat} (hn6 : n ≤ 6) {Bs Fs : Nat → Nat → Int32} (hFl : fl_at cI cB ad E fb n T Bs Fs) {nw : Nat} (hX0 : E 0 = .inr (3, [.ref (ad 1), .ref (ad 10), .ref (ad 30)])) (h0L : 0 ∈ L) (hr1 : 1 ∈ L) (hR : E 1 = rE ad nw) (h8 : ∀ i, i < n → Bs i 8 = 0 ∨ Bs i 8 = 1) (v : Nat) (hv : v ≤ 6) : Met l yX3_countIn wsX3_countIn ({ frames := 2, cells := 0, slots := 0, locals := 43 } : Room) (va_Pc [.ref (ad 0), .ref a, .int (nI v)] (fPre D cI cJ cB t0 z tx ad L E)) (va_Qi (fun (r : Int32) (E1 : Nat → va_E) => r = p_cnt nw n T Bs v ∧ E1 = E) (fB D z ad L) (fA z)) 0 0 (fA z) := by
  refine f_ofW (cc := cX3_countIn) (maxL := 3) (ret := some .int) (by decide) rfl (Nat.le_of_ble_eq_true rfl) ?_
  intro pr e s m args below meth c Q hx hb hr hml hts hown hlocks hin hG H locs hI hQ ls hl
  have hl : lv_has ls 3 [(0, .ref (ad 0)), (1, .ref a), (2, .int (nI v))] := hl
  obtain ⟨hFo, hFr, -⟩ := id hFl
  have hFo : E fb = .inr (1, [.ref (ad (fb + 1)), .int (nI n), .int (nI T)]) := hFo
  have hFr : E (fb + 1) = .inl (cB, 6, .inr (.inr (.inr (.inr (fl_row ad fb))))) := hFr
  have hX0 : E 0 = .inr (3, [.ref (ad 1), .ref (ad 10), .ref (ad 30)]) := hX0
  have hR : E 1 = .inr (2, [.ref (ad 2), .ref (ad 3), .ref (ad 4), .int (nI nw)]) := hR
  refine lv_iload_n hx hb dX3_countIn_0 rfl (lv_at hl 2 rfl) ?_
  rcases (show v = 0 ∨ v = 1 ∨ v = 2 ∨ v = 3 ∨ v = 4 ∨ v = 5 ∨ v = 6 by omega) with rfl | rfl | rfl | rfl | rfl | rfl | rfl
  · refine lv_tableIn (tgt := 40) hx hb dX3_countIn_1 (by decide) (by decide) rfl (by decide) ?_
    refine lv_aload_n hx hb dX3_countIn_40 rfl (lv_at hl 1 rfl) ?_
    refine f_get (ci := 1) (v := .int (nI T)) (C := RX1) (T := TX1) (N := 3) hx hb hts (by decide +kernel) hown hG.1 hI ha (hLm _ (by omega) (by omega)) hFo rfl 2 (by decide) (hts (.fieldLink RX3 150 "CoracleRace$Fleet" "tick" "I") (by decide +kernel)) rfl dX3_countIn_41 ?_
    exact f_reti hQ hx hb hr hlocks hI.2.2 (by omega) (by omega) dX3_countIn_44 E (fB_of hI) (⟨by simp [p_cnt], rfl⟩)
  · refine lv_tableIn (tgt := 45) hx hb dX3_countIn_1 (by decide) (by decide) rfl (by decide) ?_
    refine lv_aload_n hx hb dX3_countIn_45 rfl (lv_at hl 1 rfl) ?_
    refine f_get (ci := 1) (v := .int (nI n)) (C := RX1) (T := TX1) (N := 3) hx hb hts (by decide +kernel) hown hG.1 hI ha (hLm _ (by omega) (by omega)) hFo rfl 1 (by decide) (hts (.fieldLink RX3 74 "CoracleRace$Fleet" "size" "I") (by decide +kernel)) rfl dX3_countIn_46 ?_
    exact f_reti hQ hx hb hr hlocks hI.2.2 (by omega) (by omega) dX3_countIn_49 E (fB_of hI) (⟨by simp [p_cnt], rfl⟩)
  · refine lv_tableIn (tgt := 50) hx hb dX3_countIn_1 (by decide) (by decide) rfl (by decide) ?_
    refine lv_aload_n hx hb dX3_countIn_50 rfl (lv_at hl 0 rfl) ?_
    refine f_get (ci := 3) (v := .ref (ad 1)) (C := RX3) (T := TX3) (N := 3) hx hb hts (by decide +kernel) hown hG.1 hI rfl h0L hX0 rfl 0 (by decide) (hts (.fieldLink RX3 10 "CoracleRace" "river" "LCoracleRace$River;") (by decide +kernel)) rfl dX3_countIn_51 ?_
    refine f_get (ci := 2) (v := .int (nI nw)) (C := RX2) (T := TX2) (N := 4) hx hb hts (by decide +kernel) hown hG.1 hI rfl hr1 hR rfl 3 (by decide) (hts (.fieldLink RX3 50 "CoracleRace$River" "weirs" "I") (by decide +kernel)) rfl dX3_countIn_54 ?_
    exact f_reti hQ hx hb hr hlocks hI.2.2 (by omega) (by omega) dX3_countIn_57 E (fB_of hI) (⟨by simp [p_cnt], rfl⟩)
  · refine lv_tableIn (tgt := 58) hx hb dX3_countIn_1 (by decide) (by decide) rfl (by decide) ?_
    refine lv_aload_n hx hb dX3_countIn_58 rfl (lv_at hl 1 rfl) ?_
    refine f_calli1 (va_runV (As := []) (rest := []) ⟨hx, hb, hml, hown, hts⟩ (m_X1_boatsIn l ha h10 hLm hn6 hFl (fun i hi => h8 i hi)) (cwV 0 hts gX3_countIn_X1_boatsIn rfl rfl rfl (by decide +kernel) ⟨Nat.le_of_ble_eq_true rfl, Nat.le_of_ble_eq_true rfl⟩) (fPre_ofV hG hI ha (hLm _ (by omega) (by omega)) hFo rfl rfl) rfl rfl hl.1 rfl (lv_room (Nat.le_of_ble_eq_true rfl)) dX3_countIn_59 ⟨Nat.le_of_ble_eq_true rfl, Nat.le_of_ble_eq_true rfl⟩) hI (fun r1 E2 H locs hp hI => ?_)
    obtain ⟨he, hq⟩ := hp
    rw [hq] at hI
    have he : r1 = (p_in Bs n) := he
    subst he
    exact f_reti hQ hx hb hr hlocks hI.2.2 (by omega) (by omega) dX3_countIn_62 E (fB_of hI) (⟨by simp [p_cnt], rfl⟩)
  · refine lv_tableIn (tgt := 63) hx hb dX3_countIn_1 (by decide) (by decide) rfl (by decide) ?_
    refine lv_aload_n hx hb dX3_countIn_63 rfl (lv_at hl 1 rfl) ?_
    refine f_calli1 (va_runV (As := []) (rest := []) ⟨hx, hb, hml, hown, hts⟩ (m_X1_foulsAdded l ha h10 hLm hn6 hFl) (cwV 0 hts gX3_countIn_X1_foulsAdded rfl rfl rfl (by decide +kernel) ⟨Nat.le_of_ble_eq_true rfl, Nat.le_of_ble_eq_true rfl⟩) (fPre_ofV hG hI ha (hLm _ (by omega) (by omega)) hFo rfl rfl) rfl rfl hl.1 rfl (lv_room (Nat.le_of_ble_eq_true rfl)) dX3_countIn_64 ⟨Nat.le_of_ble_eq_true rfl, Nat.le_of_ble_eq_true rfl⟩) hI (fun r3 E4 H locs hp hI => ?_)
    obtain ⟨he, hq⟩ := hp
    rw [hq] at hI
    have he : r3 = (p_fsum Bs n) := he
    subst he
    exact f_reti hQ hx hb hr hlocks hI.2.2 (by omega) (by omega) dX3_countIn_67 E (fB_of hI) (⟨by simp [p_cnt], rfl⟩)
  · refine lv_tableIn (tgt := 68) hx hb dX3_countIn_1 (by decide) (by decide) rfl (by decide) ?_
    refine lv_aload_n hx hb dX3_countIn_68 rfl (lv_at hl 1 rfl) ?_
    refine f_calli1 (va_runV (As := []) (rest := []) ⟨hx, hb, hml, hown, hts⟩ (m_X1_leader l ha h10 hLm hn6 hFl (fun i hi => h8 i hi)) (cwV 0 hts gX3_countIn_X1_leader rfl rfl rfl (by decide +kernel) ⟨Nat.le_of_ble_eq_true rfl, Nat.le_of_ble_eq_true rfl⟩) (fPre_ofV hG hI ha (hLm _ (by omega) (by omega)) hFo rfl rfl) rfl rfl hl.1 rfl (lv_room (Nat.le_of_ble_eq_true rfl)) dX3_countIn_69 ⟨Nat.le_of_ble_eq_true rfl, Nat.le_of_ble_eq_true rfl⟩) hI (fun r5 E6 H locs hp hI => ?_)
    obtain ⟨he, hq⟩ := hp
    rw [hq] at hI
    have he : r5 = (p_lead Bs n).1 := he
    subst he
    exact f_reti hQ hx hb hr hlocks hI.2.2 (by omega) (by omega) dX3_countIn_72 E (fB_of hI) (⟨by simp [p_cnt], rfl⟩)
  · refine lv_tableOut (tgt := 73) hx hb dX3_countIn_1 (by decide) (by decide) ?_
    refine lv_aload_n hx hb dX3_countIn_73 rfl (lv_at hl 1 rfl) ?_
    refine f_calli1 (va_runV (As := []) (rest := []) ⟨hx, hb, hml, hown, hts⟩ (m_X1_winner l ha h10 hLm hn6 hFl (fun i hi => h8 i hi)) (cwV 0 hts gX3_countIn_X1_winner rfl rfl rfl (by decide +kernel) ⟨Nat.le_of_ble_eq_true rfl, Nat.le_of_ble_eq_true rfl⟩) (fPre_ofV hG hI ha (hLm _ (by omega) (by omega)) hFo rfl rfl) rfl rfl hl.1 rfl (lv_room (Nat.le_of_ble_eq_true rfl)) dX3_countIn_74 ⟨Nat.le_of_ble_eq_true rfl, Nat.le_of_ble_eq_true rfl⟩) hI (fun r7 E8 H locs hp hI => ?_)
    obtain ⟨he, hq⟩ := hp
    rw [hq] at hI
    have he : r7 = (p_win Bs n).1 := he
    subst he
    exact f_reti hQ hx hb hr hlocks hI.2.2 (by omega) (by omega) dX3_countIn_77 E (fB_of hI) (⟨by simp [p_cnt], rfl⟩)

set_option maxHeartbeats 4000000 in
set_option maxRecDepth 100000 in
theorem m_X3_count (l : Launch) {D : va_G} {cI cJ cB : ClassId} {t0 z : Nat} {tx ad : Nat → Nat} {L : List Nat} {E : Nat → va_E} (hl9 : l.stackTraces = false) {w p g : Nat → Int32} {nw n T : Nat} {Bs Fs : Nat → Nat → Int32} (hX : x_at cI cB ad E w p g nw n T Bs Fs) (hnw : nw ≤ 6) (hn6 : n ≤ 6) (hTb : T < 2 ^ 30) (h8 : ∀ i, i < n → Bs i 8 = 0 ∨ Bs i 8 = 1) (hXm : ∀ k, k < 5 ∨ (10 ≤ k ∧ k < 24) ∨ (30 ≤ k ∧ k < 44) → k ∈ L) (x : Int32) : vx_Met l yX3_count wsX3_count ({ frames := 6, cells := 1, slots := 6, locals := 82 } : Room) (va_Pc [.ref (ad 0), .int x] (fPre D cI cJ cB t0 z tx ad L E)) (va_Qi (fun (r : Int32) (E1 : Nat → va_E) => c_count x = 0 ∧ r = p_cnt nw n T Bs x.toNatClampNeg ∧ x_at cI cB ad E1 w p g nw n T Bs Fs ∧ ∀ q : Nat, 44 ≤ q → E1 q = E q) (fB D z ad L) (fA z)) (f_X D z ad L E (ok1 (c_count x) fIO)) 1 6 (fA z) := by
  refine f_ofX (cc := cX3_count) (maxL := 2) (ret := some .int) (by decide) rfl (Nat.le_of_ble_eq_true rfl) ?_
  intro pr e s m args below meth c Q hx hb hr hml hT hts hown hlocks hG H locs hI hQ ls hl
  have hl : lv_has ls 2 [(0, .ref (ad 0)), (1, .int x)] := hl
  obtain ⟨hX0, ⟨hR, hRw, hRp, hRg⟩, hF10, nt, Tt, Bt, Ft, hnt, hF30⟩ := id hX
  have hr1 : 1 ∈ L := hXm _ (by omega)
  have hr2 : 2 ∈ L := hXm _ (by omega)
  have hr3 : 3 ∈ L := hXm _ (by omega)
  have hr4 : 4 ∈ L := hXm _ (by omega)
  obtain ⟨hFo10, hFr10, -⟩ := id hF10
  obtain ⟨hFo30, hFr30, -⟩ := id hF30
  have hX0 : E 0 = .inr (3, [.ref (ad 1), .ref (ad 10), .ref (ad 30)]) := hX0
  have hR : E 1 = .inr (2, [.ref (ad 2), .ref (ad 3), .ref (ad 4), .int (nI nw)]) := hR
  have hRw : E 2 = .inl (cI, 5, .inl w) := hRw
  have hRp : E 3 = .inl (cI, 6, .inl p) := hRp
  have hRg : E 4 = .inl (cI, 6, .inl g) := hRg
  have hFo10 : E 10 = .inr (1, [.ref (ad (10 + 1)), .int (nI n), .int (nI T)]) := hFo10
  have hFr10 : E (10 + 1) = .inl (cB, 6, .inr (.inr (.inr (.inr (fl_row ad 10))))) := hFr10
  have hFo30 : E 30 = .inr (1, [.ref (ad (30 + 1)), .int (nI nt), .int (nI Tt)]) := hFo30
  have hFr30 : E (30 + 1) = .inl (cB, 6, .inr (.inr (.inr (.inr (fl_row ad 30))))) := hFr30
  refine lv_iload_n hx hb dX3_count_0 rfl (lv_at hl 1 rfl) ?_
  refine lv_if_lt (tgt := 10) hx hb dX3_count_1 (by decide) (fun c_1 => ?_) (fun c_1 => ?_)
  · have n_1 := i_nle.mpr c_1
    exact f_throw (cls := fIO) (text := "what is 0 to 6") hQ (⟨by simp [c_count, c_1, n_1], rfl⟩) hl9 hx hb hG hI hown hT hlocks (hl.1.trans hml.symm) (hts (.classLink RX3 30 fIO) (by decide +kernel)) (hts (.initialized fIO) (by decide +kernel)) (fun w hw => hts w (List.mem_cons_of_mem _ (List.mem_append_right _ hw))) vxf_IO vxn_34 vxg_34 (by decide +kernel) dX3_count_10 dX3_count_13 dX3_count_14 dX3_count_16 dX3_count_19 (by decide +kernel) (Nat.le_of_ble_eq_true rfl) (Nat.le_of_ble_eq_true rfl) (Nat.le_of_ble_eq_true rfl) (by omega) (by omega)
  · have n_1 := c_1
    have c_1 := i_nlt.mp n_1
    refine lv_iload_n hx hb dX3_count_4 rfl (lv_at hl 1 rfl) ?_
    refine lv_bipush (v := 6) hx hb dX3_count_5 (by decide) ?_
    refine lv_icmp_le (tgt := 20) hx hb dX3_count_7 (by decide) (fun c_7 => ?_) (fun c_7 => ?_)
    · have n_7 := i_nlt.mpr c_7
      obtain ⟨v, hv, hxv⟩ := le_nat (n := 6) c_1 c_7 (by omega)
      subst hxv
      refine lv_aload_n hx hb dX3_count_20 rfl (lv_at hl 0 rfl) ?_
      refine lv_aload_n hx hb dX3_count_21 rfl (lv_at hl 0 rfl) ?_
      refine f_get (ci := 3) (v := .ref (ad 10)) (C := RX3) (T := TX3) (N := 3) hx hb hts (by decide +kernel) hown hG.1 hI rfl (hXm _ (by omega)) hX0 rfl 1 (by decide) (hts (.fieldLink RX3 19 "CoracleRace" "fleet" "LCoracleRace$Fleet;") (by decide +kernel)) rfl dX3_count_22 ?_
      refine lv_iload_n hx hb dX3_count_25 rfl (lv_at hl 1 rfl) ?_
      refine f_calli1 (va_runV (As := [.ref (ad 10), .int (nI v)]) (rest := []) ⟨hx, hb, hml, hown, hts⟩ (m_X3_countIn l (fb := 10) rfl (by decide) (fun k h1 h2 => hXm k (by omega)) hn6 hF10 (nw := nw) hX0 (hXm _ (by omega)) hr1 hR h8 v hv) (cwV 2 hts gX3_count_X3_countIn rfl rfl rfl (by decide +kernel) ⟨Nat.le_of_ble_eq_true rfl, Nat.le_of_ble_eq_true rfl⟩) (fPre_ofV hG hI rfl (hXm _ (by omega)) hX0 rfl rfl) rfl rfl hl.1 rfl (lv_room (Nat.le_of_ble_eq_true rfl)) dX3_count_26 ⟨Nat.le_of_ble_eq_true rfl, Nat.le_of_ble_eq_true rfl⟩) hI (fun r1 E2 H locs hp hI => ?_)
      obtain ⟨he, hq⟩ := hp
      rw [hq] at hI
      have he : r1 = (p_cnt nw n T Bs v) := he
      subst he
      exact f_xreti hQ hx hb hr hlocks hI.2.2 (by omega) (by omega) dX3_count_29 E (fB_of hI) (⟨by simp [c_count, c_1, n_1, c_7, n_7], by rw [nI_clamp (by omega)], hX, fun _ _ => rfl⟩)
    · have n_7 := c_7
      have c_7 := i_nle.mp n_7
      exact f_throw (cls := fIO) (text := "what is 0 to 6") hQ (⟨by simp [c_count, c_1, n_1, c_7, n_7], rfl⟩) hl9 hx hb hG hI hown hT hlocks (hl.1.trans hml.symm) (hts (.classLink RX3 30 fIO) (by decide +kernel)) (hts (.initialized fIO) (by decide +kernel)) (fun w hw => hts w (List.mem_cons_of_mem _ (List.mem_append_right _ hw))) vxf_IO vxn_34 vxg_34 (by decide +kernel) dX3_count_10 dX3_count_13 dX3_count_14 dX3_count_16 dX3_count_19 (by decide +kernel) (Nat.le_of_ble_eq_true rfl) (Nat.le_of_ble_eq_true rfl) (Nat.le_of_ble_eq_true rfl) (by omega) (by omega)

set_option maxHeartbeats 4000000 in
set_option maxRecDepth 100000 in
theorem m_X3_rank (l : Launch) {D : va_G} {cI cJ cB : ClassId} {t0 z : Nat} {tx ad : Nat → Nat} {L : List Nat} {E : Nat → va_E} (hl9 : l.stackTraces = false) {w p g : Nat → Int32} {nw n T : Nat} {Bs Fs : Nat → Nat → Int32} (hX : x_at cI cB ad E w p g nw n T Bs Fs) (hnw : nw ≤ 6) (hn6 : n ≤ 6) (hTb : T < 2 ^ 30) (h8 : ∀ i, i < n → Bs i 8 = 0 ∨ Bs i 8 = 1) (hXm : ∀ k, k < 5 ∨ (10 ≤ k ∧ k < 24) ∨ (30 ≤ k ∧ k < 44) → k ∈ L) (x : Int32) : vx_Met l yX3_rank wsX3_rank ({ frames := 6, cells := 1, slots := 6, locals := 82 } : Room) (va_Pc [.ref (ad 0), .int x] (fPre D cI cJ cB t0 z tx ad L E)) (va_Qi (fun (r : Int32) (E1 : Nat → va_E) => c_rank n x = 0 ∧ r = 1 + p_rk Bs (Bs x.toNatClampNeg) n ∧ x_at cI cB ad E1 w p g nw n T Bs Fs ∧ ∀ q : Nat, 44 ≤ q → E1 q = E q) (fB D z ad L) (fA z)) (f_X D z ad L E (ok1 (c_rank n x) fIO)) 1 6 (fA z) := by
  refine f_ofX (cc := cX3_rank) (maxL := 2) (ret := some .int) (by decide) rfl (Nat.le_of_ble_eq_true rfl) ?_
  intro pr e s m args below meth c Q hx hb hr hml hT hts hown hlocks hG H locs hI hQ ls hl
  have hl : lv_has ls 2 [(0, .ref (ad 0)), (1, .int x)] := hl
  obtain ⟨hX0, ⟨hR, hRw, hRp, hRg⟩, hF10, nt, Tt, Bt, Ft, hnt, hF30⟩ := id hX
  have hr1 : 1 ∈ L := hXm _ (by omega)
  have hr2 : 2 ∈ L := hXm _ (by omega)
  have hr3 : 3 ∈ L := hXm _ (by omega)
  have hr4 : 4 ∈ L := hXm _ (by omega)
  obtain ⟨hFo10, hFr10, -⟩ := id hF10
  obtain ⟨hFo30, hFr30, -⟩ := id hF30
  have hX0 : E 0 = .inr (3, [.ref (ad 1), .ref (ad 10), .ref (ad 30)]) := hX0
  have hR : E 1 = .inr (2, [.ref (ad 2), .ref (ad 3), .ref (ad 4), .int (nI nw)]) := hR
  have hRw : E 2 = .inl (cI, 5, .inl w) := hRw
  have hRp : E 3 = .inl (cI, 6, .inl p) := hRp
  have hRg : E 4 = .inl (cI, 6, .inl g) := hRg
  have hFo10 : E 10 = .inr (1, [.ref (ad (10 + 1)), .int (nI n), .int (nI T)]) := hFo10
  have hFr10 : E (10 + 1) = .inl (cB, 6, .inr (.inr (.inr (.inr (fl_row ad 10))))) := hFr10
  have hFo30 : E 30 = .inr (1, [.ref (ad (30 + 1)), .int (nI nt), .int (nI Tt)]) := hFo30
  have hFr30 : E (30 + 1) = .inl (cB, 6, .inr (.inr (.inr (.inr (fl_row ad 30))))) := hFr30
  refine lv_aload_n hx hb dX3_rank_0 rfl (lv_at hl 0 rfl) ?_
  refine f_get (ci := 3) (v := .ref (ad 10)) (C := RX3) (T := TX3) (N := 3) hx hb hts (by decide +kernel) hown hG.1 hI rfl (hXm _ (by omega)) hX0 rfl 1 (by decide) (hts (.fieldLink RX3 19 "CoracleRace" "fleet" "LCoracleRace$Fleet;") (by decide +kernel)) rfl dX3_rank_1 ?_
  refine lv_iload_n hx hb dX3_rank_4 rfl (lv_at hl 1 rfl) ?_
  refine f_calli1 (va_runV (As := [.int x]) (rest := []) ⟨hx, hb, hml, hown, hts⟩ (m_X1_has l (fb := 10) rfl (by decide) (fun k h1 h2 => hXm k (by omega)) hn6 hF10 x) (cwV 1 hts gX3_rank_X1_has rfl rfl rfl (by decide +kernel) ⟨Nat.le_of_ble_eq_true rfl, Nat.le_of_ble_eq_true rfl⟩) (fPre_ofV hG hI rfl (hXm _ (by omega)) hFo10 rfl rfl) rfl rfl hl.1 rfl (lv_room (Nat.le_of_ble_eq_true rfl)) dX3_rank_5 ⟨Nat.le_of_ble_eq_true rfl, Nat.le_of_ble_eq_true rfl⟩) hI (fun r1 E2 H locs hp hI => ?_)
  obtain ⟨he, hq⟩ := hp
  rw [hq] at hI
  refine lv_if_ne (tgt := 21) hx hb dX3_rank_8 (by decide) (fun c_8 => ?_) (fun c_8 => ?_)
  · have p_8 := bl_t he c_8
    obtain ⟨i, hi, hxi⟩ := ix_nat p_8 (by omega)
    subst hxi
    have hcl : (nI i).toNatClampNeg = i := nI_clamp (by omega)
    obtain ⟨hCF, hSF⟩ := hF10.2.2 i (by omega)
    refine lv_aload_n hx hb dX3_rank_21 rfl (lv_at hl 0 rfl) ?_
    refine f_get (ci := 3) (v := .ref (ad 10)) (C := RX3) (T := TX3) (N := 3) hx hb hts (by decide +kernel) hown hG.1 hI rfl (hXm _ (by omega)) hX0 rfl 1 (by decide) (hts (.fieldLink RX3 19 "CoracleRace" "fleet" "LCoracleRace$Fleet;") (by decide +kernel)) rfl dX3_rank_22 ?_
    refine lv_aload_n hx hb dX3_rank_25 rfl (lv_at hl 0 rfl) ?_
    refine f_get (ci := 3) (v := .ref (ad 10)) (C := RX3) (T := TX3) (N := 3) hx hb hts (by decide +kernel) hown hG.1 hI rfl (hXm _ (by omega)) hX0 rfl 1 (by decide) (hts (.fieldLink RX3 19 "CoracleRace" "fleet" "LCoracleRace$Fleet;") (by decide +kernel)) rfl dX3_rank_26 ?_
    refine f_get (ci := 1) (v := .ref (ad (10 + 1))) (C := RX1) (T := TX1) (N := 3) hx hb hts (by decide +kernel) hown hG.1 hI rfl (hXm _ (by omega)) hFo10 rfl 0 (by decide) (hts (.fieldLink RX3 96 "CoracleRace$Fleet" "boats" "[LCoracleRace$Boat;") (by decide +kernel)) rfl dX3_rank_29 ?_
    refine lv_iload_n hx hb dX3_rank_32 rfl (lv_at hl 1 rfl) ?_
    refine f_aldq hx hb hG.1 hI rfl (hXm _ (by omega)) hFr10 (vp_in_nI (by omega) (by omega)) (v := .ref (ad (10 + 2 + 2 * i))) (by rw [hcl]; exact fl_row_at (by omega)) dX3_rank_33 ?_
    refine f_calli1 (va_runV (As := [.ref (ad (10 + 2 + 2 * i))]) (rest := []) ⟨hx, hb, hml, hown, hts⟩ (m_X1_rankOf l (fb := 10) rfl (by decide) (fun k h1 h2 => hXm k (by omega)) hn6 hF10 rfl (hXm _ (by omega)) (o := Bs i) hCF) (cwV 1 hts gX3_rank_X1_rankOf rfl rfl rfl (by decide +kernel) ⟨Nat.le_of_ble_eq_true rfl, Nat.le_of_ble_eq_true rfl⟩) (fPre_ofV hG hI rfl (hXm _ (by omega)) hFo10 rfl rfl) rfl rfl hl.1 rfl (lv_room (Nat.le_of_ble_eq_true rfl)) dX3_rank_34 ⟨Nat.le_of_ble_eq_true rfl, Nat.le_of_ble_eq_true rfl⟩) hI (fun r3 E4 H locs hp hI => ?_)
    obtain ⟨he4, hq⟩ := hp
    rw [hq] at hI
    have he4 : r3 = (1 + p_rk Bs (Bs i) n) := he4
    subst he4
    exact f_xreti hQ hx hb hr hlocks hI.2.2 (by omega) (by omega) dX3_rank_37 E (fB_of hI) (⟨by simp [c_rank, c_8, if_pos p_8, p_8, hcl], by rw [hcl], hX, fun _ _ => rfl⟩)
  · have p_8 := bl_f he c_8
    exact f_throw (cls := fIO) (text := "no such boat") hQ (⟨by simp [c_rank, c_8, if_neg p_8], rfl⟩) hl9 hx hb hG hI hown hT hlocks (hl.1.trans hml.symm) (hts (.classLink RX3 30 fIO) (by decide +kernel)) (hts (.initialized fIO) (by decide +kernel)) (fun w hw => hts w (List.mem_cons_of_mem _ (List.mem_append_right _ hw))) vxf_IO vxn_34 vxg_34 (by decide +kernel) dX3_rank_11 dX3_rank_14 dX3_rank_15 dX3_rank_17 dX3_rank_20 (by decide +kernel) (Nat.le_of_ble_eq_true rfl) (Nat.le_of_ble_eq_true rfl) (Nat.le_of_ble_eq_true rfl) (by omega) (by omega)
