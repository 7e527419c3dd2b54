theorem not_lt1 {n : Nat} (h : n ≤ 6) (h1 : ¬ nI n = 0) : ¬ nI n < 1 := fun q => by
  have := (nI_ltI (by omega) (by omega) (b := 1)).mp q
  have : n = 0 := by omega
  subst this
  exact h1 rfl
set_option maxHeartbeats 4000000 in
set_option maxRecDepth 100000 in
theorem m_X5_boatTold (l : Launch) {D : va_G} {cI cJ cB : ClassId} {t0 z : Nat} {tx ad : Nat → Nat} {L : List Nat} {E : Nat → va_E} {th : Int32} {w p g : Nat → Int32} {nw n T : Nat} {str : Nat → Int32} {S : Nat → Nat → Int32} (hMS : mm cI ad E th w p g nw n T str S) (hMm : ∀ k, (50 ≤ k ∧ k < 55) ∨ (60 ≤ k ∧ k < 71) ∨ (80 ≤ k ∧ k < 91) → k ∈ L) (hNW : nw ≤ 6) (hN6 : n ≤ 6) (hTb : T < 2 ^ 30) (hrv : okr w p nw) (hok : ∀ q, q < n → okb (mb S str q)) (h99 : 99 ∉ L) {u v : Nat} (hu6 : u < 6) (hv : v ≤ 8) : Met l yX5_boatTold wsX5_boatTold ({ frames := 2, cells := 1, slots := 9, locals := 42 } : Room) (va_Pc [.ref (ad 50), .int (nI u), .int (nI v)] (fPre D cI cJ cB t0 z tx ad L E)) (va_Qi (fun (r : Int32) (E1 : Nat → va_E) => r = p_fact (mb S str u) v ∧ E1 = E) (fB D z ad L) (fA z)) 1 9 (fA z) := by
  refine f_ofW (cc := cX5_boatTold) (maxL := 4) (ret := some .int) (by decide) rfl (Nat.le_of_ble_eq_true rfl) ?_
  intro pr e s m args below meth c Q hx hb hr hml hts hown hlocks hin hG H locs hI hQ ls hl
  have hl : lv_has ls 4 [(0, .ref (ad 50)), (1, .int (nI u)), (2, .int (nI v))] := hl
  obtain ⟨hM, hS, Ta, Sa, hTa, hA⟩ := id hMS
  refine lv_bipush (v := 9) hx hb dX5_boatTold_0 (by decide) ?_
  refine f_newi (k := 99) (N := 9) hx hb (hts (.arrayClass .int) (by decide +kernel)) hG.1 hI (fG_A hG) (by decide) (by decide) (by decide) h99 (Nat.le_of_ble_eq_true rfl) (Nat.le_of_ble_eq_true rfl) dX5_boatTold_2 (fun aN ad1 E1 H hadk hadr hE9 hEr hI => ?_)
  have hM := (hM.kept (fun q h1 h2 => hEr q (by omega))).ad hadr
  have hS := (hS.kept (fun q h1 h2 => hEr q (by omega))).ad (by decide) hadr
  have hA := (hA.kept (fun q h1 h2 => hEr q (by omega))).ad (by decide) hadr
  have hm50 : ad1 50 = ad 50 := hadr 50 (by decide)
  have hMm : ∀ k, (50 ≤ k ∧ k < 55) ∨ (60 ≤ k ∧ k < 71) ∨ (80 ≤ k ∧ k < 91) → k ∈ L ++ [99] := fun k h1 => List.mem_append_left _ (hMm k h1)
  refine lv_dup hx hb dX5_boatTold_4 rfl ?_
  refine lv_iconst (v := 0) hx hb dX5_boatTold_5 (by decide) ?_
  refine lv_aload_n hx hb dX5_boatTold_6 rfl (lv_at hl 0 rfl) ?_
  refine f_get (ci := 5) (v := .ref (ad1 60)) (C := RX5) (T := TX5) (N := 9) hx hb hts (by decide +kernel) hown hG.1 hI hm50 (hMm _ (by omega)) (hM.1) rfl 7 (by decide) (hts (.fieldLink RX5 27 "CoracleRaceModel" "s" "LCoracleRaceModel$State;") (by decide +kernel)) rfl dX5_boatTold_7 ?_
  refine f_getN (ci := 4) (v := .ref (ad1 (60 + 1 + 0))) (C := RX4) (T := TX4) (N := 12) hx hb hts (by decide +kernel) hown hG.1 hI rfl (hMm _ (by omega)) (hS.1) rfl 1 (by decide) (hG.2.1 (.fieldLinkNest RX5 84 RX4 "place" "[I" RX5) (by simp [fNest])) rfl dX5_boatTold_10 ?_
  refine lv_iload_n hx hb dX5_boatTold_13 rfl (lv_at hl 1 rfl) ?_
  refine f_iald hx hb hG.1 hI rfl (hMm _ (by omega)) (hS.2 0 (by decide)) (vp_in_nI (by omega) (by omega)) dX5_boatTold_14 ?_
  rw [show (nI u).toNatClampNeg = u from nI_clamp (by omega)]
  refine f_iast hx hb hG.1 hI hadk (List.mem_append_right _ (List.mem_singleton.mpr rfl)) hE9 (vp_in_iff.mpr ⟨by decide, by decide⟩) dX5_boatTold_15 (fun E1 H locs hE2 hn3 hI => ?_)
  have hE9 : E1 99 = .inl (cI, 9, .inl (upd (fun _ => 0) 0 ((S 0) u))) := hE2
  have hM := hM.kept (fun q h1 h2 => hn3 q (by omega))
  have hS := hS.kept (fun q h1 h2 => hn3 q (by omega))
  have hA := hA.kept (fun q h1 h2 => hn3 q (by omega))
  have hEr : ∀ q : Nat, q ≠ 99 → E1 q = E q := fun q hq => (hn3 q hq).trans (hEr q hq)
  refine lv_dup hx hb dX5_boatTold_16 rfl ?_
  refine lv_iconst (v := 1) hx hb dX5_boatTold_17 (by decide) ?_
  refine lv_aload_n hx hb dX5_boatTold_18 rfl (lv_at hl 0 rfl) ?_
  refine f_get (ci := 5) (v := .ref (ad1 60)) (C := RX5) (T := TX5) (N := 9) hx hb hts (by decide +kernel) hown hG.1 hI hm50 (hMm _ (by omega)) (hM.1) rfl 7 (by decide) (hts (.fieldLink RX5 27 "CoracleRaceModel" "s" "LCoracleRaceModel$State;") (by decide +kernel)) rfl dX5_boatTold_19 ?_
  refine f_getN (ci := 4) (v := .ref (ad1 (60 + 1 + 1))) (C := RX4) (T := TX4) (N := 12) hx hb hts (by decide +kernel) hown hG.1 hI rfl (hMm _ (by omega)) (hS.1) rfl 2 (by decide) (hG.2.1 (.fieldLinkNest RX5 52 RX4 "lane" "[I" RX5) (by simp [fNest])) rfl dX5_boatTold_22 ?_
  refine lv_iload_n hx hb dX5_boatTold_25 rfl (lv_at hl 1 rfl) ?_
  refine f_iald hx hb hG.1 hI rfl (hMm _ (by omega)) (hS.2 1 (by decide)) (vp_in_nI (by omega) (by omega)) dX5_boatTold_26 ?_
  rw [show (nI u).toNatClampNeg = u from nI_clamp (by omega)]
  refine f_iast hx hb hG.1 hI hadk (List.mem_append_right _ (List.mem_singleton.mpr rfl)) hE9 (vp_in_iff.mpr ⟨by decide, by decide⟩) dX5_boatTold_27 (fun E4 H locs hE5 hn6 hI => ?_)
  have hE9 : E4 99 = .inl (cI, 9, .inl (upd (upd (fun _ => 0) 0 ((S 0) u)) 1 ((S 1) u))) := hE5
  have hM := hM.kept (fun q h1 h2 => hn6 q (by omega))
  have hS := hS.kept (fun q h1 h2 => hn6 q (by omega))
  have hA := hA.kept (fun q h1 h2 => hn6 q (by omega))
  have hEr : ∀ q : Nat, q ≠ 99 → E4 q = E q := fun q hq => (hn6 q hq).trans (hEr q hq)
  refine lv_dup hx hb dX5_boatTold_28 rfl ?_
  refine lv_iconst (v := 2) hx hb dX5_boatTold_29 (by decide) ?_
  refine lv_aload_n hx hb dX5_boatTold_30 rfl (lv_at hl 0 rfl) ?_
  refine f_get (ci := 5) (v := .ref (ad1 60)) (C := RX5) (T := TX5) (N := 9) hx hb hts (by decide +kernel) hown hG.1 hI hm50 (hMm _ (by omega)) (hM.1) rfl 7 (by decide) (hts (.fieldLink RX5 27 "CoracleRaceModel" "s" "LCoracleRaceModel$State;") (by decide +kernel)) rfl dX5_boatTold_31 ?_
  refine f_getN (ci := 4) (v := .ref (ad1 (60 + 1 + 2))) (C := RX4) (T := TX4) (N := 12) hx hb hts (by decide +kernel) hown hG.1 hI rfl (hMm _ (by omega)) (hS.1) rfl 3 (by decide) (hG.2.1 (.fieldLinkNest RX5 87 RX4 "heads" "[I" RX5) (by simp [fNest])) rfl dX5_boatTold_34 ?_
  refine lv_iload_n hx hb dX5_boatTold_37 rfl (lv_at hl 1 rfl) ?_
  refine f_iald hx hb hG.1 hI rfl (hMm _ (by omega)) (hS.2 2 (by decide)) (vp_in_nI (by omega) (by omega)) dX5_boatTold_38 ?_
  rw [show (nI u).toNatClampNeg = u from nI_clamp (by omega)]
  refine f_iast hx hb hG.1 hI hadk (List.mem_append_right _ (List.mem_singleton.mpr rfl)) hE9 (vp_in_iff.mpr ⟨by decide, by decide⟩) dX5_boatTold_39 (fun E7 H locs hE8 hn9 hI => ?_)
  have hE9 : E7 99 = .inl (cI, 9, .inl (upd (upd (upd (fun _ => 0) 0 ((S 0) u)) 1 ((S 1) u)) 2 ((S 2) u))) := hE8
  have hM := hM.kept (fun q h1 h2 => hn9 q (by omega))
  have hS := hS.kept (fun q h1 h2 => hn9 q (by omega))
  have hA := hA.kept (fun q h1 h2 => hn9 q (by omega))
  have hEr : ∀ q : Nat, q ≠ 99 → E7 q = E q := fun q hq => (hn9 q hq).trans (hEr q hq)
  refine lv_dup hx hb dX5_boatTold_40 rfl ?_
  refine lv_iconst (v := 3) hx hb dX5_boatTold_41 (by decide) ?_
  refine lv_aload_n hx hb dX5_boatTold_42 rfl (lv_at hl 0 rfl) ?_
  refine f_get (ci := 5) (v := .ref (ad1 60)) (C := RX5) (T := TX5) (N := 9) hx hb hts (by decide +kernel) hown hG.1 hI hm50 (hMm _ (by omega)) (hM.1) rfl 7 (by decide) (hts (.fieldLink RX5 27 "CoracleRaceModel" "s" "LCoracleRaceModel$State;") (by decide +kernel)) rfl dX5_boatTold_43 ?_
  refine f_getN (ci := 4) (v := .ref (ad1 (60 + 1 + 3))) (C := RX4) (T := TX4) (N := 12) hx hb hts (by decide +kernel) hown hG.1 hI rfl (hMm _ (by omega)) (hS.1) rfl 4 (by decide) (hG.2.1 (.fieldLinkNest RX5 78 RX4 "soaked" "[I" RX5) (by simp [fNest])) rfl dX5_boatTold_46 ?_
  refine lv_iload_n hx hb dX5_boatTold_49 rfl (lv_at hl 1 rfl) ?_
  refine f_iald hx hb hG.1 hI rfl (hMm _ (by omega)) (hS.2 3 (by decide)) (vp_in_nI (by omega) (by omega)) dX5_boatTold_50 ?_
  rw [show (nI u).toNatClampNeg = u from nI_clamp (by omega)]
  refine f_iast hx hb hG.1 hI hadk (List.mem_append_right _ (List.mem_singleton.mpr rfl)) hE9 (vp_in_iff.mpr ⟨by decide, by decide⟩) dX5_boatTold_51 (fun E10 H locs hE11 hn12 hI => ?_)
  have hE9 : E10 99 = .inl (cI, 9, .inl (upd (upd (upd (upd (fun _ => 0) 0 ((S 0) u)) 1 ((S 1) u)) 2 ((S 2) u)) 3 ((S 3) u))) := hE11
  have hM := hM.kept (fun q h1 h2 => hn12 q (by omega))
  have hS := hS.kept (fun q h1 h2 => hn12 q (by omega))
  have hA := hA.kept (fun q h1 h2 => hn12 q (by omega))
  have hEr : ∀ q : Nat, q ≠ 99 → E10 q = E q := fun q hq => (hn12 q hq).trans (hEr q hq)
  refine lv_dup hx hb dX5_boatTold_52 rfl ?_
  refine lv_iconst (v := 4) hx hb dX5_boatTold_53 (by decide) ?_
  refine lv_aload_n hx hb dX5_boatTold_54 rfl (lv_at hl 0 rfl) ?_
  refine f_get (ci := 5) (v := .ref (ad1 60)) (C := RX5) (T := TX5) (N := 9) hx hb hts (by decide +kernel) hown hG.1 hI hm50 (hMm _ (by omega)) (hM.1) rfl 7 (by decide) (hts (.fieldLink RX5 27 "CoracleRaceModel" "s" "LCoracleRaceModel$State;") (by decide +kernel)) rfl dX5_boatTold_55 ?_
  refine f_getN (ci := 4) (v := .ref (ad1 (60 + 1 + 4))) (C := RX4) (T := TX4) (N := 12) hx hb hts (by decide +kernel) hown hG.1 hI rfl (hMm _ (by omega)) (hS.1) rfl 5 (by decide) (hG.2.1 (.fieldLinkNest RX5 81 RX4 "fouls" "[I" RX5) (by simp [fNest])) rfl dX5_boatTold_58 ?_
  refine lv_iload_n hx hb dX5_boatTold_61 rfl (lv_at hl 1 rfl) ?_
  refine f_iald hx hb hG.1 hI rfl (hMm _ (by omega)) (hS.2 4 (by decide)) (vp_in_nI (by omega) (by omega)) dX5_boatTold_62 ?_
  rw [show (nI u).toNatClampNeg = u from nI_clamp (by omega)]
  refine f_iast hx hb hG.1 hI hadk (List.mem_append_right _ (List.mem_singleton.mpr rfl)) hE9 (vp_in_iff.mpr ⟨by decide, by decide⟩) dX5_boatTold_63 (fun E13 H locs hE14 hn15 hI => ?_)
  have hE9 : E13 99 = .inl (cI, 9, .inl (upd (upd (upd (upd (upd (fun _ => 0) 0 ((S 0) u)) 1 ((S 1) u)) 2 ((S 2) u)) 3 ((S 3) u)) 4 ((S 4) u))) := hE14
  have hM := hM.kept (fun q h1 h2 => hn15 q (by omega))
  have hS := hS.kept (fun q h1 h2 => hn15 q (by omega))
  have hA := hA.kept (fun q h1 h2 => hn15 q (by omega))
  have hEr : ∀ q : Nat, q ≠ 99 → E13 q = E q := fun q hq => (hn15 q hq).trans (hEr q hq)
  refine lv_dup hx hb dX5_boatTold_64 rfl ?_
  refine lv_iconst (v := 5) hx hb dX5_boatTold_65 (by decide) ?_
  refine lv_aload_n hx hb dX5_boatTold_66 rfl (lv_at hl 0 rfl) ?_
  refine f_get (ci := 5) (v := .ref (ad1 60)) (C := RX5) (T := TX5) (N := 9) hx hb hts (by decide +kernel) hown hG.1 hI hm50 (hMm _ (by omega)) (hM.1) rfl 7 (by decide) (hts (.fieldLink RX5 27 "CoracleRaceModel" "s" "LCoracleRaceModel$State;") (by decide +kernel)) rfl dX5_boatTold_67 ?_
  refine lv_iload_n hx hb dX5_boatTold_70 rfl (lv_at hl 1 rfl) ?_
  refine f_calli1 (va_runV (As := [.int (nI u)]) (rest := [.int 5, .ref aN, .ref aN]) ⟨hx, hb, hml, hown, hts⟩ (m_X4_isIn l (sb := 60) rfl (by decide) (fun k h1 h2 => hMm k (by omega)) (by omega) (u := u) (by omega) hS) (cwV 1 hts gX5_boatTold_X4_isIn rfl rfl rfl (by decide +kernel) ⟨Nat.le_of_ble_eq_true rfl, Nat.le_of_ble_eq_true rfl⟩) (fPre_ofV hG hI rfl (hMm _ (by omega)) (hS.1) rfl rfl) rfl rfl hl.1 rfl (lv_room (Nat.le_of_ble_eq_true rfl)) dX5_boatTold_71 ⟨Nat.le_of_ble_eq_true rfl, Nat.le_of_ble_eq_true rfl⟩) hI (fun r16 E17 H locs hp hI => ?_)
  obtain ⟨he, hq⟩ := hp
  rw [hq] at hI
  refine lv_if_eq (tgt := 81) hx hb dX5_boatTold_74 (by decide) (fun c_74 => ?_) (fun c_74 => ?_)
  · have p_74 := bl_f he c_74
    have q_74 := Decidable.not_not.mp p_74
    refine lv_iconst (v := 0) hx hb dX5_boatTold_81 (by decide) ?_
    have h5 : (0 : Int32) = p_fact (mb S str u) 5 := by simp [p_fact, mb_8, q_74]
    refine f_iast hx hb hG.1 hI hadk (List.mem_append_right _ (List.mem_singleton.mpr rfl)) hE9 (vp_in_iff.mpr ⟨by decide, by decide⟩) dX5_boatTold_82 (fun E18 H locs hE19 hn20 hI => ?_)
    have hE9 : E18 99 = .inl (cI, 9, .inl (upd (upd (upd (upd (upd (upd (fun _ => 0) 0 ((S 0) u)) 1 ((S 1) u)) 2 ((S 2) u)) 3 ((S 3) u)) 4 ((S 4) u)) 5 0)) := hE19
    have hM := hM.kept (fun q h1 h2 => hn20 q (by omega))
    have hS := hS.kept (fun q h1 h2 => hn20 q (by omega))
    have hA := hA.kept (fun q h1 h2 => hn20 q (by omega))
    have hEr : ∀ q : Nat, q ≠ 99 → E18 q = E q := fun q hq => (hn20 q hq).trans (hEr q hq)
    refine lv_dup hx hb dX5_boatTold_83 rfl ?_
    refine lv_bipush (v := 6) hx hb dX5_boatTold_84 (by decide) ?_
    refine lv_aload_n hx hb dX5_boatTold_86 rfl (lv_at hl 0 rfl) ?_
    refine f_get (ci := 5) (v := .ref (ad1 60)) (C := RX5) (T := TX5) (N := 9) hx hb hts (by decide +kernel) hown hG.1 hI hm50 (hMm _ (by omega)) (hM.1) rfl 7 (by decide) (hts (.fieldLink RX5 27 "CoracleRaceModel" "s" "LCoracleRaceModel$State;") (by decide +kernel)) rfl dX5_boatTold_87 ?_
    refine lv_iload_n hx hb dX5_boatTold_90 rfl (lv_at hl 1 rfl) ?_
    refine f_calli1 (va_runV (As := [.int (nI u)]) (rest := [.int 6, .ref aN, .ref aN]) ⟨hx, hb, hml, hown, hts⟩ (m_X4_time l (sb := 60) rfl (by decide) (fun k h1 h2 => hMm k (by omega)) (by omega) (u := u) (by omega) hS) (cwV 1 hts gX5_boatTold_X4_time rfl rfl rfl (by decide +kernel) ⟨Nat.le_of_ble_eq_true rfl, Nat.le_of_ble_eq_true rfl⟩) (fPre_ofV hG hI rfl (hMm _ (by omega)) (hS.1) rfl rfl) rfl rfl hl.1 rfl (lv_room (Nat.le_of_ble_eq_true rfl)) dX5_boatTold_91 ⟨Nat.le_of_ble_eq_true rfl, Nat.le_of_ble_eq_true rfl⟩) hI (fun r21 E22 H locs hp hI => ?_)
    obtain ⟨he, hq⟩ := hp
    rw [hq] at hI
    have he : r21 = (m_time S u) := he
    subst he
    refine f_iast hx hb hG.1 hI hadk (List.mem_append_right _ (List.mem_singleton.mpr rfl)) hE9 (vp_in_iff.mpr ⟨by decide, by decide⟩) dX5_boatTold_94 (fun E23 H locs hE24 hn25 hI => ?_)
    have hE9 : E23 99 = .inl (cI, 9, .inl (upd (upd (upd (upd (upd (upd (upd (fun _ => 0) 0 ((S 0) u)) 1 ((S 1) u)) 2 ((S 2) u)) 3 ((S 3) u)) 4 ((S 4) u)) 5 0) 6 (m_time S u))) := hE24
    have hM := hM.kept (fun q h1 h2 => hn25 q (by omega))
    have hS := hS.kept (fun q h1 h2 => hn25 q (by omega))
    have hA := hA.kept (fun q h1 h2 => hn25 q (by omega))
    have hEr : ∀ q : Nat, q ≠ 99 → E23 q = E q := fun q hq => (hn25 q hq).trans (hEr q hq)
    refine lv_dup hx hb dX5_boatTold_95 rfl ?_
    refine lv_bipush (v := 7) hx hb dX5_boatTold_96 (by decide) ?_
    refine lv_aload_n hx hb dX5_boatTold_98 rfl (lv_at hl 0 rfl) ?_
    refine f_get (ci := 5) (v := .ref (ad1 60)) (C := RX5) (T := TX5) (N := 9) hx hb hts (by decide +kernel) hown hG.1 hI hm50 (hMm _ (by omega)) (hM.1) rfl 7 (by decide) (hts (.fieldLink RX5 27 "CoracleRaceModel" "s" "LCoracleRaceModel$State;") (by decide +kernel)) rfl dX5_boatTold_99 ?_
    refine f_getN (ci := 4) (v := .ref (ad1 (60 + 1 + 6))) (C := RX4) (T := TX4) (N := 12) hx hb hts (by decide +kernel) hown hG.1 hI rfl (hMm _ (by omega)) (hS.1) rfl 7 (by decide) (hG.2.1 (.fieldLinkNest RX5 93 RX4 "spins" "[I" RX5) (by simp [fNest])) rfl dX5_boatTold_102 ?_
    refine lv_iload_n hx hb dX5_boatTold_105 rfl (lv_at hl 1 rfl) ?_
    refine f_iald hx hb hG.1 hI rfl (hMm _ (by omega)) (hS.2 6 (by decide)) (vp_in_nI (by omega) (by omega)) dX5_boatTold_106 ?_
    rw [show (nI u).toNatClampNeg = u from nI_clamp (by omega)]
    refine f_iast hx hb hG.1 hI hadk (List.mem_append_right _ (List.mem_singleton.mpr rfl)) hE9 (vp_in_iff.mpr ⟨by decide, by decide⟩) dX5_boatTold_107 (fun E26 H locs hE27 hn28 hI => ?_)
    have hE9 : E26 99 = .inl (cI, 9, .inl (upd (upd (upd (upd (upd (upd (upd (upd (fun _ => 0) 0 ((S 0) u)) 1 ((S 1) u)) 2 ((S 2) u)) 3 ((S 3) u)) 4 ((S 4) u)) 5 0) 6 (m_time S u)) 7 ((S 6) u))) := hE27
    have hM := hM.kept (fun q h1 h2 => hn28 q (by omega))
    have hS := hS.kept (fun q h1 h2 => hn28 q (by omega))
    have hA := hA.kept (fun q h1 h2 => hn28 q (by omega))
    have hEr : ∀ q : Nat, q ≠ 99 → E26 q = E q := fun q hq => (hn28 q hq).trans (hEr q hq)
    refine lv_dup hx hb dX5_boatTold_108 rfl ?_
    refine lv_bipush (v := 8) hx hb dX5_boatTold_109 (by decide) ?_
    refine lv_aload_n hx hb dX5_boatTold_111 rfl (lv_at hl 0 rfl) ?_
    refine f_get (ci := 5) (v := .ref (ad1 60)) (C := RX5) (T := TX5) (N := 9) hx hb hts (by decide +kernel) hown hG.1 hI hm50 (hMm _ (by omega)) (hM.1) rfl 7 (by decide) (hts (.fieldLink RX5 27 "CoracleRaceModel" "s" "LCoracleRaceModel$State;") (by decide +kernel)) rfl dX5_boatTold_112 ?_
    refine f_getN (ci := 4) (v := .ref (ad1 (60 + 1 + 7))) (C := RX4) (T := TX4) (N := 12) hx hb hts (by decide +kernel) hown hG.1 hI rfl (hMm _ (by omega)) (hS.1) rfl 8 (by decide) (hG.2.1 (.fieldLinkNest RX5 96 RX4 "stops" "[I" RX5) (by simp [fNest])) rfl dX5_boatTold_115 ?_
    refine lv_iload_n hx hb dX5_boatTold_118 rfl (lv_at hl 1 rfl) ?_
    refine f_iald hx hb hG.1 hI rfl (hMm _ (by omega)) (hS.2 7 (by decide)) (vp_in_nI (by omega) (by omega)) dX5_boatTold_119 ?_
    rw [show (nI u).toNatClampNeg = u from nI_clamp (by omega)]
    refine f_iast hx hb hG.1 hI hadk (List.mem_append_right _ (List.mem_singleton.mpr rfl)) hE9 (vp_in_iff.mpr ⟨by decide, by decide⟩) dX5_boatTold_120 (fun E29 H locs hE30 hn31 hI => ?_)
    have hE9 : E29 99 = .inl (cI, 9, .inl (upd (upd (upd (upd (upd (upd (upd (upd (upd (fun _ => 0) 0 ((S 0) u)) 1 ((S 1) u)) 2 ((S 2) u)) 3 ((S 3) u)) 4 ((S 4) u)) 5 0) 6 (m_time S u)) 7 ((S 6) u)) 8 ((S 7) u))) := hE30
    have hM := hM.kept (fun q h1 h2 => hn31 q (by omega))
    have hS := hS.kept (fun q h1 h2 => hn31 q (by omega))
    have hA := hA.kept (fun q h1 h2 => hn31 q (by omega))
    have hEr : ∀ q : Nat, q ≠ 99 → E29 q = E q := fun q hq => (hn31 q hq).trans (hEr q hq)
    refine lv_astore_n (lv' := [(3, .ref aN), (0, .ref (ad 50)), (1, .int (nI u)), (2, .int (nI v))]) hx hb dX5_boatTold_121 rfl hl (by decide) rfl (fun ls hl => ?_)
    refine lv_aload_n hx hb dX5_boatTold_122 rfl (lv_at hl 0 rfl) ?_
    refine lv_iload_n hx hb dX5_boatTold_123 rfl (lv_at hl 3 rfl) ?_
    refine f_iald hx hb hG.1 hI hadk (List.mem_append_right _ (List.mem_singleton.mpr rfl)) hE9 (vp_in_nI (by omega) (by omega)) dX5_boatTold_124 ?_
    exact f_reti hQ hx hb hr hlocks hI.2.2 (by omega) (by omega) dX5_boatTold_125 E (fB_of (fI_sub hI (fun q hq => hadr q (fun e => h99 (e ▸ hq))) (fun q hq => hEr q (fun e => h99 (e ▸ hq))))) (⟨by rw [nI_clamp (by omega)]; rcases (show v = 0 ∨ v = 1 ∨ v = 2 ∨ v = 3 ∨ v = 4 ∨ v = 5 ∨ v = 6 ∨ v = 7 ∨ v = 8 by omega) with rfl | rfl | rfl | rfl | rfl | rfl | rfl | rfl | rfl <;> first | rfl | exact h5 | exact (m_time_mb S str u).symm, rfl⟩)
  · have p_74 := bl_t he c_74
    refine lv_iconst (v := 1) hx hb dX5_boatTold_77 (by decide) ?_
    refine lv_goto (tgt := 82) hx hb dX5_boatTold_78 (by decide) ?_
    have h5 : (1 : Int32) = p_fact (mb S str u) 5 := by simp [p_fact, mb_8, p_74]
    refine f_iast hx hb hG.1 hI hadk (List.mem_append_right _ (List.mem_singleton.mpr rfl)) hE9 (vp_in_iff.mpr ⟨by decide, by decide⟩) dX5_boatTold_82 (fun E32 H locs hE33 hn34 hI => ?_)
    have hE9 : E32 99 = .inl (cI, 9, .inl (upd (upd (upd (upd (upd (upd (fun _ => 0) 0 ((S 0) u)) 1 ((S 1) u)) 2 ((S 2) u)) 3 ((S 3) u)) 4 ((S 4) u)) 5 1)) := hE33
    have hM := hM.kept (fun q h1 h2 => hn34 q (by omega))
    have hS := hS.kept (fun q h1 h2 => hn34 q (by omega))
    have hA := hA.kept (fun q h1 h2 => hn34 q (by omega))
    have hEr : ∀ q : Nat, q ≠ 99 → E32 q = E q := fun q hq => (hn34 q hq).trans (hEr q hq)
    refine lv_dup hx hb dX5_boatTold_83 rfl ?_
    refine lv_bipush (v := 6) hx hb dX5_boatTold_84 (by decide) ?_
    refine lv_aload_n hx hb dX5_boatTold_86 rfl (lv_at hl 0 rfl) ?_
    refine f_get (ci := 5) (v := .ref (ad1 60)) (C := RX5) (T := TX5) (N := 9) hx hb hts (by decide +kernel) hown hG.1 hI hm50 (hMm _ (by omega)) (hM.1) rfl 7 (by decide) (hts (.fieldLink RX5 27 "CoracleRaceModel" "s" "LCoracleRaceModel$State;") (by decide +kernel)) rfl dX5_boatTold_87 ?_
    refine lv_iload_n hx hb dX5_boatTold_90 rfl (lv_at hl 1 rfl) ?_
    refine f_calli1 (va_runV (As := [.int (nI u)]) (rest := [.int 6, .ref aN, .ref aN]) ⟨hx, hb, hml, hown, hts⟩ (m_X4_time l (sb := 60) rfl (by decide) (fun k h1 h2 => hMm k (by omega)) (by omega) (u := u) (by omega) hS) (cwV 1 hts gX5_boatTold_X4_time rfl rfl rfl (by decide +kernel) ⟨Nat.le_of_ble_eq_true rfl, Nat.le_of_ble_eq_true rfl⟩) (fPre_ofV hG hI rfl (hMm _ (by omega)) (hS.1) rfl rfl) rfl rfl hl.1 rfl (lv_room (Nat.le_of_ble_eq_true rfl)) dX5_boatTold_91 ⟨Nat.le_of_ble_eq_true rfl, Nat.le_of_ble_eq_true rfl⟩) hI (fun r35 E36 H locs hp hI => ?_)
    obtain ⟨he, hq⟩ := hp
    rw [hq] at hI
    have he : r35 = (m_time S u) := he
    subst he
    refine f_iast hx hb hG.1 hI hadk (List.mem_append_right _ (List.mem_singleton.mpr rfl)) hE9 (vp_in_iff.mpr ⟨by decide, by decide⟩) dX5_boatTold_94 (fun E37 H locs hE38 hn39 hI => ?_)
    have hE9 : E37 99 = .inl (cI, 9, .inl (upd (upd (upd (upd (upd (upd (upd (fun _ => 0) 0 ((S 0) u)) 1 ((S 1) u)) 2 ((S 2) u)) 3 ((S 3) u)) 4 ((S 4) u)) 5 1) 6 (m_time S u))) := hE38
    have hM := hM.kept (fun q h1 h2 => hn39 q (by omega))
    have hS := hS.kept (fun q h1 h2 => hn39 q (by omega))
    have hA := hA.kept (fun q h1 h2 => hn39 q (by omega))
    have hEr : ∀ q : Nat, q ≠ 99 → E37 q = E q := fun q hq => (hn39 q hq).trans (hEr q hq)
    refine lv_dup hx hb dX5_boatTold_95 rfl ?_
    refine lv_bipush (v := 7) hx hb dX5_boatTold_96 (by decide) ?_
    refine lv_aload_n hx hb dX5_boatTold_98 rfl (lv_at hl 0 rfl) ?_
    refine f_get (ci := 5) (v := .ref (ad1 60)) (C := RX5) (T := TX5) (N := 9) hx hb hts (by decide +kernel) hown hG.1 hI hm50 (hMm _ (by omega)) (hM.1) rfl 7 (by decide) (hts (.fieldLink RX5 27 "CoracleRaceModel" "s" "LCoracleRaceModel$State;") (by decide +kernel)) rfl dX5_boatTold_99 ?_
    refine f_getN (ci := 4) (v := .ref (ad1 (60 + 1 + 6))) (C := RX4) (T := TX4) (N := 12) hx hb hts (by decide +kernel) hown hG.1 hI rfl (hMm _ (by omega)) (hS.1) rfl 7 (by decide) (hG.2.1 (.fieldLinkNest RX5 93 RX4 "spins" "[I" RX5) (by simp [fNest])) rfl dX5_boatTold_102 ?_
    refine lv_iload_n hx hb dX5_boatTold_105 rfl (lv_at hl 1 rfl) ?_
    refine f_iald hx hb hG.1 hI rfl (hMm _ (by omega)) (hS.2 6 (by decide)) (vp_in_nI (by omega) (by omega)) dX5_boatTold_106 ?_
    rw [show (nI u).toNatClampNeg = u from nI_clamp (by omega)]
    refine f_iast hx hb hG.1 hI hadk (List.mem_append_right _ (List.mem_singleton.mpr rfl)) hE9 (vp_in_iff.mpr ⟨by decide, by decide⟩) dX5_boatTold_107 (fun E40 H locs hE41 hn42 hI => ?_)
    have hE9 : E40 99 = .inl (cI, 9, .inl (upd (upd (upd (upd (upd (upd (upd (upd (fun _ => 0) 0 ((S 0) u)) 1 ((S 1) u)) 2 ((S 2) u)) 3 ((S 3) u)) 4 ((S 4) u)) 5 1) 6 (m_time S u)) 7 ((S 6) u))) := hE41
    have hM := hM.kept (fun q h1 h2 => hn42 q (by omega))
    have hS := hS.kept (fun q h1 h2 => hn42 q (by omega))
    have hA := hA.kept (fun q h1 h2 => hn42 q (by omega))
    have hEr : ∀ q : Nat, q ≠ 99 → E40 q = E q := fun q hq => (hn42 q hq).trans (hEr q hq)
    refine lv_dup hx hb dX5_boatTold_108 rfl ?_
    refine lv_bipush (v := 8) hx hb dX5_boatTold_109 (by decide) ?_
    refine lv_aload_n hx hb dX5_boatTold_111 rfl (lv_at hl 0 rfl) ?_
    refine f_get (ci := 5) (v := .ref (ad1 60)) (C := RX5) (T := TX5) (N := 9) hx hb hts (by decide +kernel) hown hG.1 hI hm50 (hMm _ (by omega)) (hM.1) rfl 7 (by decide) (hts (.fieldLink RX5 27 "CoracleRaceModel" "s" "LCoracleRaceModel$State;") (by decide +kernel)) rfl dX5_boatTold_112 ?_
    refine f_getN (ci := 4) (v := .ref (ad1 (60 + 1 + 7))) (C := RX4) (T := TX4) (N := 12) hx hb hts (by decide +kernel) hown hG.1 hI rfl (hMm _ (by omega)) (hS.1) rfl 8 (by decide) (hG.2.1 (.fieldLinkNest RX5 96 RX4 "stops" "[I" RX5) (by simp [fNest])) rfl dX5_boatTold_115 ?_
    refine lv_iload_n hx hb dX5_boatTold_118 rfl (lv_at hl 1 rfl) ?_
    refine f_iald hx hb hG.1 hI rfl (hMm _ (by omega)) (hS.2 7 (by decide)) (vp_in_nI (by omega) (by omega)) dX5_boatTold_119 ?_
    rw [show (nI u).toNatClampNeg = u from nI_clamp (by omega)]
    refine f_iast hx hb hG.1 hI hadk (List.mem_append_right _ (List.mem_singleton.mpr rfl)) hE9 (vp_in_iff.mpr ⟨by decide, by decide⟩) dX5_boatTold_120 (fun E43 H locs hE44 hn45 hI => ?_)
    have hE9 : E43 99 = .inl (cI, 9, .inl (upd (upd (upd (upd (upd (upd (upd (upd (upd (fun _ => 0) 0 ((S 0) u)) 1 ((S 1) u)) 2 ((S 2) u)) 3 ((S 3) u)) 4 ((S 4) u)) 5 1) 6 (m_time S u)) 7 ((S 6) u)) 8 ((S 7) u))) := hE44
    have hM := hM.kept (fun q h1 h2 => hn45 q (by omega))
    have hS := hS.kept (fun q h1 h2 => hn45 q (by omega))
    have hA := hA.kept (fun q h1 h2 => hn45 q (by omega))
    have hEr : ∀ q : Nat, q ≠ 99 → E43 q = E q := fun q hq => (hn45 q hq).trans (hEr q hq)
    refine lv_astore_n (lv' := [(3, .ref aN), (0, .ref (ad 50)), (1, .int (nI u)), (2, .int (nI v))]) hx hb dX5_boatTold_121 rfl hl (by decide) rfl (fun ls hl => ?_)
    refine lv_aload_n hx hb dX5_boatTold_122 rfl (lv_at hl 0 rfl) ?_
    refine lv_iload_n hx hb dX5_boatTold_123 rfl (lv_at hl 3 rfl) ?_
    refine f_iald hx hb hG.1 hI hadk (List.mem_append_right _ (List.mem_singleton.mpr rfl)) hE9 (vp_in_nI (by omega) (by omega)) dX5_boatTold_124 ?_
    exact f_reti hQ hx hb hr hlocks hI.2.2 (by omega) (by omega) dX5_boatTold_125 E (fB_of (fI_sub hI (fun q hq => hadr q (fun e => h99 (e ▸ hq))) (fun q hq => hEr q (fun e => h99 (e ▸ hq))))) (⟨by rw [nI_clamp (by omega)]; rcases (show v = 0 ∨ v = 1 ∨ v = 2 ∨ v = 3 ∨ v = 4 ∨ v = 5 ∨ v = 6 ∨ v = 7 ∨ v = 8 by omega) with rfl | rfl | rfl | rfl | rfl | rfl | rfl | rfl | rfl <;> first | rfl | exact h5 | exact (m_time_mb S str u).symm, rfl⟩)

set_option maxHeartbeats 4000000 in
set_option maxRecDepth 100000 in
theorem m_X5_boat (l : Launch) {D : va_G} {cI cJ cB : ClassId} {t0 z : Nat} {tx ad : Nat → Nat} {L : List Nat} {E : Nat → va_E} {th : Int32} {w p g : Nat → Int32} {nw n T : Nat} {str : Nat → Int32} {S : Nat → Nat → Int32} (hMS : mm cI ad E th w p g nw n T str S) (hMm : ∀ k, (50 ≤ k ∧ k < 55) ∨ (60 ≤ k ∧ k < 71) ∨ (80 ≤ k ∧ k < 91) → k ∈ L) (hNW : nw ≤ 6) (hN6 : n ≤ 6) (hTb : T < 2 ^ 30) (hrv : okr w p nw) (hok : ∀ q, q < n → okb (mb S str q)) (h99 : 99 ∉ L) (x y : Int32) : Met l yX5_boat wsX5_boat ({ frames := 3, cells := 1, slots := 9, locals := 65 } : Room) (va_Pc [.ref (ad 50), .int x, .int y] (fPre D cI cJ cB t0 z tx ad L E)) (va_Qi (fun (r : Int32) (E1 : Nat → va_E) => (c_boat n x y = 0 ∧ r = p_fact (mb S str x.toNatClampNeg) y.toNatClampNeg ∧ mm cI ad E1 0 w p g nw n T str S ∧ ∀ q : Nat, (q < 50 ∨ 91 ≤ q) → E1 q = E q) ∨ (¬ c_boat n x y = 0 ∧ r = 0 ∧ mm cI ad E1 (c_boat n x y) w p g nw n T str S ∧ ∀ q : Nat, (q < 50 ∨ 91 ≤ q) → E1 q = E q)) (fB D z ad L) (fA z)) 1 9 (fA z) := by
  refine f_ofW (cc := cX5_boat) (maxL := 3) (ret := some .int) (by decide) rfl (Nat.le_of_ble_eq_true rfl) ?_
  intro pr e s m args below meth c Q hx hb hr hml hts hown hlocks hin hG H locs hI hQ ls hl
  have hl : lv_has ls 3 [(0, .ref (ad 50)), (1, .int x), (2, .int y)] := hl
  have hfr : ∀ q : Nat, (q < 50 ∨ 91 ≤ q) → E q = E q := fun _ _ => rfl
  obtain ⟨hM, hS, Ta, Sa, hTa, hA⟩ := id hMS
  refine lv_aload_n hx hb dX5_boat_0 rfl (lv_at hl 0 rfl) ?_
  refine lv_iconst (v := 0) hx hb dX5_boat_1 (by decide) ?_
  refine f_put (ci := 5) (v := .int 0) (C := RX5) (T := TX5) (N := 9) hx hb hts (by decide +kernel) tyX5 tyX5_ok nmX5 hown hG.1 hI rfl (hMm _ (by omega)) (hM.1) rfl 0 (by decide) (hts (.fieldLink RX5 34 "CoracleRaceModel" "thrown" "I") (by decide +kernel)) rfl rfl rfl (Nat.le_of_ble_eq_true rfl) dX5_boat_2 (fun E1 H locs hE2 hn3 hI => ?_)
  have hM := hM.top (th1 := 0) (nw1 := nw) (n1 := n) hE2 (fun q hq => hn3 q hq)
  have hS := hS.kept (fun q h1 h2 => hn3 q (by omega))
  have hA := hA.kept (fun q h1 h2 => hn3 q (by omega))
  have hfr : ∀ q : Nat, (q < 50 ∨ 91 ≤ q) → E1 q = E q := fun q hq => (hn3 q (by omega)).trans (hfr q hq)
  refine lv_aload_n hx hb dX5_boat_5 rfl (lv_at hl 0 rfl) ?_
  refine lv_iload_n hx hb dX5_boat_6 rfl (lv_at hl 1 rfl) ?_
  refine f_calli1 (va_runV (As := [.int x]) (rest := []) ⟨hx, hb, hml, hown, hts⟩ (m_X5_isBoat l (hMm _ (by decide)) hM hN6 x) (cwV 1 hts gX5_boat_X5_isBoat rfl rfl rfl (by decide +kernel) ⟨Nat.le_of_ble_eq_true rfl, Nat.le_of_ble_eq_true rfl⟩) (fPre_ofV hG hI rfl (hMm _ (by omega)) (hM.1) rfl rfl) rfl rfl hl.1 rfl (lv_room (Nat.le_of_ble_eq_true rfl)) dX5_boat_7 ⟨Nat.le_of_ble_eq_true rfl, Nat.le_of_ble_eq_true rfl⟩) hI (fun r4 E5 H locs hp hI => ?_)
  obtain ⟨he, hq⟩ := hp
  rw [hq] at hI
  refine lv_if_eq (tgt := 32) hx hb dX5_boat_10 (by decide) (fun c_10 => ?_) (fun c_10 => ?_)
  · have p_10 := bl_f he c_10
    refine lv_aload_n hx hb dX5_boat_32 rfl (lv_at hl 0 rfl) ?_
    refine lv_iconst (v := 1) hx hb dX5_boat_33 (by decide) ?_
    refine f_calli1 (va_runV (As := [.int 1]) (rest := []) ⟨hx, hb, hml, hown, hts⟩ (m_X5_no l (hMm _ (by decide)) hM 1) (cwV 1 hts gX5_boat_X5_no rfl rfl rfl (by decide +kernel) ⟨Nat.le_of_ble_eq_true rfl, Nat.le_of_ble_eq_true rfl⟩) (fPre_ofV hG hI rfl (hMm _ (by omega)) (hM.1) rfl rfl) rfl rfl hl.1 rfl (lv_room (Nat.le_of_ble_eq_true rfl)) dX5_boat_34 ⟨Nat.le_of_ble_eq_true rfl, Nat.le_of_ble_eq_true rfl⟩) hI (fun r6 E7 H locs hp hI => ?_)
    obtain ⟨he, hM, hn9⟩ := hp
    subst he
    have hS := hS.kept (fun q h1 h2 => hn9 q (by omega))
    have hA := hA.kept (fun q h1 h2 => hn9 q (by omega))
    have hfr : ∀ q : Nat, (q < 50 ∨ 91 ≤ q) → E7 q = E q := fun q hq => (hn9 q (by omega)).trans (hfr q hq)
    have hc : c_boat n x y = 1 := if_neg p_10
    exact f_reti hQ hx hb hr hlocks hI.2.2 (by omega) (by omega) dX5_boat_37 E7 (fB_of hI) (Or.inr ⟨by rw [hc]; decide, rfl, by rw [hc]; exact ⟨hM, hS, _, _, hTa, hA⟩, hfr⟩)
  · have p_10 := bl_t he c_10
    obtain ⟨u, hu, hxu⟩ := ix_nat p_10 (by omega)
    subst hxu
    have hclu : (nI u).toNatClampNeg = u := nI_clamp (by omega)
    refine lv_iload_n hx hb dX5_boat_13 rfl (lv_at hl 2 rfl) ?_
    refine lv_iconst (v := 0) hx hb dX5_boat_14 (by decide) ?_
    refine lv_bipush (v := 8) hx hb dX5_boat_15 (by decide) ?_
    refine f_calli1 (va_runS (As := [.int y, .int 0, .int 8]) (rest := []) ⟨hx, hb, hml, hown, hts⟩ (m_X5_isFrom l y 0 8) (va_cwS 3 hts gX5_boat_X5_isFrom rfl rfl rfl (by decide +kernel) ⟨Nat.le_of_ble_eq_true rfl, Nat.le_of_ble_eq_true rfl⟩) (fPre_of hG hI) rfl rfl hl.1 rfl (lv_room (Nat.le_of_ble_eq_true rfl)) dX5_boat_17 ⟨Nat.le_of_ble_eq_true rfl, Nat.le_of_ble_eq_true rfl⟩) hI (fun r8 E9 H locs hp hI => ?_)
    obtain ⟨he, hq⟩ := hp
    rw [hq] at hI
    refine lv_if_eq (tgt := 32) hx hb dX5_boat_20 (by decide) (fun c_20 => ?_) (fun c_20 => ?_)
    · have p_20 := bl_f he c_20
      refine lv_aload_n hx hb dX5_boat_32 rfl (lv_at hl 0 rfl) ?_
      refine lv_iconst (v := 1) hx hb dX5_boat_33 (by decide) ?_
      refine f_calli1 (va_runV (As := [.int 1]) (rest := []) ⟨hx, hb, hml, hown, hts⟩ (m_X5_no l (hMm _ (by decide)) hM 1) (cwV 1 hts gX5_boat_X5_no rfl rfl rfl (by decide +kernel) ⟨Nat.le_of_ble_eq_true rfl, Nat.le_of_ble_eq_true rfl⟩) (fPre_ofV hG hI rfl (hMm _ (by omega)) (hM.1) rfl rfl) rfl rfl hl.1 rfl (lv_room (Nat.le_of_ble_eq_true rfl)) dX5_boat_34 ⟨Nat.le_of_ble_eq_true rfl, Nat.le_of_ble_eq_true rfl⟩) hI (fun r10 E11 H locs hp hI => ?_)
      obtain ⟨he, hM, hn9⟩ := hp
      subst he
      have hS := hS.kept (fun q h1 h2 => hn9 q (by omega))
      have hA := hA.kept (fun q h1 h2 => hn9 q (by omega))
      have hfr : ∀ q : Nat, (q < 50 ∨ 91 ≤ q) → E11 q = E q := fun q hq => (hn9 q (by omega)).trans (hfr q hq)
      have hc : c_boat n (nI u) y = 1 := (if_pos p_10).trans (if_neg p_20)
      exact f_reti hQ hx hb hr hlocks hI.2.2 (by omega) (by omega) dX5_boat_37 E11 (fB_of hI) (Or.inr ⟨by rw [hc]; decide, rfl, by rw [hc]; exact ⟨hM, hS, _, _, hTa, hA⟩, hfr⟩)
    · have p_20 := bl_t he c_20
      obtain ⟨v, hv, hxv⟩ := le_nat (n := 8) p_20.1 p_20.2 (by omega)
      subst hxv
      have hclv : (nI v).toNatClampNeg = v := nI_clamp (by omega)
      refine lv_aload_n hx hb dX5_boat_23 rfl (lv_at hl 0 rfl) ?_
      refine lv_iload_n hx hb dX5_boat_24 rfl (lv_at hl 1 rfl) ?_
      refine lv_iload_n hx hb dX5_boat_25 rfl (lv_at hl 2 rfl) ?_
      refine f_calli1 (va_runV (As := [.int (nI u), .int (nI v)]) (rest := []) ⟨hx, hb, hml, hown, hts⟩ (m_X5_boatTold l ⟨hM, hS, _, _, hTa, hA⟩ hMm hNW hN6 hTb hrv hok h99 (u := u) (v := v) (by omega) hv) (cwV 2 hts gX5_boat_X5_boatTold rfl rfl rfl (by decide +kernel) ⟨Nat.le_of_ble_eq_true rfl, Nat.le_of_ble_eq_true rfl⟩) (fPre_ofV hG hI rfl (hMm _ (by omega)) (hM.1) rfl rfl) rfl rfl hl.1 rfl (lv_room (Nat.le_of_ble_eq_true rfl)) dX5_boat_26 ⟨Nat.le_of_ble_eq_true rfl, Nat.le_of_ble_eq_true rfl⟩) hI (fun r12 E13 H locs hp hI => ?_)
      obtain ⟨he, hq⟩ := hp
      rw [hq] at hI
      have he : r12 = (p_fact (mb S str u) v) := he
      subst he
      refine lv_goto (tgt := 37) hx hb dX5_boat_29 (by decide) ?_
      have hc : c_boat n (nI u) (nI v) = 0 := (if_pos p_10).trans (if_pos p_20)
      exact f_reti hQ hx hb hr hlocks hI.2.2 (by omega) (by omega) dX5_boat_37 E1 (fB_of hI) (Or.inl ⟨hc, (by rw [hclu, hclv]), ⟨hM, hS, _, _, hTa, hA⟩, hfr⟩)

set_option maxHeartbeats 4000000 in
set_option maxRecDepth 100000 in
theorem m_X5_count (l : Launch) {D : va_G} {cI cJ cB : ClassId} {t0 z : Nat} {tx ad : Nat → Nat} {L : List Nat} {E : Nat → va_E} {th : Int32} {w p g : Nat → Int32} {nw n T : Nat} {str : Nat → Int32} {S : Nat → Nat → Int32} (hMS : mm cI ad E th w p g nw n T str S) (hMm : ∀ k, (50 ≤ k ∧ k < 55) ∨ (60 ≤ k ∧ k < 71) ∨ (80 ≤ k ∧ k < 91) → k ∈ L) (hNW : nw ≤ 6) (hN6 : n ≤ 6) (hTb : T < 2 ^ 30) (hrv : okr w p nw) (hok : ∀ q, q < n → okb (mb S str q)) (h99 : 99 ∉ L) (x : Int32) : Met l yX5_count wsX5_count ({ frames := 3, cells := 1, slots := 7, locals := 68 } : Room) (va_Pc [.ref (ad 50), .int x] (fPre D cI cJ cB t0 z tx ad L E)) (va_Qi (fun (r : Int32) (E1 : Nat → va_E) => (c_count x = 0 ∧ r = p_cnt nw n T (mb S str) x.toNatClampNeg ∧ mm cI ad E1 0 w p g nw n T str S ∧ ∀ q : Nat, (q < 50 ∨ 91 ≤ q) → E1 q = E q) ∨ (¬ c_count x = 0 ∧ r = 0 ∧ mm cI ad E1 (c_count x) w p g nw n T str S ∧ ∀ q : Nat, (q < 50 ∨ 91 ≤ q) → E1 q = E q)) (fB D z ad L) (fA z)) 1 7 (fA z) := by
  refine f_ofW (cc := cX5_count) (maxL := 2) (ret := some .int) (by decide) rfl (Nat.le_of_ble_eq_true rfl) ?_
  intro pr e s m args below meth c Q hx hb hr hml hts hown hlocks hin hG H locs hI hQ ls hl
  have hl : lv_has ls 2 [(0, .ref (ad 50)), (1, .int x)] := hl
  have hfr : ∀ q : Nat, (q < 50 ∨ 91 ≤ q) → E q = E q := fun _ _ => rfl
  obtain ⟨hM, hS, Ta, Sa, hTa, hA⟩ := id hMS
  refine lv_aload_n hx hb dX5_count_0 rfl (lv_at hl 0 rfl) ?_
  refine lv_iconst (v := 0) hx hb dX5_count_1 (by decide) ?_
  refine f_put (ci := 5) (v := .int 0) (C := RX5) (T := TX5) (N := 9) hx hb hts (by decide +kernel) tyX5 tyX5_ok nmX5 hown hG.1 hI rfl (hMm _ (by omega)) (hM.1) rfl 0 (by decide) (hts (.fieldLink RX5 34 "CoracleRaceModel" "thrown" "I") (by decide +kernel)) rfl rfl rfl (Nat.le_of_ble_eq_true rfl) dX5_count_2 (fun E1 H locs hE2 hn3 hI => ?_)
  have hM := hM.top (th1 := 0) (nw1 := nw) (n1 := n) hE2 (fun q hq => hn3 q hq)
  have hS := hS.kept (fun q h1 h2 => hn3 q (by omega))
  have hA := hA.kept (fun q h1 h2 => hn3 q (by omega))
  have hfr : ∀ q : Nat, (q < 50 ∨ 91 ≤ q) → E1 q = E q := fun q hq => (hn3 q (by omega)).trans (hfr q hq)
  refine lv_iload_n hx hb dX5_count_5 rfl (lv_at hl 1 rfl) ?_
  refine lv_iconst (v := 0) hx hb dX5_count_6 (by decide) ?_
  refine lv_bipush (v := 6) hx hb dX5_count_7 (by decide) ?_
  refine f_calli1 (va_runS (As := [.int x, .int 0, .int 6]) (rest := []) ⟨hx, hb, hml, hown, hts⟩ (m_X5_isFrom l x 0 6) (va_cwS 3 hts gX5_count_X5_isFrom rfl rfl rfl (by decide +kernel) ⟨Nat.le_of_ble_eq_true rfl, Nat.le_of_ble_eq_true rfl⟩) (fPre_of hG hI) rfl rfl hl.1 rfl (lv_room (Nat.le_of_ble_eq_true rfl)) dX5_count_9 ⟨Nat.le_of_ble_eq_true rfl, Nat.le_of_ble_eq_true rfl⟩) hI (fun r4 E5 H locs hp hI => ?_)
  obtain ⟨he, hq⟩ := hp
  rw [hq] at hI
  refine lv_if_eq (tgt := 26) hx hb dX5_count_12 (by decide) (fun c_12 => ?_) (fun c_12 => ?_)
  · have p_12 := bl_f he c_12
    refine lv_aload_n hx hb dX5_count_26 rfl (lv_at hl 0 rfl) ?_
    refine lv_iconst (v := 1) hx hb dX5_count_27 (by decide) ?_
    refine f_calli1 (va_runV (As := [.int 1]) (rest := []) ⟨hx, hb, hml, hown, hts⟩ (m_X5_no l (hMm _ (by decide)) hM 1) (cwV 1 hts gX5_count_X5_no rfl rfl rfl (by decide +kernel) ⟨Nat.le_of_ble_eq_true rfl, Nat.le_of_ble_eq_true rfl⟩) (fPre_ofV hG hI rfl (hMm _ (by omega)) (hM.1) rfl rfl) rfl rfl hl.1 rfl (lv_room (Nat.le_of_ble_eq_true rfl)) dX5_count_28 ⟨Nat.le_of_ble_eq_true rfl, Nat.le_of_ble_eq_true rfl⟩) hI (fun r6 E7 H locs hp hI => ?_)
    obtain ⟨he, hM, hn9⟩ := hp
    subst he
    have hS := hS.kept (fun q h1 h2 => hn9 q (by omega))
    have hA := hA.kept (fun q h1 h2 => hn9 q (by omega))
    have hfr : ∀ q : Nat, (q < 50 ∨ 91 ≤ q) → E7 q = E q := fun q hq => (hn9 q (by omega)).trans (hfr q hq)
    have hc : c_count x = 1 := if_neg p_12
    exact f_reti hQ hx hb hr hlocks hI.2.2 (by omega) (by omega) dX5_count_31 E7 (fB_of hI) (Or.inr ⟨by rw [hc]; decide, rfl, by rw [hc]; exact ⟨hM, hS, _, _, hTa, hA⟩, hfr⟩)
  · have p_12 := bl_t he c_12
    obtain ⟨v, hv, hxv⟩ := le_nat (n := 6) p_12.1 p_12.2 (by omega)
    subst hxv
    have hclv : (nI v).toNatClampNeg = v := nI_clamp (by omega)
    refine lv_aload_n hx hb dX5_count_15 rfl (lv_at hl 0 rfl) ?_
    refine f_get (ci := 5) (v := .ref (ad 60)) (C := RX5) (T := TX5) (N := 9) hx hb hts (by decide +kernel) hown hG.1 hI rfl (hMm _ (by omega)) (hM.1) rfl 7 (by decide) (hts (.fieldLink RX5 27 "CoracleRaceModel" "s" "LCoracleRaceModel$State;") (by decide +kernel)) rfl dX5_count_16 ?_
    refine lv_iload_n hx hb dX5_count_19 rfl (lv_at hl 1 rfl) ?_
    refine f_calli1 (va_runV (As := [.int (nI v)]) (rest := []) ⟨hx, hb, hml, hown, hts⟩ (m_X4_counted l (sb := 60) rfl (by decide) (fun k h1 h2 => hMm k (by omega)) (by omega) hS (fun k h1 h2 => hMm k (by omega)) hM hNW hN6 (fun q hq => (hok q hq).2.2.1.1) h99 (by decide) v hv) (cwV 1 hts gX5_count_X4_counted rfl rfl rfl (by decide +kernel) ⟨Nat.le_of_ble_eq_true rfl, Nat.le_of_ble_eq_true rfl⟩) (fPre_ofV hG hI rfl (hMm _ (by omega)) (hS.1) rfl rfl) rfl rfl hl.1 rfl (lv_room (Nat.le_of_ble_eq_true rfl)) dX5_count_20 ⟨Nat.le_of_ble_eq_true rfl, Nat.le_of_ble_eq_true rfl⟩) hI (fun r8 E9 H locs hp hI => ?_)
    obtain ⟨he, hq⟩ := hp
    rw [hq] at hI
    have he : r8 = (p_cnt nw n T (mb S str) v) := he
    subst he
    refine lv_goto (tgt := 31) hx hb dX5_count_23 (by decide) ?_
    have hc : c_count (nI v) = 0 := if_pos p_12
    exact f_reti hQ hx hb hr hlocks hI.2.2 (by omega) (by omega) dX5_count_31 E1 (fB_of hI) (Or.inl ⟨hc, (by rw [hclv]), ⟨hM, hS, _, _, hTa, hA⟩, hfr⟩)

set_option maxHeartbeats 4000000 in
set_option maxRecDepth 100000 in
theorem m_X5_mean (l : Launch) {D : va_G} {cI cJ cB : ClassId} {t0 z : Nat} {tx ad : Nat → Nat} {L : List Nat} {E : Nat → va_E} {th : Int32} {w p g : Nat → Int32} {nw n T : Nat} {str : Nat → Int32} {S : Nat → Nat → Int32} (hMS : mm cI ad E th w p g nw n T str S) (hMm : ∀ k, (50 ≤ k ∧ k < 55) ∨ (60 ≤ k ∧ k < 71) ∨ (80 ≤ k ∧ k < 91) → k ∈ L) (hNW : nw ≤ 6) (hN6 : n ≤ 6) (hTb : T < 2 ^ 30) (hrv : okr w p nw) (hok : ∀ q, q < n → okb (mb S str q)) (h99 : 99 ∉ L) (hne : ¬ nI n < 1 → vf_n64 (FP.ddiv (FP.i2d (p_psum (mb S str) n)) (FP.i2d (nI n)))) : Met l yX5_mean wsX5_mean ({ frames := 0, cells := 0, slots := 0, locals := 0 } : Room) (va_Pc [.ref (ad 50)] (fPre D cI cJ cB t0 z tx ad L E)) (va_Qd (fun (r : UInt64) (E1 : Nat → va_E) => r = p_mean n (mb S str) ∧ mm cI ad E1 0 w p g nw n T str S ∧ ∀ q : Nat, (q < 50 ∨ 91 ≤ q) → E1 q = E q) (fB D z ad L) (fA z)) 0 0 (fA z) := by
  refine f_ofW (cc := cX5_mean) (maxL := 3) (ret := some .double) (by decide) rfl (Nat.le_of_ble_eq_true rfl) ?_
  intro pr e s m args below meth c Q hx hb hr hml hts hown hlocks hin hG H locs hI hQ ls hl
  have hl : lv_has ls 3 [(0, .ref (ad 50))] := hl
  have hfr : ∀ q : Nat, (q < 50 ∨ 91 ≤ q) → E q = E q := fun _ _ => rfl
  obtain ⟨hM, hS, Ta, Sa, hTa, hA⟩ := id hMS
  refine lv_aload_n hx hb dX5_mean_0 rfl (lv_at hl 0 rfl) ?_
  refine lv_iconst (v := 0) hx hb dX5_mean_1 (by decide) ?_
  refine f_put (ci := 5) (v := .int 0) (C := RX5) (T := TX5) (N := 9) hx hb hts (by decide +kernel) tyX5 tyX5_ok nmX5 hown hG.1 hI rfl (hMm _ (by omega)) (hM.1) rfl 0 (by decide) (hts (.fieldLink RX5 34 "CoracleRaceModel" "thrown" "I") (by decide +kernel)) rfl rfl rfl (Nat.le_of_ble_eq_true rfl) dX5_mean_2 (fun E1 H locs hE2 hn3 hI => ?_)
  have hM := hM.top (th1 := 0) (nw1 := nw) (n1 := n) hE2 (fun q hq => hn3 q hq)
  have hS := hS.kept (fun q h1 h2 => hn3 q (by omega))
  have hA := hA.kept (fun q h1 h2 => hn3 q (by omega))
  have hfr : ∀ q : Nat, (q < 50 ∨ 91 ≤ q) → E1 q = E q := fun q hq => (hn3 q (by omega)).trans (hfr q hq)
  refine lv_iconst (v := 0) hx hb dX5_mean_5 (by decide) ?_
  refine lv_istore_n (lv' := [(1, .int 0), (0, .ref (ad 50))]) hx hb dX5_mean_6 rfl hl (by decide) rfl (fun ls hl => ?_)
  refine lv_iconst (v := 0) hx hb dX5_mean_7 (by decide) ?_
  refine lv_istore_n (lv' := [(2, .int 0), (1, .int 0), (0, .ref (ad 50))]) hx hb dX5_mean_8 rfl hl (by decide) rfl (fun ls hl => ?_)
  have K : ∀ (k i : Nat), i ≤ n → n + 1 ≤ i + k → ∀ (H : Heap) (locs : List Loc) (ls : Array Slot), fI D (fA z) s.heap ad L E1 H locs → lv_has ls 3 [(0, .ref (ad 50)), (1, .int (p_psum (mb S str) i)), (2, .int (nI i))] → W pr l e ({ frames := 0, cells := 0, slots := 0, locals := 0 } : Room) s m args below meth c H locs 0 0 Q (F0 m 9 ls []) := by
    intro k
    induction k with
    | zero => intro i h1 h2; exact absurd h2 (by omega)
    | succ k ih =>
      intro i hi1 hi2 H locs ls hI hl
      refine lv_iload_n hx hb dX5_mean_9 rfl (lv_at hl 2 rfl) ?_
      refine lv_aload_n hx hb dX5_mean_10 rfl (lv_at hl 0 rfl) ?_
      refine f_get (ci := 5) (v := .int (nI n)) (C := RX5) (T := TX5) (N := 9) hx hb hts (by decide +kernel) hown hG.1 hI rfl (hMm _ (by omega)) (hM.1) rfl 5 (by decide) (hts (.fieldLink RX5 38 "CoracleRaceModel" "boats" "I") (by decide +kernel)) rfl dX5_mean_11 ?_
      refine lv_icmp_ge (tgt := 35) hx hb dX5_mean_14 (by decide) (fun c_14 => ?_) (fun c_14 => ?_)
      · have n_14 := i_nlt.mpr c_14
        have hi : i = n := by have := (nI_leI (by omega) (by omega)).mp c_14; omega
        rw [hi] at hl
        refine lv_aload_n hx hb dX5_mean_35 rfl (lv_at hl 0 rfl) ?_
        refine f_get (ci := 5) (v := .int (nI n)) (C := RX5) (T := TX5) (N := 9) hx hb hts (by decide +kernel) hown hG.1 hI rfl (hMm _ (by omega)) (hM.1) rfl 5 (by decide) (hts (.fieldLink RX5 38 "CoracleRaceModel" "boats" "I") (by decide +kernel)) rfl dX5_mean_36 ?_
        refine lv_if_ne (tgt := 46) hx hb dX5_mean_39 (by decide) (fun c_39 => ?_) (fun c_39 => ?_)
        · have hn1 : ¬ nI n < 1 := not_lt1 hN6 c_39
          refine lv_iload_n hx hb dX5_mean_46 rfl (lv_at hl 1 rfl) ?_
          refine lv_i2d hx hb dX5_mean_47 ?_
          refine lv_aload_n hx hb dX5_mean_48 rfl (lv_at hl 0 rfl) ?_
          refine f_get (ci := 5) (v := .int (nI n)) (C := RX5) (T := TX5) (N := 9) hx hb hts (by decide +kernel) hown hG.1 hI rfl (hMm _ (by omega)) (hM.1) rfl 5 (by decide) (hts (.fieldLink RX5 38 "CoracleRaceModel" "boats" "I") (by decide +kernel)) rfl dX5_mean_49 ?_
          refine lv_i2d hx hb dX5_mean_52 ?_
          refine lv_ddiv hx hb dX5_mean_53 (hne hn1) ?_
          exact f_retd hQ hx hb hr hlocks hI.2.2 (by omega) (by omega) dX5_mean_54 E1 (fB_of hI) (⟨(if_neg hn1).symm, ⟨hM, hS, _, _, hTa, hA⟩, hfr⟩)
        · refine lv_dconst0 hx hb dX5_mean_42 ?_
          refine lv_goto (tgt := 54) hx hb dX5_mean_43 (by decide) ?_
          exact f_retd hQ hx hb hr hlocks hI.2.2 (by omega) (by omega) dX5_mean_54 E1 (fB_of hI) (⟨(if_pos (by rw [c_39]; decide)).symm, ⟨hM, hS, _, _, hTa, hA⟩, hfr⟩)
      · have n_14 := c_14
        have c_14 := i_nle.mp n_14
        have hi : i < n := (nI_ltI (by omega) (by omega)).mp c_14
        have hcl : (nI i).toNatClampNeg = i := nI_clamp (by omega)
        refine lv_iload_n hx hb dX5_mean_17 rfl (lv_at hl 1 rfl) ?_
        refine lv_aload_n hx hb dX5_mean_18 rfl (lv_at hl 0 rfl) ?_
        refine f_get (ci := 5) (v := .ref (ad 60)) (C := RX5) (T := TX5) (N := 9) hx hb hts (by decide +kernel) hown hG.1 hI rfl (hMm _ (by omega)) (hM.1) rfl 7 (by decide) (hts (.fieldLink RX5 27 "CoracleRaceModel" "s" "LCoracleRaceModel$State;") (by decide +kernel)) rfl dX5_mean_19 ?_
        refine f_getN (ci := 4) (v := .ref (ad (60 + 1 + 0))) (C := RX4) (T := TX4) (N := 12) hx hb hts (by decide +kernel) hown hG.1 hI rfl (hMm _ (by omega)) (hS.1) rfl 1 (by decide) (hG.2.1 (.fieldLinkNest RX5 84 RX4 "place" "[I" RX5) (by simp [fNest])) rfl dX5_mean_22 ?_
        refine lv_iload_n hx hb dX5_mean_25 rfl (lv_at hl 2 rfl) ?_
        refine f_iald hx hb hG.1 hI rfl (hMm _ (by omega)) (hS.2 0 (by decide)) (vp_in_nI (by omega) (by omega)) dX5_mean_26 ?_
        rw [show (nI i).toNatClampNeg = i from nI_clamp (by omega)]
        refine lv_iadd hx hb dX5_mean_27 ?_
        refine lv_istore_n (lv' := [(1, .int ((p_psum (mb S str) i) + ((S 0) i))), (0, .ref (ad 50)), (2, .int (nI i))]) hx hb dX5_mean_28 rfl hl (by decide) rfl (fun ls hl => ?_)
        refine lv_iinc (v := (nI (i + 1))) (lv' := [(2, .int (nI (i + 1))), (1, .int ((p_psum (mb S str) i) + ((S 0) i))), (0, .ref (ad 50))]) hx hb dX5_mean_29 hl (k := 2) rfl (nI_1 i) (by decide) rfl (fun ls hl => ?_)
        refine lv_goto (tgt := 9) hx hb dX5_mean_32 (by decide) ?_
        refine ih (i + 1) (by omega) (by omega) H locs ls hI ?_
        rw [show p_psum (mb S str) (i + 1) = ((p_psum (mb S str) i) + ((S 0) i)) by first | rfl | (rw [p_psum]; simp [c_14, n_14]; done)]
        exact lv_sub hl [2, 1, 0] rfl
  exact K (n + 1) 0 (Nat.zero_le _) (by omega) H locs ls hI (lv_sub hl [2, 1, 0] rfl)

set_option maxHeartbeats 4000000 in
set_option maxRecDepth 100000 in
theorem m_X5_go (l : Launch) {D : va_G} {cI cJ cB : ClassId} {t0 z : Nat} {tx ad : Nat → Nat} {L : List Nat} {E : Nat → va_E} {th : Int32} {w p g : Nat → Int32} {nw n T : Nat} {str : Nat → Int32} {S : Nat → Nat → Int32} (hMS : mm cI ad E th w p g nw n T str S) (hMm : ∀ k, (50 ≤ k ∧ k < 55) ∨ (60 ≤ k ∧ k < 71) ∨ (80 ≤ k ∧ k < 91) → k ∈ L) (hNW : nw ≤ 6) (hN6 : n ≤ 6) (hTb : T < 2 ^ 30) (hrv : okr w p nw) (hok : ∀ q, q < n → okb (mb S str q)) (h99 : 99 ∉ L) (x : Int32) : Met l yX5_go wsX5_go ({ frames := 4, cells := 0, slots := 0, locals := 90 } : Room) (va_Pc [.ref (ad 50), .int x] (fPre D cI cJ cB t0 z tx ad L E)) (va_Qi (fun (r : Int32) (E1 : Nat → va_E) => (c_go x = 0 ∧ r = p_in (mb (m_run w p g nw T n str S x.toNatClampNeg) str) n - p_in (mb S str) n ∧ mm cI ad E1 0 w p g nw n (T + x.toNatClampNeg) str (m_run w p g nw T n str S x.toNatClampNeg) ∧ ∀ q : Nat, (q < 50 ∨ 91 ≤ q) → E1 q = E q) ∨ (¬ c_go x = 0 ∧ r = 0 ∧ mm cI ad E1 (c_go x) w p g nw n T str S ∧ ∀ q : Nat, (q < 50 ∨ 91 ≤ q) → E1 q = E q)) (fB D z ad L) (fA z)) 0 0 (fA z) := by
  refine f_ofW (cc := cX5_go) (maxL := 4) (ret := some .int) (by decide) rfl (Nat.le_of_ble_eq_true rfl) ?_
  intro pr e s m args below meth c Q hx hb hr hml hts hown hlocks hin hG H locs hI hQ ls hl
  have hl : lv_has ls 4 [(0, .ref (ad 50)), (1, .int x)] := hl
  have hfr : ∀ q : Nat, (q < 50 ∨ 91 ≤ q) → E q = E q := fun _ _ => rfl
  obtain ⟨hM, hS, Ta, Sa, hTa, hA⟩ := id hMS
  refine lv_aload_n hx hb dX5_go_0 rfl (lv_at hl 0 rfl) ?_
  refine lv_iconst (v := 0) hx hb dX5_go_1 (by decide) ?_
  refine f_put (ci := 5) (v := .int 0) (C := RX5) (T := TX5) (N := 9) hx hb hts (by decide +kernel) tyX5 tyX5_ok nmX5 hown hG.1 hI rfl (hMm _ (by omega)) (hM.1) rfl 0 (by decide) (hts (.fieldLink RX5 34 "CoracleRaceModel" "thrown" "I") (by decide +kernel)) rfl rfl rfl (Nat.le_of_ble_eq_true rfl) dX5_go_2 (fun E1 H locs hE2 hn3 hI => ?_)
  have hM := hM.top (th1 := 0) (nw1 := nw) (n1 := n) hE2 (fun q hq => hn3 q hq)
  have hS := hS.kept (fun q h1 h2 => hn3 q (by omega))
  have hA := hA.kept (fun q h1 h2 => hn3 q (by omega))
  have hfr : ∀ q : Nat, (q < 50 ∨ 91 ≤ q) → E1 q = E q := fun q hq => (hn3 q (by omega)).trans (hfr q hq)
  refine lv_iload_n hx hb dX5_go_5 rfl (lv_at hl 1 rfl) ?_
  refine lv_iconst (v := 1) hx hb dX5_go_6 (by decide) ?_
  refine lv_sipush (v := 200) hx hb dX5_go_7 (by decide) ?_
  refine f_calli1 (va_runS (As := [.int x, .int 1, .int 200]) (rest := []) ⟨hx, hb, hml, hown, hts⟩ (m_X5_isFrom l x 1 200) (va_cwS 3 hts gX5_go_X5_isFrom rfl rfl rfl (by decide +kernel) ⟨Nat.le_of_ble_eq_true rfl, Nat.le_of_ble_eq_true rfl⟩) (fPre_of hG hI) rfl rfl hl.1 rfl (lv_room (Nat.le_of_ble_eq_true rfl)) dX5_go_10 ⟨Nat.le_of_ble_eq_true rfl, Nat.le_of_ble_eq_true rfl⟩) hI (fun r4 E5 H locs hp hI => ?_)
  obtain ⟨he, hq⟩ := hp
  rw [hq] at hI
  refine lv_if_ne (tgt := 22) hx hb dX5_go_13 (by decide) (fun c_13 => ?_) (fun c_13 => ?_)
  · have p_13 := bl_t he c_13
    obtain ⟨m9, hm9, hxm9⟩ := le_nat (n := 200) (one_le p_13.1) p_13.2 (by omega)
    subst hxm9
    have hclm9 : (nI m9).toNatClampNeg = m9 := nI_clamp (by omega)
    refine lv_aload_n hx hb dX5_go_22 rfl (lv_at hl 0 rfl) ?_
    refine f_get (ci := 5) (v := .ref (ad 60)) (C := RX5) (T := TX5) (N := 9) hx hb hts (by decide +kernel) hown hG.1 hI rfl (hMm _ (by omega)) (hM.1) rfl 7 (by decide) (hts (.fieldLink RX5 27 "CoracleRaceModel" "s" "LCoracleRaceModel$State;") (by decide +kernel)) rfl dX5_go_23 ?_
    refine f_calli1 (va_runV (As := []) (rest := []) ⟨hx, hb, hml, hown, hts⟩ (m_X4_in l (sb := 60) rfl (by decide) (fun k h1 h2 => hMm k (by omega)) (by omega) hS (fun k h1 h2 => hMm k (by omega)) hM hNW hN6) (cwV 0 hts gX5_go_X4_in rfl rfl rfl (by decide +kernel) ⟨Nat.le_of_ble_eq_true rfl, Nat.le_of_ble_eq_true rfl⟩) (fPre_ofV hG hI rfl (hMm _ (by omega)) (hS.1) rfl rfl) rfl rfl hl.1 rfl (lv_room (Nat.le_of_ble_eq_true rfl)) dX5_go_26 ⟨Nat.le_of_ble_eq_true rfl, Nat.le_of_ble_eq_true rfl⟩) hI (fun r6 E7 H locs hp hI => ?_)
    obtain ⟨he, hq⟩ := hp
    rw [hq] at hI
    have he : r6 = (p_in (mb S str) n) := he
    subst he
    refine lv_istore_n (lv' := [(2, .int (p_in (mb S str) n)), (0, .ref (ad 50)), (1, .int (nI m9))]) hx hb dX5_go_29 rfl hl (by decide) rfl (fun ls hl => ?_)
    refine lv_iconst (v := 0) hx hb dX5_go_30 (by decide) ?_
    refine lv_istore_n (lv' := [(3, .int 0), (2, .int (p_in (mb S str) n)), (0, .ref (ad 50)), (1, .int (nI m9))]) hx hb dX5_go_31 rfl hl (by decide) rfl (fun ls hl => ?_)
    have Kihr : ∀ (k j : Nat), j ≤ m9 → m9 + 1 ≤ j + k → ∀ (Ea : Nat → va_E) (H : Heap) (locs : List Loc) (ls : Array Slot), (m_at cI ad Ea 0 w p g nw n str) → (st_at cI ad Ea 60 (T + j) (m_run w p g nw T n str S j)) → (st_at cI ad Ea 80 Ta Sa) → (∀ q : Nat, (q < 50 ∨ 91 ≤ q) → Ea q = E q) → fI D (fA z) s.heap ad L Ea H locs → lv_has ls 4 [(0, .ref (ad 50)), (1, .int (nI m9)), (2, .int (p_in (mb S str) n)), (3, .int (nI j))] → W pr l e ({ frames := 4, cells := 0, slots := 0, locals := 90 } : Room) s m args below meth c H locs 0 0 Q (F0 m 32 ls []) := by
      intro k
      induction k with
      | zero => intro j h1 h2; exact absurd h2 (by omega)
      | succ k ihr =>
        intro j hi1j hi2j Ea H locs ls hM hS hA hfr hI hl
        refine lv_iload_n hx hb dX5_go_32 rfl (lv_at hl 3 rfl) ?_
        refine lv_iload_n hx hb dX5_go_33 rfl (lv_at hl 1 rfl) ?_
        refine lv_icmp_ge (tgt := 50) hx hb dX5_go_34 (by decide) (fun c_34 => ?_) (fun c_34 => ?_)
        · have n_34 := i_nlt.mpr c_34
          have hj : j = m9 := by have := (nI_leI (by omega) (by omega)).mp c_34; omega
          rw [hj] at hS
          refine lv_aload_n hx hb dX5_go_50 rfl (lv_at hl 0 rfl) ?_
          refine f_get (ci := 5) (v := .ref (ad 60)) (C := RX5) (T := TX5) (N := 9) hx hb hts (by decide +kernel) hown hG.1 hI rfl (hMm _ (by omega)) (hM.1) rfl 7 (by decide) (hts (.fieldLink RX5 27 "CoracleRaceModel" "s" "LCoracleRaceModel$State;") (by decide +kernel)) rfl dX5_go_51 ?_
          refine f_calli1 (va_runV (As := []) (rest := []) ⟨hx, hb, hml, hown, hts⟩ (m_X4_in l (sb := 60) rfl (by decide) (fun k h1 h2 => hMm k (by omega)) (by omega) hS (fun k h1 h2 => hMm k (by omega)) hM hNW hN6) (cwV 0 hts gX5_go_X4_in rfl rfl rfl (by decide +kernel) ⟨Nat.le_of_ble_eq_true rfl, Nat.le_of_ble_eq_true rfl⟩) (fPre_ofV hG hI rfl (hMm _ (by omega)) (hS.1) rfl rfl) rfl rfl hl.1 rfl (lv_room (Nat.le_of_ble_eq_true rfl)) dX5_go_54 ⟨Nat.le_of_ble_eq_true rfl, Nat.le_of_ble_eq_true rfl⟩) hI (fun r8 E9 H locs hp hI => ?_)
          obtain ⟨he, hq⟩ := hp
          rw [hq] at hI
          have he : r8 = (p_in (mb (m_run w p g nw T n str S m9) str) n) := he
          subst he
          refine lv_iload_n hx hb dX5_go_57 rfl (lv_at hl 2 rfl) ?_
          refine lv_isub hx hb dX5_go_58 ?_
          have hc : c_go (nI m9) = 0 := if_pos p_13
          exact f_reti hQ hx hb hr hlocks hI.2.2 (by omega) (by omega) dX5_go_59 Ea (fB_of hI) (Or.inl ⟨hc, (by rw [hclm9]), (by rw [hclm9]; exact ⟨hM, hS, _, _, hTa, hA⟩), hfr⟩)
        · have n_34 := c_34
          have c_34 := i_nle.mp n_34
          have hj : j < m9 := (nI_ltI (by omega) (by omega)).mp c_34
          have hcl : (nI j).toNatClampNeg = j := nI_clamp (by omega)
          refine lv_aload_n hx hb dX5_go_37 rfl (lv_at hl 0 rfl) ?_
          refine f_get (ci := 5) (v := .ref (ad 60)) (C := RX5) (T := TX5) (N := 9) hx hb hts (by decide +kernel) hown hG.1 hI rfl (hMm _ (by omega)) (hM.1) rfl 7 (by decide) (hts (.fieldLink RX5 27 "CoracleRaceModel" "s" "LCoracleRaceModel$State;") (by decide +kernel)) rfl dX5_go_38 ?_
          refine f_callv1 (va_runV (As := []) (rest := []) ⟨hx, hb, hml, hown, hts⟩ (m_X4_go_ l (sb := 60) rfl (by decide) (fun k h1 h2 => hMm k (by omega)) (by omega) hS (fun k h1 h2 => hMm k (by omega)) hM hNW hN6 hrv (okb_run hrv hok (by omega))) (cwV 0 hts gX5_go_X4_go_ rfl rfl rfl (by decide +kernel) ⟨Nat.le_of_ble_eq_true rfl, Nat.le_of_ble_eq_true rfl⟩) (fPre_ofV hG hI rfl (hMm _ (by omega)) (hS.1) rfl rfl) rfl rfl hl.1 rfl (lv_room (Nat.le_of_ble_eq_true rfl)) dX5_go_41 ⟨Nat.le_of_ble_eq_true rfl, Nat.le_of_ble_eq_true rfl⟩) hI (fun E10 H locs hp hI => ?_)
          obtain ⟨hS, hn9⟩ := hp
          have hM := hM.kept (fun q h1 h2 => hn9 q (by omega))
          have hA := hA.kept (fun q h1 h2 => hn9 q (by omega))
          have hfr : ∀ q : Nat, (q < 50 ∨ 91 ≤ q) → E10 q = E q := fun q hq => (hn9 q (by omega)).trans (hfr q hq)
          refine lv_iinc (v := (nI (j + 1))) (lv' := [(3, .int (nI (j + 1))), (0, .ref (ad 50)), (1, .int (nI m9)), (2, .int (p_in (mb S str) n))]) hx hb dX5_go_44 hl (k := 3) rfl (nI_1 j) (by decide) rfl (fun ls hl => ?_)
          refine lv_goto (tgt := 32) hx hb dX5_go_47 (by decide) ?_
          exact ihr (j + 1) (by omega) (by omega) E10 H locs ls hM hS hA hfr hI (lv_sub hl [1, 2, 3, 0] rfl)
    exact Kihr (m9 + 1) 0 (Nat.zero_le _) (by omega) E1 H locs ls hM hS hA hfr hI (lv_sub hl [2, 3, 1, 0] rfl)
  · have p_13 := bl_f he c_13
    refine lv_aload_n hx hb dX5_go_16 rfl (lv_at hl 0 rfl) ?_
    refine lv_iconst (v := 1) hx hb dX5_go_17 (by decide) ?_
    refine f_calli1 (va_runV (As := [.int 1]) (rest := []) ⟨hx, hb, hml, hown, hts⟩ (m_X5_no l (hMm _ (by decide)) hM 1) (cwV 1 hts gX5_go_X5_no rfl rfl rfl (by decide +kernel) ⟨Nat.le_of_ble_eq_true rfl, Nat.le_of_ble_eq_true rfl⟩) (fPre_ofV hG hI rfl (hMm _ (by omega)) (hM.1) rfl rfl) rfl rfl hl.1 rfl (lv_room (Nat.le_of_ble_eq_true rfl)) dX5_go_18 ⟨Nat.le_of_ble_eq_true rfl, Nat.le_of_ble_eq_true rfl⟩) hI (fun r11 E12 H locs hp hI => ?_)
    obtain ⟨he, hM, hn9⟩ := hp
    subst he
    have hS := hS.kept (fun q h1 h2 => hn9 q (by omega))
    have hA := hA.kept (fun q h1 h2 => hn9 q (by omega))
    have hfr : ∀ q : Nat, (q < 50 ∨ 91 ≤ q) → E12 q = E q := fun q hq => (hn9 q (by omega)).trans (hfr q hq)
    have hc : c_go x = 1 := if_neg p_13
    exact f_reti hQ hx hb hr hlocks hI.2.2 (by omega) (by omega) dX5_go_21 E12 (fB_of hI) (Or.inr ⟨by rw [hc]; decide, rfl, by rw [hc]; exact ⟨hM, hS, _, _, hTa, hA⟩, hfr⟩)
