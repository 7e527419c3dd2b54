set_option maxHeartbeats 4000000 in
set_option maxRecDepth 100000 in
theorem m_X5_paddle (l : Launch) {D : va_G} {cI cJ cB : ClassId} {t0 z : Nat} {tx ad : Nat → Nat} {L : List Nat} {E : Nat → va_E} {th : Int32} {w p g : Nat → Int32} {nw n T : Nat} {str : Nat → Int32} {S : Nat → Nat → Int32} (hMS : mm cI ad E th w p g nw n T str S) (hMm : ∀ k, (50 ≤ k ∧ k < 55) ∨ (60 ≤ k ∧ k < 71) ∨ (80 ≤ k ∧ k < 91) → k ∈ L) (hNW : nw ≤ 6) (hN6 : n ≤ 6) (hTb : T < 2 ^ 30) (hrv : okr w p nw) (hok : ∀ q, q < n → okb (mb S str q)) (h99 : 99 ∉ L) (x y d : Int32) : Met l yX5_paddle wsX5_paddle ({ frames := 2, cells := 0, slots := 0, locals := 44 } : Room) (va_Pc [.ref (ad 50), .int x, .int y, .int d] (fPre D cI cJ cB t0 z tx ad L E)) (va_Qi (fun (r : Int32) (E1 : Nat → va_E) => (cm_paddle n x y d = 0 ∧ r = S 8 x.toNatClampNeg ∧ mm cI ad E1 0 w p g nw n T str (m_pad S x.toNatClampNeg y d) ∧ ∀ q : Nat, (q < 50 ∨ 91 ≤ q) → E1 q = E q) ∨ (¬ cm_paddle n x y d = 0 ∧ r = 0 ∧ mm cI ad E1 (cm_paddle n x y d) w p g nw n T str S ∧ ∀ q : Nat, (q < 50 ∨ 91 ≤ q) → E1 q = E q)) (fB D z ad L) (fA z)) 0 0 (fA z) := by
  refine f_ofW (cc := cX5_paddle) (maxL := 5) (ret := some .int) (by decide) rfl (Nat.le_of_ble_eq_true rfl) ?_
  intro pr e s m args below meth c Q hx hb hr hml hts hown hlocks hin hG H locs hI hQ ls hl
  have hl : lv_has ls 5 [(0, .ref (ad 50)), (1, .int x), (2, .int y), (3, .int d)] := hl
  have hfr : ∀ q : Nat, (q < 50 ∨ 91 ≤ q) → E q = E q := fun _ _ => rfl
  obtain ⟨hM, hS, Ta, Sa, hTa, hA⟩ := id hMS
  refine lv_aload_n hx hb dX5_paddle_0 rfl (lv_at hl 0 rfl) ?_
  refine lv_iconst (v := 0) hx hb dX5_paddle_1 (by decide) ?_
  refine f_put (ci := 5) (v := .int 0) (C := RX5) (T := TX5) (N := 9) hx hb hts (by decide +kernel) tyX5 tyX5_ok nmX5 hown hG.1 hI rfl (hMm _ (by omega)) (hM.1) rfl 0 (by decide) (hts (.fieldLink RX5 34 "CoracleRaceModel" "thrown" "I") (by decide +kernel)) rfl rfl rfl (Nat.le_of_ble_eq_true rfl) dX5_paddle_2 (fun E1 H locs hE2 hn3 hI => ?_)
  have hM := hM.top (th1 := 0) (nw1 := nw) (n1 := n) hE2 (fun q hq => hn3 q hq)
  have hS := hS.kept (fun q h1 h2 => hn3 q (by omega))
  have hA := hA.kept (fun q h1 h2 => hn3 q (by omega))
  have hfr : ∀ q : Nat, (q < 50 ∨ 91 ≤ q) → E1 q = E q := fun q hq => (hn3 q (by omega)).trans (hfr q hq)
  refine lv_aload_n hx hb dX5_paddle_5 rfl (lv_at hl 0 rfl) ?_
  refine lv_iload_n hx hb dX5_paddle_6 rfl (lv_at hl 1 rfl) ?_
  refine f_calli1 (va_runV (As := [.int x]) (rest := []) ⟨hx, hb, hml, hown, hts⟩ (m_X5_isBoat l (hMm _ (by decide)) hM hN6 x) (cwV 1 hts gX5_paddle_X5_isBoat rfl rfl rfl (by decide +kernel) ⟨Nat.le_of_ble_eq_true rfl, Nat.le_of_ble_eq_true rfl⟩) (fPre_ofV hG hI rfl (hMm _ (by omega)) (hM.1) rfl rfl) rfl rfl hl.1 rfl (lv_room (Nat.le_of_ble_eq_true rfl)) dX5_paddle_7 ⟨Nat.le_of_ble_eq_true rfl, Nat.le_of_ble_eq_true rfl⟩) hI (fun r4 E5 H locs hp hI => ?_)
  obtain ⟨he, hq⟩ := hp
  rw [hq] at hI
  refine lv_if_ne (tgt := 19) hx hb dX5_paddle_10 (by decide) (fun c_10 => ?_) (fun c_10 => ?_)
  · have p_10 := bl_t he c_10
    obtain ⟨u, hu, hxu⟩ := ix_nat p_10 (by omega)
    subst hxu
    have hclu : (nI u).toNatClampNeg = u := nI_clamp (by omega)
    refine lv_iload_n hx hb dX5_paddle_19 rfl (lv_at hl 2 rfl) ?_
    refine lv_iconst (v := 1) hx hb dX5_paddle_20 (by decide) ?_
    refine lv_bipush (v := 6) hx hb dX5_paddle_21 (by decide) ?_
    refine f_calli1 (va_runS (As := [.int y, .int 1, .int 6]) (rest := []) ⟨hx, hb, hml, hown, hts⟩ (m_X5_isFrom l y 1 6) (va_cwS 3 hts gX5_paddle_X5_isFrom rfl rfl rfl (by decide +kernel) ⟨Nat.le_of_ble_eq_true rfl, Nat.le_of_ble_eq_true rfl⟩) (fPre_of hG hI) rfl rfl hl.1 rfl (lv_room (Nat.le_of_ble_eq_true rfl)) dX5_paddle_23 ⟨Nat.le_of_ble_eq_true rfl, Nat.le_of_ble_eq_true rfl⟩) hI (fun r6 E7 H locs hp hI => ?_)
    obtain ⟨he, hq⟩ := hp
    rw [hq] at hI
    refine lv_if_eq (tgt := 37) hx hb dX5_paddle_26 (by decide) (fun c_26 => ?_) (fun c_26 => ?_)
    · have p_26 := bl_f he c_26
      refine lv_aload_n hx hb dX5_paddle_37 rfl (lv_at hl 0 rfl) ?_
      refine lv_iconst (v := 2) hx hb dX5_paddle_38 (by decide) ?_
      refine f_calli1 (va_runV (As := [.int 2]) (rest := []) ⟨hx, hb, hml, hown, hts⟩ (m_X5_no l (hMm _ (by decide)) hM 2) (cwV 1 hts gX5_paddle_X5_no rfl rfl rfl (by decide +kernel) ⟨Nat.le_of_ble_eq_true rfl, Nat.le_of_ble_eq_true rfl⟩) (fPre_ofV hG hI rfl (hMm _ (by omega)) (hM.1) rfl rfl) rfl rfl hl.1 rfl (lv_room (Nat.le_of_ble_eq_true rfl)) dX5_paddle_39 ⟨Nat.le_of_ble_eq_true rfl, Nat.le_of_ble_eq_true rfl⟩) hI (fun r8 E9 H locs hp hI => ?_)
      obtain ⟨he, hM, hn9⟩ := hp
      subst he
      have hS := hS.kept (fun q h1 h2 => hn9 q (by omega))
      have hA := hA.kept (fun q h1 h2 => hn9 q (by omega))
      have hfr : ∀ q : Nat, (q < 50 ∨ 91 ≤ q) → E9 q = E q := fun q hq => (hn9 q (by omega)).trans (hfr q hq)
      have hc : cm_paddle n (nI u) y d = 2 := (if_pos p_10).trans (if_neg (fun q => p_26 q.1))
      exact f_reti hQ hx hb hr hlocks hI.2.2 (by omega) (by omega) dX5_paddle_42 E9 (fB_of hI) (Or.inr ⟨by rw [hc]; decide, rfl, by rw [hc]; exact ⟨hM, hS, _, _, hTa, hA⟩, hfr⟩)
    · have p_26 := bl_t he c_26
      obtain ⟨e1, e2, e3⟩ := nI_of1 p_26
      obtain ⟨k, hk⟩ : ∃ k, k = y.toNatClampNeg := ⟨_, rfl⟩
      rw [← hk] at e1 e3
      subst e1
      refine lv_iload_n hx hb dX5_paddle_29 rfl (lv_at hl 2 rfl) ?_
      refine lv_iload_n hx hb dX5_paddle_30 rfl (lv_at hl 3 rfl) ?_
      refine f_calli1 (va_runS (As := [.int (nI k), .int d]) (rest := []) ⟨hx, hb, hml, hown, hts⟩ (m_X5_isPattern l e3 d) (va_cwS 2 hts gX5_paddle_X5_isPattern rfl rfl rfl (by decide +kernel) ⟨Nat.le_of_ble_eq_true rfl, Nat.le_of_ble_eq_true rfl⟩) (fPre_of hG hI) rfl rfl hl.1 rfl (lv_room (Nat.le_of_ble_eq_true rfl)) dX5_paddle_31 ⟨Nat.le_of_ble_eq_true rfl, Nat.le_of_ble_eq_true rfl⟩) hI (fun r10 E11 H locs hp hI => ?_)
      obtain ⟨he, hq⟩ := hp
      rw [hq] at hI
      refine lv_if_ne (tgt := 43) hx hb dX5_paddle_34 (by decide) (fun c_34 => ?_) (fun c_34 => ?_)
      · have p_34 := bl_t he c_34
        refine lv_aload_n hx hb dX5_paddle_43 rfl (lv_at hl 0 rfl) ?_
        refine f_get (ci := 5) (v := .ref (ad 60)) (C := RX5) (T := TX5) (N := 9) hx hb hts (by decide +kernel) hown hG.1 hI rfl (hMm _ (by omega)) (hM.1) rfl 7 (by decide) (hts (.fieldLink RX5 27 "CoracleRaceModel" "s" "LCoracleRaceModel$State;") (by decide +kernel)) rfl dX5_paddle_44 ?_
        refine f_getN (ci := 4) (v := .ref (ad (60 + 1 + 8))) (C := RX4) (T := TX4) (N := 12) hx hb hts (by decide +kernel) hown hG.1 hI rfl (hMm _ (by omega)) (hS.1) rfl 9 (by decide) (hG.2.1 (.fieldLinkNest RX5 58 RX4 "length" "[I" RX5) (by simp [fNest])) rfl dX5_paddle_47 ?_
        refine lv_iload_n hx hb dX5_paddle_50 rfl (lv_at hl 1 rfl) ?_
        refine f_iald hx hb hG.1 hI rfl (hMm _ (by omega)) (hS.2 8 (by decide)) (vp_in_nI (by omega) (by omega)) dX5_paddle_51 ?_
        rw [hclu]
        refine lv_istore (lv' := [(4, .int ((S 8) u)), (0, .ref (ad 50)), (1, .int (nI u)), (2, .int (nI k)), (3, .int d)]) hx hb dX5_paddle_52 hl (by decide) rfl (fun ls hl => ?_)
        refine lv_aload_n hx hb dX5_paddle_54 rfl (lv_at hl 1 rfl) ?_
        refine f_get (ci := 5) (v := .ref (ad 60)) (C := RX5) (T := TX5) (N := 9) hx hb hts (by decide +kernel) hown hG.1 hI rfl (hMm _ (by omega)) (hM.1) rfl 7 (by decide) (hts (.fieldLink RX5 27 "CoracleRaceModel" "s" "LCoracleRaceModel$State;") (by decide +kernel)) rfl dX5_paddle_55 ?_
        refine f_getN (ci := 4) (v := .ref (ad (60 + 1 + 8))) (C := RX4) (T := TX4) (N := 12) hx hb hts (by decide +kernel) hown hG.1 hI rfl (hMm _ (by omega)) (hS.1) rfl 9 (by decide) (hG.2.1 (.fieldLinkNest RX5 58 RX4 "length" "[I" RX5) (by simp [fNest])) rfl dX5_paddle_58 ?_
        refine lv_iload_n hx hb dX5_paddle_61 rfl (lv_at hl 2 rfl) ?_
        refine lv_iload_n hx hb dX5_paddle_62 rfl (lv_at hl 3 rfl) ?_
        refine f_iast hx hb hG.1 hI rfl (hMm _ (by omega)) (hS.2 8 (by decide)) (vp_in_nI (by omega) (by omega)) dX5_paddle_63 (fun E12 H locs hE13 hn14 hI => ?_)
        have hS := hS.row (j := 8) (by decide) (by rw [hclu] at hE13; exact hE13) (fun q hq => hn14 q hq)
        have hM := hM.kept (fun q h1 h2 => hn14 q (by omega))
        have hA := hA.kept (fun q h1 h2 => hn14 q (by omega))
        have hfr : ∀ q : Nat, (q < 50 ∨ 91 ≤ q) → E12 q = E q := fun q hq => (hn14 q (by omega)).trans (hfr q hq)
        refine lv_aload_n hx hb dX5_paddle_64 rfl (lv_at hl 1 rfl) ?_
        refine f_get (ci := 5) (v := .ref (ad 60)) (C := RX5) (T := TX5) (N := 9) hx hb hts (by decide +kernel) hown hG.1 hI rfl (hMm _ (by omega)) (hM.1) rfl 7 (by decide) (hts (.fieldLink RX5 27 "CoracleRaceModel" "s" "LCoracleRaceModel$State;") (by decide +kernel)) rfl dX5_paddle_65 ?_
        refine f_getN (ci := 4) (v := .ref (ad (60 + 1 + 9))) (C := RX4) (T := TX4) (N := 12) hx hb hts (by decide +kernel) hown hG.1 hI rfl (hMm _ (by omega)) (hS.1) rfl 10 (by decide) (hG.2.1 (.fieldLinkNest RX5 61 RX4 "strokes" "[I" RX5) (by simp [fNest])) rfl dX5_paddle_68 ?_
        refine lv_iload_n hx hb dX5_paddle_71 rfl (lv_at hl 2 rfl) ?_
        refine lv_iload_n hx hb dX5_paddle_72 rfl (lv_at hl 4 rfl) ?_
        refine f_iast hx hb hG.1 hI rfl (hMm _ (by omega)) (hS.2 9 (by decide)) (vp_in_nI (by omega) (by omega)) dX5_paddle_73 (fun E15 H locs hE16 hn17 hI => ?_)
        have hS := hS.row (j := 9) (by decide) (by rw [hclu] at hE16; exact hE16) (fun q hq => hn17 q hq)
        have hM := hM.kept (fun q h1 h2 => hn17 q (by omega))
        have hA := hA.kept (fun q h1 h2 => hn17 q (by omega))
        have hfr : ∀ q : Nat, (q < 50 ∨ 91 ≤ q) → E15 q = E q := fun q hq => (hn17 q (by omega)).trans (hfr q hq)
        refine lv_iload hx hb dX5_paddle_74 (lv_at hl 0 rfl) ?_
        have hc : cm_paddle n (nI u) (nI k) d = 0 := (if_pos p_10).trans (if_pos ⟨p_26, by rw [← hk]; exact p_34⟩)
        exact f_reti hQ hx hb hr hlocks hI.2.2 (by omega) (by omega) dX5_paddle_76 E15 (fB_of hI) (Or.inl ⟨hc, (by rw [hclu]), (by rw [hclu]; exact ⟨hM, hS, _, _, hTa, hA⟩), hfr⟩)
      · have p_34 := bl_f he c_34
        refine lv_aload_n hx hb dX5_paddle_37 rfl (lv_at hl 0 rfl) ?_
        refine lv_iconst (v := 2) hx hb dX5_paddle_38 (by decide) ?_
        refine f_calli1 (va_runV (As := [.int 2]) (rest := []) ⟨hx, hb, hml, hown, hts⟩ (m_X5_no l (hMm _ (by decide)) hM 2) (cwV 1 hts gX5_paddle_X5_no rfl rfl rfl (by decide +kernel) ⟨Nat.le_of_ble_eq_true rfl, Nat.le_of_ble_eq_true rfl⟩) (fPre_ofV hG hI rfl (hMm _ (by omega)) (hM.1) rfl rfl) rfl rfl hl.1 rfl (lv_room (Nat.le_of_ble_eq_true rfl)) dX5_paddle_39 ⟨Nat.le_of_ble_eq_true rfl, Nat.le_of_ble_eq_true rfl⟩) hI (fun r18 E19 H locs hp hI => ?_)
        obtain ⟨he, hM, hn9⟩ := hp
        subst he
        have hS := hS.kept (fun q h1 h2 => hn9 q (by omega))
        have hA := hA.kept (fun q h1 h2 => hn9 q (by omega))
        have hfr : ∀ q : Nat, (q < 50 ∨ 91 ≤ q) → E19 q = E q := fun q hq => (hn9 q (by omega)).trans (hfr q hq)
        have hc : cm_paddle n (nI u) (nI k) d = 2 := (if_pos p_10).trans (if_neg (fun q => p_34 (by rw [hk]; exact q.2)))
        exact f_reti hQ hx hb hr hlocks hI.2.2 (by omega) (by omega) dX5_paddle_42 E19 (fB_of hI) (Or.inr ⟨by rw [hc]; decide, rfl, by rw [hc]; exact ⟨hM, hS, _, _, hTa, hA⟩, hfr⟩)
  · have p_10 := bl_f he c_10
    refine lv_aload_n hx hb dX5_paddle_13 rfl (lv_at hl 0 rfl) ?_
    refine lv_iconst (v := 1) hx hb dX5_paddle_14 (by decide) ?_
    refine f_calli1 (va_runV (As := [.int 1]) (rest := []) ⟨hx, hb, hml, hown, hts⟩ (m_X5_no l (hMm _ (by decide)) hM 1) (cwV 1 hts gX5_paddle_X5_no rfl rfl rfl (by decide +kernel) ⟨Nat.le_of_ble_eq_true rfl, Nat.le_of_ble_eq_true rfl⟩) (fPre_ofV hG hI rfl (hMm _ (by omega)) (hM.1) rfl rfl) rfl rfl hl.1 rfl (lv_room (Nat.le_of_ble_eq_true rfl)) dX5_paddle_15 ⟨Nat.le_of_ble_eq_true rfl, Nat.le_of_ble_eq_true rfl⟩) hI (fun r20 E21 H locs hp hI => ?_)
    obtain ⟨he, hM, hn9⟩ := hp
    subst he
    have hS := hS.kept (fun q h1 h2 => hn9 q (by omega))
    have hA := hA.kept (fun q h1 h2 => hn9 q (by omega))
    have hfr : ∀ q : Nat, (q < 50 ∨ 91 ≤ q) → E21 q = E q := fun q hq => (hn9 q (by omega)).trans (hfr q hq)
    have hc : cm_paddle n x y d = 1 := if_neg p_10
    exact f_reti hQ hx hb hr hlocks hI.2.2 (by omega) (by omega) dX5_paddle_18 E21 (fB_of hI) (Or.inr ⟨by rw [hc]; decide, rfl, by rw [hc]; exact ⟨hM, hS, _, _, hTa, hA⟩, hfr⟩)

set_option maxHeartbeats 4000000 in
set_option maxRecDepth 100000 in
theorem m_X5_tar (l : Launch) {D : va_G} {cI cJ cB : ClassId} {t0 z : Nat} {tx ad : Nat → Nat} {L : List Nat} {E : Nat → va_E} {th : Int32} {w p g : Nat → Int32} {nw n T : Nat} {str : Nat → Int32} {S : Nat → Nat → Int32} (hMS : mm cI ad E th w p g nw n T str S) (hMm : ∀ k, (50 ≤ k ∧ k < 55) ∨ (60 ≤ k ∧ k < 71) ∨ (80 ≤ k ∧ k < 91) → k ∈ L) (hNW : nw ≤ 6) (hN6 : n ≤ 6) (hTb : T < 2 ^ 30) (hrv : okr w p nw) (hok : ∀ q, q < n → okb (mb S str q)) (h99 : 99 ∉ L) (x : Int32) : Met l yX5_tar wsX5_tar ({ frames := 2, cells := 0, slots := 0, locals := 43 } : Room) (va_Pc [.ref (ad 50), .int x] (fPre D cI cJ cB t0 z tx ad L E)) (va_Qi (fun (r : Int32) (E1 : Nat → va_E) => (cm_tar n S x = 0 ∧ r = S 3 x.toNatClampNeg ∧ mm cI ad E1 0 w p g nw n T str (m_tar S x.toNatClampNeg) ∧ ∀ q : Nat, (q < 50 ∨ 91 ≤ q) → E1 q = E q) ∨ (¬ cm_tar n S x = 0 ∧ r = 0 ∧ mm cI ad E1 (cm_tar n S x) w p g nw n T str S ∧ ∀ q : Nat, (q < 50 ∨ 91 ≤ q) → E1 q = E q)) (fB D z ad L) (fA z)) 0 0 (fA z) := by
  refine f_ofW (cc := cX5_tar) (maxL := 3) (ret := some .int) (by decide) rfl (Nat.le_of_ble_eq_true rfl) ?_
  intro pr e s m args below meth c Q hx hb hr hml hts hown hlocks hin hG H locs hI hQ ls hl
  have hl : lv_has ls 3 [(0, .ref (ad 50)), (1, .int x)] := hl
  have hfr : ∀ q : Nat, (q < 50 ∨ 91 ≤ q) → E q = E q := fun _ _ => rfl
  obtain ⟨hM, hS, Ta, Sa, hTa, hA⟩ := id hMS
  refine lv_aload_n hx hb dX5_tar_0 rfl (lv_at hl 0 rfl) ?_
  refine lv_iconst (v := 0) hx hb dX5_tar_1 (by decide) ?_
  refine f_put (ci := 5) (v := .int 0) (C := RX5) (T := TX5) (N := 9) hx hb hts (by decide +kernel) tyX5 tyX5_ok nmX5 hown hG.1 hI rfl (hMm _ (by omega)) (hM.1) rfl 0 (by decide) (hts (.fieldLink RX5 34 "CoracleRaceModel" "thrown" "I") (by decide +kernel)) rfl rfl rfl (Nat.le_of_ble_eq_true rfl) dX5_tar_2 (fun E1 H locs hE2 hn3 hI => ?_)
  have hM := hM.top (th1 := 0) (nw1 := nw) (n1 := n) hE2 (fun q hq => hn3 q hq)
  have hS := hS.kept (fun q h1 h2 => hn3 q (by omega))
  have hA := hA.kept (fun q h1 h2 => hn3 q (by omega))
  have hfr : ∀ q : Nat, (q < 50 ∨ 91 ≤ q) → E1 q = E q := fun q hq => (hn3 q (by omega)).trans (hfr q hq)
  refine lv_aload_n hx hb dX5_tar_5 rfl (lv_at hl 0 rfl) ?_
  refine lv_iload_n hx hb dX5_tar_6 rfl (lv_at hl 1 rfl) ?_
  refine f_calli1 (va_runV (As := [.int x]) (rest := []) ⟨hx, hb, hml, hown, hts⟩ (m_X5_isBoat l (hMm _ (by decide)) hM hN6 x) (cwV 1 hts gX5_tar_X5_isBoat rfl rfl rfl (by decide +kernel) ⟨Nat.le_of_ble_eq_true rfl, Nat.le_of_ble_eq_true rfl⟩) (fPre_ofV hG hI rfl (hMm _ (by omega)) (hM.1) rfl rfl) rfl rfl hl.1 rfl (lv_room (Nat.le_of_ble_eq_true rfl)) dX5_tar_7 ⟨Nat.le_of_ble_eq_true rfl, Nat.le_of_ble_eq_true rfl⟩) hI (fun r4 E5 H locs hp hI => ?_)
  obtain ⟨he, hq⟩ := hp
  rw [hq] at hI
  refine lv_if_ne (tgt := 19) hx hb dX5_tar_10 (by decide) (fun c_10 => ?_) (fun c_10 => ?_)
  · have p_10 := bl_t he c_10
    obtain ⟨u, hu, hxu⟩ := ix_nat p_10 (by omega)
    subst hxu
    have hclu : (nI u).toNatClampNeg = u := nI_clamp (by omega)
    refine lv_aload_n hx hb dX5_tar_19 rfl (lv_at hl 0 rfl) ?_
    refine f_get (ci := 5) (v := .ref (ad 60)) (C := RX5) (T := TX5) (N := 9) hx hb hts (by decide +kernel) hown hG.1 hI rfl (hMm _ (by omega)) (hM.1) rfl 7 (by decide) (hts (.fieldLink RX5 27 "CoracleRaceModel" "s" "LCoracleRaceModel$State;") (by decide +kernel)) rfl dX5_tar_20 ?_
    refine lv_iload_n hx hb dX5_tar_23 rfl (lv_at hl 1 rfl) ?_
    refine f_calli1 (va_runV (As := [.int (nI u)]) (rest := []) ⟨hx, hb, hml, hown, hts⟩ (m_X4_isIn l (sb := 60) rfl (by decide) (fun k h1 h2 => hMm k (by omega)) (by omega) (u := u) (by omega) hS) (cwV 1 hts gX5_tar_X4_isIn rfl rfl rfl (by decide +kernel) ⟨Nat.le_of_ble_eq_true rfl, Nat.le_of_ble_eq_true rfl⟩) (fPre_ofV hG hI rfl (hMm _ (by omega)) (hS.1) rfl rfl) rfl rfl hl.1 rfl (lv_room (Nat.le_of_ble_eq_true rfl)) dX5_tar_24 ⟨Nat.le_of_ble_eq_true rfl, Nat.le_of_ble_eq_true rfl⟩) hI (fun r6 E7 H locs hp hI => ?_)
    obtain ⟨he, hq⟩ := hp
    rw [hq] at hI
    refine lv_if_eq (tgt := 36) hx hb dX5_tar_27 (by decide) (fun c_27 => ?_) (fun c_27 => ?_)
    · have p_27 := bl_f he c_27
      have q_27 := Decidable.not_not.mp p_27
      refine lv_aload_n hx hb dX5_tar_36 rfl (lv_at hl 0 rfl) ?_
      refine f_get (ci := 5) (v := .ref (ad 60)) (C := RX5) (T := TX5) (N := 9) hx hb hts (by decide +kernel) hown hG.1 hI rfl (hMm _ (by omega)) (hM.1) rfl 7 (by decide) (hts (.fieldLink RX5 27 "CoracleRaceModel" "s" "LCoracleRaceModel$State;") (by decide +kernel)) rfl dX5_tar_37 ?_
      refine f_getN (ci := 4) (v := .ref (ad (60 + 1 + 3))) (C := RX4) (T := TX4) (N := 12) hx hb hts (by decide +kernel) hown hG.1 hI rfl (hMm _ (by omega)) (hS.1) rfl 4 (by decide) (hG.2.1 (.fieldLinkNest RX5 78 RX4 "soaked" "[I" RX5) (by simp [fNest])) rfl dX5_tar_40 ?_
      refine lv_iload_n hx hb dX5_tar_43 rfl (lv_at hl 1 rfl) ?_
      refine f_iald hx hb hG.1 hI rfl (hMm _ (by omega)) (hS.2 3 (by decide)) (vp_in_nI (by omega) (by omega)) dX5_tar_44 ?_
      rw [hclu]
      refine lv_istore_n (lv' := [(2, .int ((S 3) u)), (0, .ref (ad 50)), (1, .int (nI u))]) hx hb dX5_tar_45 rfl hl (by decide) rfl (fun ls hl => ?_)
      refine lv_aload_n hx hb dX5_tar_46 rfl (lv_at hl 1 rfl) ?_
      refine f_get (ci := 5) (v := .ref (ad 60)) (C := RX5) (T := TX5) (N := 9) hx hb hts (by decide +kernel) hown hG.1 hI rfl (hMm _ (by omega)) (hM.1) rfl 7 (by decide) (hts (.fieldLink RX5 27 "CoracleRaceModel" "s" "LCoracleRaceModel$State;") (by decide +kernel)) rfl dX5_tar_47 ?_
      refine f_getN (ci := 4) (v := .ref (ad (60 + 1 + 3))) (C := RX4) (T := TX4) (N := 12) hx hb hts (by decide +kernel) hown hG.1 hI rfl (hMm _ (by omega)) (hS.1) rfl 4 (by decide) (hG.2.1 (.fieldLinkNest RX5 78 RX4 "soaked" "[I" RX5) (by simp [fNest])) rfl dX5_tar_50 ?_
      refine lv_iload_n hx hb dX5_tar_53 rfl (lv_at hl 2 rfl) ?_
      refine lv_iconst (v := 0) hx hb dX5_tar_54 (by decide) ?_
      refine f_iast hx hb hG.1 hI rfl (hMm _ (by omega)) (hS.2 3 (by decide)) (vp_in_nI (by omega) (by omega)) dX5_tar_55 (fun E8 H locs hE9 hn10 hI => ?_)
      have hS := hS.row (j := 3) (by decide) (by rw [hclu] at hE9; exact hE9) (fun q hq => hn10 q hq)
      have hM := hM.kept (fun q h1 h2 => hn10 q (by omega))
      have hA := hA.kept (fun q h1 h2 => hn10 q (by omega))
      have hfr : ∀ q : Nat, (q < 50 ∨ 91 ≤ q) → E8 q = E q := fun q hq => (hn10 q (by omega)).trans (hfr q hq)
      refine lv_aload_n hx hb dX5_tar_56 rfl (lv_at hl 1 rfl) ?_
      refine f_get (ci := 5) (v := .ref (ad 60)) (C := RX5) (T := TX5) (N := 9) hx hb hts (by decide +kernel) hown hG.1 hI rfl (hMm _ (by omega)) (hM.1) rfl 7 (by decide) (hts (.fieldLink RX5 27 "CoracleRaceModel" "s" "LCoracleRaceModel$State;") (by decide +kernel)) rfl dX5_tar_57 ?_
      refine f_getN (ci := 4) (v := .ref (ad (60 + 1 + 4))) (C := RX4) (T := TX4) (N := 12) hx hb hts (by decide +kernel) hown hG.1 hI rfl (hMm _ (by omega)) (hS.1) rfl 5 (by decide) (hG.2.1 (.fieldLinkNest RX5 81 RX4 "fouls" "[I" RX5) (by simp [fNest])) rfl dX5_tar_60 ?_
      refine lv_iload_n hx hb dX5_tar_63 rfl (lv_at hl 2 rfl) ?_
      refine lv_dup2_11 hx hb dX5_tar_64 rfl rfl ?_
      refine f_iald hx hb hG.1 hI rfl (hMm _ (by omega)) (hS.2 4 (by decide)) (vp_in_nI (by omega) (by omega)) dX5_tar_65 ?_
      rw [hclu]
      refine lv_iconst (v := 4) hx hb dX5_tar_66 (by decide) ?_
      refine lv_iadd hx hb dX5_tar_67 ?_
      refine f_iast hx hb hG.1 hI rfl (hMm _ (by omega)) (hS.2 4 (by decide)) (vp_in_nI (by omega) (by omega)) dX5_tar_68 (fun E11 H locs hE12 hn13 hI => ?_)
      have hS := hS.row (j := 4) (by decide) (by rw [hclu] at hE12; exact hE12) (fun q hq => hn13 q hq)
      have hM := hM.kept (fun q h1 h2 => hn13 q (by omega))
      have hA := hA.kept (fun q h1 h2 => hn13 q (by omega))
      have hfr : ∀ q : Nat, (q < 50 ∨ 91 ≤ q) → E11 q = E q := fun q hq => (hn13 q (by omega)).trans (hfr q hq)
      refine lv_iload_n hx hb dX5_tar_69 rfl (lv_at hl 0 rfl) ?_
      have hc : cm_tar n S (nI u) = 0 := (if_pos p_10).trans (if_pos (by rw [hclu]; exact q_27))
      exact f_reti hQ hx hb hr hlocks hI.2.2 (by omega) (by omega) dX5_tar_70 E11 (fB_of hI) (Or.inl ⟨hc, (by rw [hclu]), (by rw [hclu]; exact ⟨hM, hS, _, _, hTa, hA⟩), hfr⟩)
    · have p_27 := bl_t he c_27
      refine lv_aload_n hx hb dX5_tar_30 rfl (lv_at hl 0 rfl) ?_
      refine lv_iconst (v := 2) hx hb dX5_tar_31 (by decide) ?_
      refine f_calli1 (va_runV (As := [.int 2]) (rest := []) ⟨hx, hb, hml, hown, hts⟩ (m_X5_no l (hMm _ (by decide)) hM 2) (cwV 1 hts gX5_tar_X5_no rfl rfl rfl (by decide +kernel) ⟨Nat.le_of_ble_eq_true rfl, Nat.le_of_ble_eq_true rfl⟩) (fPre_ofV hG hI rfl (hMm _ (by omega)) (hM.1) rfl rfl) rfl rfl hl.1 rfl (lv_room (Nat.le_of_ble_eq_true rfl)) dX5_tar_32 ⟨Nat.le_of_ble_eq_true rfl, Nat.le_of_ble_eq_true rfl⟩) hI (fun r14 E15 H locs hp hI => ?_)
      obtain ⟨he, hM, hn9⟩ := hp
      subst he
      have hS := hS.kept (fun q h1 h2 => hn9 q (by omega))
      have hA := hA.kept (fun q h1 h2 => hn9 q (by omega))
      have hfr : ∀ q : Nat, (q < 50 ∨ 91 ≤ q) → E15 q = E q := fun q hq => (hn9 q (by omega)).trans (hfr q hq)
      have hc : cm_tar n S (nI u) = 2 := (if_pos p_10).trans (if_neg (by rw [hclu]; exact p_27))
      exact f_reti hQ hx hb hr hlocks hI.2.2 (by omega) (by omega) dX5_tar_35 E15 (fB_of hI) (Or.inr ⟨by rw [hc]; decide, rfl, by rw [hc]; exact ⟨hM, hS, _, _, hTa, hA⟩, hfr⟩)
  · have p_10 := bl_f he c_10
    refine lv_aload_n hx hb dX5_tar_13 rfl (lv_at hl 0 rfl) ?_
    refine lv_iconst (v := 1) hx hb dX5_tar_14 (by decide) ?_
    refine f_calli1 (va_runV (As := [.int 1]) (rest := []) ⟨hx, hb, hml, hown, hts⟩ (m_X5_no l (hMm _ (by decide)) hM 1) (cwV 1 hts gX5_tar_X5_no rfl rfl rfl (by decide +kernel) ⟨Nat.le_of_ble_eq_true rfl, Nat.le_of_ble_eq_true rfl⟩) (fPre_ofV hG hI rfl (hMm _ (by omega)) (hM.1) rfl rfl) rfl rfl hl.1 rfl (lv_room (Nat.le_of_ble_eq_true rfl)) dX5_tar_15 ⟨Nat.le_of_ble_eq_true rfl, Nat.le_of_ble_eq_true rfl⟩) hI (fun r16 E17 H locs hp hI => ?_)
    obtain ⟨he, hM, hn9⟩ := hp
    subst he
    have hS := hS.kept (fun q h1 h2 => hn9 q (by omega))
    have hA := hA.kept (fun q h1 h2 => hn9 q (by omega))
    have hfr : ∀ q : Nat, (q < 50 ∨ 91 ≤ q) → E17 q = E q := fun q hq => (hn9 q (by omega)).trans (hfr q hq)
    have hc : cm_tar n S x = 1 := if_neg p_10
    exact f_reti hQ hx hb hr hlocks hI.2.2 (by omega) (by omega) dX5_tar_18 E17 (fB_of hI) (Or.inr ⟨by rw [hc]; decide, rfl, by rw [hc]; exact ⟨hM, hS, _, _, hTa, hA⟩, hfr⟩)

def m_nx (p : Nat → Int32) (pl : Int32) : Nat → Int32
  | 0 => 200
  | i + 1 => if pl < p i then p_min (m_nx p pl i) (p i) else m_nx p pl i
theorem nx_at {p : Nat → Int32} {pl : Int32} : ∀ {k : Nat}, (∀ i, i < k → 1 ≤ p i ∧ p i ≤ 199) → (m_nx p pl k = 200 ∧ p_next p pl k = -1) ∨ (m_nx p pl k = p_next p pl k ∧ 1 ≤ p_next p pl k ∧ p_next p pl k ≤ 199)
  | 0, _ => Or.inl ⟨rfl, rfl⟩
  | k + 1, h => by
    have hk := h k (by omega)
    have ih := nx_at (pl := pl) (k := k) (fun i hi => h i (by omega))
    rw [m_nx, p_next]
    by_cases hp : pl < p k
    · rw [if_pos hp]
      rcases ih with ⟨a, b⟩ | ⟨a, b⟩
      · right
        rw [if_pos ⟨hp, Or.inl b⟩, a]
        have h2 : p k < 200 := by
          have := hk.2
          rw [fa_le] at this
          rw [fa_lt]
          have e1 : (199 : Int32).toInt = 199 := by decide
          have e2 : (200 : Int32).toInt = 200 := by decide
          omega
        exact ⟨if_pos h2, hk⟩
      · right
        have hb : ¬ p_next p pl k = -1 := fun q => by rw [q] at b; exact absurd b.1 (by decide)
        rw [a]
        unfold p_min
        by_cases h3 : p k < p_next p pl k
        · rw [if_pos h3, if_pos ⟨hp, Or.inr h3⟩]
          exact ⟨rfl, hk⟩
        · rw [if_neg h3, if_neg (fun q => q.2.elim hb h3)]
          exact ⟨rfl, b⟩
    · rw [if_neg hp, if_neg (fun q => hp q.1)]
      exact ih
set_option maxHeartbeats 4000000 in
set_option maxRecDepth 100000 in
theorem m_X5_next (l : Launch) {D : va_G} {cI cJ cB : ClassId} {t0 z : Nat} {tx ad : Nat → Nat} {L : List Nat} {E : Nat → va_E} {th : Int32} {w p g : Nat → Int32} {nw n T : Nat} {str : Nat → Int32} {S : Nat → Nat → Int32} (hMS : mm cI ad E th w p g nw n T str S) (hMm : ∀ k, (50 ≤ k ∧ k < 55) ∨ (60 ≤ k ∧ k < 71) ∨ (80 ≤ k ∧ k < 91) → k ∈ L) (hNW : nw ≤ 6) (hN6 : n ≤ 6) (hTb : T < 2 ^ 30) (hrv : okr w p nw) (hok : ∀ q, q < n → okb (mb S str q)) (h99 : 99 ∉ L) (x : Int32) : Met l yX5_next wsX5_next ({ frames := 1, cells := 0, slots := 0, locals := 22 } : Room) (va_Pc [.ref (ad 50), .int x] (fPre D cI cJ cB t0 z tx ad L E)) (va_Qi (fun (r : Int32) (E1 : Nat → va_E) => (c_next x = 0 ∧ r = p_next p x nw ∧ mm cI ad E1 0 w p g nw n T str S ∧ ∀ q : Nat, (q < 50 ∨ 91 ≤ q) → E1 q = E q) ∨ (¬ c_next x = 0 ∧ r = 0 ∧ mm cI ad E1 (c_next x) w p g nw n T str S ∧ ∀ q : Nat, (q < 50 ∨ 91 ≤ q) → E1 q = E q)) (fB D z ad L) (fA z)) 0 0 (fA z) := by
  refine f_ofW (cc := cX5_next) (maxL := 4) (ret := some .int) (by decide) rfl (Nat.le_of_ble_eq_true rfl) ?_
  intro pr e s m args below meth c Q hx hb hr hml hts hown hlocks hin hG H locs hI hQ ls hl
  have hl : lv_has ls 4 [(0, .ref (ad 50)), (1, .int x)] := hl
  have hfr : ∀ q : Nat, (q < 50 ∨ 91 ≤ q) → E q = E q := fun _ _ => rfl
  obtain ⟨hM, hS, Ta, Sa, hTa, hA⟩ := id hMS
  refine lv_aload_n hx hb dX5_next_0 rfl (lv_at hl 0 rfl) ?_
  refine lv_iconst (v := 0) hx hb dX5_next_1 (by decide) ?_
  refine f_put (ci := 5) (v := .int 0) (C := RX5) (T := TX5) (N := 9) hx hb hts (by decide +kernel) tyX5 tyX5_ok nmX5 hown hG.1 hI rfl (hMm _ (by omega)) (hM.1) rfl 0 (by decide) (hts (.fieldLink RX5 34 "CoracleRaceModel" "thrown" "I") (by decide +kernel)) rfl rfl rfl (Nat.le_of_ble_eq_true rfl) dX5_next_2 (fun E1 H locs hE2 hn3 hI => ?_)
  have hM := hM.top (th1 := 0) (nw1 := nw) (n1 := n) hE2 (fun q hq => hn3 q hq)
  have hS := hS.kept (fun q h1 h2 => hn3 q (by omega))
  have hA := hA.kept (fun q h1 h2 => hn3 q (by omega))
  have hfr : ∀ q : Nat, (q < 50 ∨ 91 ≤ q) → E1 q = E q := fun q hq => (hn3 q (by omega)).trans (hfr q hq)
  refine lv_iload_n hx hb dX5_next_5 rfl (lv_at hl 1 rfl) ?_
  refine lv_iconst (v := 0) hx hb dX5_next_6 (by decide) ?_
  refine lv_sipush (v := 200) hx hb dX5_next_7 (by decide) ?_
  refine f_calli1 (va_runS (As := [.int x, .int 0, .int 200]) (rest := []) ⟨hx, hb, hml, hown, hts⟩ (m_X5_isFrom l x 0 200) (va_cwS 3 hts gX5_next_X5_isFrom rfl rfl rfl (by decide +kernel) ⟨Nat.le_of_ble_eq_true rfl, Nat.le_of_ble_eq_true rfl⟩) (fPre_of hG hI) rfl rfl hl.1 rfl (lv_room (Nat.le_of_ble_eq_true rfl)) dX5_next_10 ⟨Nat.le_of_ble_eq_true rfl, Nat.le_of_ble_eq_true rfl⟩) hI (fun r4 E5 H locs hp hI => ?_)
  obtain ⟨he, hq⟩ := hp
  rw [hq] at hI
  refine lv_if_ne (tgt := 22) hx hb dX5_next_13 (by decide) (fun c_13 => ?_) (fun c_13 => ?_)
  · have p_13 := bl_t he c_13
    refine lv_sipush (v := 200) hx hb dX5_next_22 (by decide) ?_
    refine lv_istore_n (lv' := [(2, .int 200), (0, .ref (ad 50)), (1, .int x)]) hx hb dX5_next_25 rfl hl (by decide) rfl (fun ls hl => ?_)
    refine lv_iconst (v := 0) hx hb dX5_next_26 (by decide) ?_
    refine lv_istore_n (lv' := [(3, .int 0), (2, .int 200), (0, .ref (ad 50)), (1, .int x)]) hx hb dX5_next_27 rfl hl (by decide) rfl (fun ls hl => ?_)
    have K : ∀ (k i : Nat), i ≤ nw → nw + 1 ≤ i + k → ∀ (H : Heap) (locs : List Loc) (ls : Array Slot), fI D (fA z) s.heap ad L E1 H locs → lv_has ls 4 [(0, .ref (ad 50)), (1, .int x), (2, .int (m_nx p x i)), (3, .int (nI i))] → W pr l e ({ frames := 1, cells := 0, slots := 0, locals := 22 } : Room) s m args below meth c H locs 0 0 Q (F0 m 28 ls []) := by
      intro k
      induction k with
      | zero => intro i h1 h2; exact absurd h2 (by omega)
      | succ k ih =>
        intro i hi1 hi2 H locs ls hI hl
        refine lv_iload_n hx hb dX5_next_28 rfl (lv_at hl 3 rfl) ?_
        refine lv_aload_n hx hb dX5_next_29 rfl (lv_at hl 0 rfl) ?_
        refine f_get (ci := 5) (v := .int (nI nw)) (C := RX5) (T := TX5) (N := 9) hx hb hts (by decide +kernel) hown hG.1 hI rfl (hMm _ (by omega)) (hM.1) rfl 2 (by decide) (hts (.fieldLink RX5 49 "CoracleRaceModel" "weirs" "I") (by decide +kernel)) rfl dX5_next_30 ?_
        refine lv_icmp_ge (tgt := 63) hx hb dX5_next_33 (by decide) (fun c_33 => ?_) (fun c_33 => ?_)
        · have n_33 := i_nlt.mpr c_33
          have hi : i = nw := by have := (nI_leI (by omega) (by omega)).mp c_33; omega
          rw [hi] at hl
          refine lv_iload_n hx hb dX5_next_63 rfl (lv_at hl 2 rfl) ?_
          refine lv_sipush (v := 200) hx hb dX5_next_64 (by decide) ?_
          refine lv_icmp_ne (tgt := 74) hx hb dX5_next_67 (by decide) (fun c_67 => ?_) (fun c_67 => ?_)
          · refine lv_iload_n hx hb dX5_next_74 rfl (lv_at hl 2 rfl) ?_
            have hc : c_next x = 0 := if_pos p_13
            exact f_reti hQ hx hb hr hlocks hI.2.2 (by omega) (by omega) dX5_next_75 E1 (fB_of hI) (Or.inl ⟨hc, (by rcases nx_at (pl := x) hrv.2 with ⟨e1, e2⟩ | ⟨e1, e2, e3⟩; exact absurd e1 c_67; exact e1), ⟨hM, hS, _, _, hTa, hA⟩, hfr⟩)
          · refine lv_iconst (v := -1) hx hb dX5_next_70 (by decide) ?_
            refine lv_goto (tgt := 75) hx hb dX5_next_71 (by decide) ?_
            have hc : c_next x = 0 := if_pos p_13
            exact f_reti hQ hx hb hr hlocks hI.2.2 (by omega) (by omega) dX5_next_75 E1 (fB_of hI) (Or.inl ⟨hc, (by rcases nx_at (pl := x) hrv.2 with ⟨e1, e2⟩ | ⟨e1, e2, e3⟩; exact e2.symm; rw [e1] at c_67; rw [c_67] at e3; exact absurd e3 (by decide)), ⟨hM, hS, _, _, hTa, hA⟩, hfr⟩)
        · have n_33 := c_33
          have c_33 := i_nle.mp n_33
          have hi : i < nw := (nI_ltI (by omega) (by omega)).mp c_33
          have hcl : (nI i).toNatClampNeg = i := nI_clamp (by omega)
          refine lv_aload_n hx hb dX5_next_36 rfl (lv_at hl 0 rfl) ?_
          refine f_get (ci := 5) (v := .ref (ad 52)) (C := RX5) (T := TX5) (N := 9) hx hb hts (by decide +kernel) hown hG.1 hI rfl (hMm _ (by omega)) (hM.1) rfl 3 (by decide) (hts (.fieldLink RX5 13 "CoracleRaceModel" "weirAt" "[I") (by decide +kernel)) rfl dX5_next_37 ?_
          refine lv_iload_n hx hb dX5_next_40 rfl (lv_at hl 3 rfl) ?_
          refine f_iald hx hb hG.1 hI rfl (hMm _ (by omega)) (hM.2.2.1) (vp_in_nI (by omega) (by omega)) dX5_next_41 ?_
          rw [hcl]
          refine lv_iload_n hx hb dX5_next_42 rfl (lv_at hl 1 rfl) ?_
          refine lv_icmp_le (tgt := 57) hx hb dX5_next_43 (by decide) (fun c_43 => ?_) (fun c_43 => ?_)
          · have n_43 := i_nlt.mpr c_43
            refine lv_iinc (v := (nI (i + 1))) (lv' := [(3, .int (nI (i + 1))), (0, .ref (ad 50)), (1, .int x), (2, .int (m_nx p x i))]) hx hb dX5_next_57 hl (k := 3) rfl (nI_1 i) (by decide) rfl (fun ls hl => ?_)
            refine lv_goto (tgt := 28) hx hb dX5_next_60 (by decide) ?_
            refine ih (i + 1) (by omega) (by omega) H locs ls hI ?_
            rw [show m_nx p x (i + 1) = (m_nx p x i) by first | rfl | (rw [m_nx]; simp [c_13, if_pos p_13, p_13, c_33, n_33, c_43, n_43]; done)]
            exact lv_sub hl [1, 2, 3, 0] rfl
          · have n_43 := c_43
            have c_43 := i_nle.mp n_43
            refine lv_iload_n hx hb dX5_next_46 rfl (lv_at hl 2 rfl) ?_
            refine lv_aload_n hx hb dX5_next_47 rfl (lv_at hl 0 rfl) ?_
            refine f_get (ci := 5) (v := .ref (ad 52)) (C := RX5) (T := TX5) (N := 9) hx hb hts (by decide +kernel) hown hG.1 hI rfl (hMm _ (by omega)) (hM.1) rfl 3 (by decide) (hts (.fieldLink RX5 13 "CoracleRaceModel" "weirAt" "[I") (by decide +kernel)) rfl dX5_next_48 ?_
            refine lv_iload_n hx hb dX5_next_51 rfl (lv_at hl 3 rfl) ?_
            refine f_iald hx hb hG.1 hI rfl (hMm _ (by omega)) (hM.2.2.1) (vp_in_nI (by omega) (by omega)) dX5_next_52 ?_
            rw [hcl]
            refine va_mmin hx hb (hml.trans hl.1.symm) hown (hts (.methodLink RX5 106 Lib.Math.min.name) (by decide +kernel)) (hts (.static Lib.Math.min.name) (by decide +kernel)) (hts (.initialized "java/lang/Math") (by decide +kernel)) (hts (.code Lib.Math.min.name Lib.Math.min.code 2 (some .int)) (by decide +kernel)) (Nat.le_of_ble_eq_true rfl) (Nat.le_of_ble_eq_true rfl) (Nat.zero_le _) (Nat.zero_le _) dX5_next_53 ?_
            refine lv_topi (fun tv etv => ?_)
            have etv : tv = (p_min (m_nx p x i) (p i)) := etv.trans (rfl)
            subst etv
            refine lv_istore_n (lv' := [(2, .int (p_min (m_nx p x i) (p i))), (0, .ref (ad 50)), (1, .int x), (3, .int (nI i))]) hx hb dX5_next_56 rfl hl (by decide) rfl (fun ls hl => ?_)
            refine lv_iinc (v := (nI (i + 1))) (lv' := [(3, .int (nI (i + 1))), (2, .int (p_min (m_nx p x i) (p i))), (0, .ref (ad 50)), (1, .int x)]) hx hb dX5_next_57 hl (k := 3) rfl (nI_1 i) (by decide) rfl (fun ls hl => ?_)
            refine lv_goto (tgt := 28) hx hb dX5_next_60 (by decide) ?_
            refine ih (i + 1) (by omega) (by omega) H locs ls hI ?_
            rw [show m_nx p x (i + 1) = (p_min (m_nx p x i) (p i)) by first | rfl | (rw [m_nx]; simp [c_13, if_pos p_13, p_13, c_33, n_33, c_43, n_43]; done)]
            exact lv_sub hl [2, 3, 1, 0] rfl
    exact K (nw + 1) 0 (Nat.zero_le _) (by omega) H locs ls hI (lv_sub hl [2, 3, 1, 0] rfl)
  · have p_13 := bl_f he c_13
    refine lv_aload_n hx hb dX5_next_16 rfl (lv_at hl 0 rfl) ?_
    refine lv_iconst (v := 1) hx hb dX5_next_17 (by decide) ?_
    refine f_calli1 (va_runV (As := [.int 1]) (rest := []) ⟨hx, hb, hml, hown, hts⟩ (m_X5_no l (hMm _ (by decide)) hM 1) (cwV 1 hts gX5_next_X5_no rfl rfl rfl (by decide +kernel) ⟨Nat.le_of_ble_eq_true rfl, Nat.le_of_ble_eq_true rfl⟩) (fPre_ofV hG hI rfl (hMm _ (by omega)) (hM.1) rfl rfl) rfl rfl hl.1 rfl (lv_room (Nat.le_of_ble_eq_true rfl)) dX5_next_18 ⟨Nat.le_of_ble_eq_true rfl, Nat.le_of_ble_eq_true rfl⟩) hI (fun r6 E7 H locs hp hI => ?_)
    obtain ⟨he, hM, hn9⟩ := hp
    subst he
    have hS := hS.kept (fun q h1 h2 => hn9 q (by omega))
    have hA := hA.kept (fun q h1 h2 => hn9 q (by omega))
    have hfr : ∀ q : Nat, (q < 50 ∨ 91 ≤ q) → E7 q = E q := fun q hq => (hn9 q (by omega)).trans (hfr q hq)
    have hc : c_next x = 1 := if_neg p_13
    exact f_reti hQ hx hb hr hlocks hI.2.2 (by omega) (by omega) dX5_next_21 E7 (fB_of hI) (Or.inr ⟨by rw [hc]; decide, rfl, by rw [hc]; exact ⟨hM, hS, _, _, hTa, hA⟩, hfr⟩)

set_option maxHeartbeats 4000000 in
set_option maxRecDepth 100000 in
theorem m_X5_isAhead (l : Launch) {D : va_G} {cI cJ cB : ClassId} {t0 z : Nat} {tx ad : Nat → Nat} {L : List Nat} {E : Nat → va_E} {th : Int32} {w p g : Nat → Int32} {nw n T : Nat} {str : Nat → Int32} {S : Nat → Nat → Int32} (hMS : mm cI ad E th w p g nw n T str S) (hMm : ∀ k, (50 ≤ k ∧ k < 55) ∨ (60 ≤ k ∧ k < 71) ∨ (80 ≤ k ∧ k < 91) → k ∈ L) (hNW : nw ≤ 6) (hN6 : n ≤ 6) (hTb : T < 2 ^ 30) (hrv : okr w p nw) (hok : ∀ q, q < n → okb (mb S str q)) (h99 : 99 ∉ L) {u v : Nat} (hu6 : u < 6) (hv6 : v < 6) : Met l yX5_isAhead wsX5_isAhead ({ frames := 2, cells := 0, slots := 0, locals := 42 } : Room) (va_Pc [.ref (ad 50), .int (nI u), .int (nI v)] (fPre D cI cJ cB t0 z tx ad L E)) (va_Qi (fun (r : Int32) (E1 : Nat → va_E) => r = p_ahead (mb S str u) (mb S str v) ∧ E1 = E) (fB D z ad L) (fA z)) 0 0 (fA z) := by
  refine f_ofW (cc := cX5_isAhead) (maxL := 3) (ret := some .boolean) (by decide) rfl (Nat.le_of_ble_eq_true rfl) ?_
  intro pr e s m args below meth c Q hx hb hr hml hts hown hlocks hin hG H locs hI hQ ls hl
  have hl : lv_has ls 3 [(0, .ref (ad 50)), (1, .int (nI u)), (2, .int (nI v))] := hl
  obtain ⟨hM, hS, Ta, Sa, hTa, hA⟩ := id hMS
  refine lv_aload_n hx hb dX5_isAhead_0 rfl (lv_at hl 0 rfl) ?_
  refine f_get (ci := 5) (v := .ref (ad 60)) (C := RX5) (T := TX5) (N := 9) hx hb hts (by decide +kernel) hown hG.1 hI rfl (hMm _ (by omega)) (hM.1) rfl 7 (by decide) (hts (.fieldLink RX5 27 "CoracleRaceModel" "s" "LCoracleRaceModel$State;") (by decide +kernel)) rfl dX5_isAhead_1 ?_
  refine lv_iload_n hx hb dX5_isAhead_4 rfl (lv_at hl 1 rfl) ?_
  refine f_calli1 (va_runV (As := [.int (nI u)]) (rest := []) ⟨hx, hb, hml, hown, hts⟩ (m_X4_isIn l (sb := 60) rfl (by decide) (fun k h1 h2 => hMm k (by omega)) (by omega) (u := u) (by omega) hS) (cwV 1 hts gX5_isAhead_X4_isIn rfl rfl rfl (by decide +kernel) ⟨Nat.le_of_ble_eq_true rfl, Nat.le_of_ble_eq_true rfl⟩) (fPre_ofV hG hI rfl (hMm _ (by omega)) (hS.1) rfl rfl) rfl rfl hl.1 rfl (lv_room (Nat.le_of_ble_eq_true rfl)) dX5_isAhead_5 ⟨Nat.le_of_ble_eq_true rfl, Nat.le_of_ble_eq_true rfl⟩) hI (fun r1 E2 H locs hp hI => ?_)
  obtain ⟨he, hq⟩ := hp
  rw [hq] at hI
  have he : r1 = (if ¬ S 5 u = -1 then 1 else 0) := he
  subst he
  refine lv_aload_n hx hb dX5_isAhead_8 rfl (lv_at hl 0 rfl) ?_
  refine f_get (ci := 5) (v := .ref (ad 60)) (C := RX5) (T := TX5) (N := 9) hx hb hts (by decide +kernel) hown hG.1 hI rfl (hMm _ (by omega)) (hM.1) rfl 7 (by decide) (hts (.fieldLink RX5 27 "CoracleRaceModel" "s" "LCoracleRaceModel$State;") (by decide +kernel)) rfl dX5_isAhead_9 ?_
  refine lv_iload_n hx hb dX5_isAhead_12 rfl (lv_at hl 2 rfl) ?_
  refine f_calli1 (va_runV (As := [.int (nI v)]) (rest := [.int (if ¬ S 5 u = -1 then 1 else 0)]) ⟨hx, hb, hml, hown, hts⟩ (m_X4_isIn l (sb := 60) rfl (by decide) (fun k h1 h2 => hMm k (by omega)) (by omega) (u := v) (by omega) hS) (cwV 1 hts gX5_isAhead_X4_isIn rfl rfl rfl (by decide +kernel) ⟨Nat.le_of_ble_eq_true rfl, Nat.le_of_ble_eq_true rfl⟩) (fPre_ofV hG hI rfl (hMm _ (by omega)) (hS.1) rfl rfl) rfl rfl hl.1 rfl (lv_room (Nat.le_of_ble_eq_true rfl)) dX5_isAhead_13 ⟨Nat.le_of_ble_eq_true rfl, Nat.le_of_ble_eq_true rfl⟩) hI (fun r3 E4 H locs hp hI => ?_)
  obtain ⟨he, hq⟩ := hp
  rw [hq] at hI
  have he : r3 = (if ¬ S 5 v = -1 then 1 else 0) := he
  subst he
  refine lv_icmp_eq (tgt := 28) hx hb dX5_isAhead_16 (by decide) (fun c_16 => ?_) (fun c_16 => ?_)
  · refine lv_aload_n hx hb dX5_isAhead_28 rfl (lv_at hl 0 rfl) ?_
    refine f_get (ci := 5) (v := .ref (ad 60)) (C := RX5) (T := TX5) (N := 9) hx hb hts (by decide +kernel) hown hG.1 hI rfl (hMm _ (by omega)) (hM.1) rfl 7 (by decide) (hts (.fieldLink RX5 27 "CoracleRaceModel" "s" "LCoracleRaceModel$State;") (by decide +kernel)) rfl dX5_isAhead_29 ?_
    refine lv_iload_n hx hb dX5_isAhead_32 rfl (lv_at hl 1 rfl) ?_
    refine f_calli1 (va_runV (As := [.int (nI u)]) (rest := []) ⟨hx, hb, hml, hown, hts⟩ (m_X4_isIn l (sb := 60) rfl (by decide) (fun k h1 h2 => hMm k (by omega)) (by omega) (u := u) (by omega) hS) (cwV 1 hts gX5_isAhead_X4_isIn rfl rfl rfl (by decide +kernel) ⟨Nat.le_of_ble_eq_true rfl, Nat.le_of_ble_eq_true rfl⟩) (fPre_ofV hG hI rfl (hMm _ (by omega)) (hS.1) rfl rfl) rfl rfl hl.1 rfl (lv_room (Nat.le_of_ble_eq_true rfl)) dX5_isAhead_33 ⟨Nat.le_of_ble_eq_true rfl, Nat.le_of_ble_eq_true rfl⟩) hI (fun r5 E6 H locs hp hI => ?_)
    obtain ⟨he, hq⟩ := hp
    rw [hq] at hI
    have he : r5 = (if ¬ S 5 u = -1 then 1 else 0) := he
    subst he
    refine lv_if_eq (tgt := 66) hx hb dX5_isAhead_36 (by decide) (fun c_36 => ?_) (fun c_36 => ?_)
    · refine lv_aload_n hx hb dX5_isAhead_66 rfl (lv_at hl 0 rfl) ?_
      refine f_get (ci := 5) (v := .ref (ad 60)) (C := RX5) (T := TX5) (N := 9) hx hb hts (by decide +kernel) hown hG.1 hI rfl (hMm _ (by omega)) (hM.1) rfl 7 (by decide) (hts (.fieldLink RX5 27 "CoracleRaceModel" "s" "LCoracleRaceModel$State;") (by decide +kernel)) rfl dX5_isAhead_67 ?_
      refine f_getN (ci := 4) (v := .ref (ad (60 + 1 + 0))) (C := RX4) (T := TX4) (N := 12) hx hb hts (by decide +kernel) hown hG.1 hI rfl (hMm _ (by omega)) (hS.1) rfl 1 (by decide) (hG.2.1 (.fieldLinkNest RX5 84 RX4 "place" "[I" RX5) (by simp [fNest])) rfl dX5_isAhead_70 ?_
      refine lv_iload_n hx hb dX5_isAhead_73 rfl (lv_at hl 1 rfl) ?_
      refine f_iald hx hb hG.1 hI rfl (hMm _ (by omega)) (hS.2 0 (by decide)) (vp_in_nI (by omega) (by omega)) dX5_isAhead_74 ?_
      rw [show (nI u).toNatClampNeg = u from nI_clamp (by omega)]
      refine lv_aload_n hx hb dX5_isAhead_75 rfl (lv_at hl 0 rfl) ?_
      refine f_get (ci := 5) (v := .ref (ad 60)) (C := RX5) (T := TX5) (N := 9) hx hb hts (by decide +kernel) hown hG.1 hI rfl (hMm _ (by omega)) (hM.1) rfl 7 (by decide) (hts (.fieldLink RX5 27 "CoracleRaceModel" "s" "LCoracleRaceModel$State;") (by decide +kernel)) rfl dX5_isAhead_76 ?_
      refine f_getN (ci := 4) (v := .ref (ad (60 + 1 + 0))) (C := RX4) (T := TX4) (N := 12) hx hb hts (by decide +kernel) hown hG.1 hI rfl (hMm _ (by omega)) (hS.1) rfl 1 (by decide) (hG.2.1 (.fieldLinkNest RX5 84 RX4 "place" "[I" RX5) (by simp [fNest])) rfl dX5_isAhead_79 ?_
      refine lv_iload_n hx hb dX5_isAhead_82 rfl (lv_at hl 2 rfl) ?_
      refine f_iald hx hb hG.1 hI rfl (hMm _ (by omega)) (hS.2 0 (by decide)) (vp_in_nI (by omega) (by omega)) dX5_isAhead_83 ?_
      rw [show (nI v).toNatClampNeg = v from nI_clamp (by omega)]
      refine lv_icmp_le (tgt := 91) hx hb dX5_isAhead_84 (by decide) (fun c_84 => ?_) (fun c_84 => ?_)
      · have n_84 := i_nlt.mpr c_84
        refine lv_iconst (v := 0) hx hb dX5_isAhead_91 (by decide) ?_
        exact f_retz hQ hx hb hr hlocks hI.2.2 (by omega) (by omega) dX5_isAhead_92 (bn_of (Or.inl rfl)) E (fB_of hI) (⟨by have e1 : mb S str u 3 = S 0 u := rfl; have e2 : mb S str v 3 = S 0 v := rfl; unfold p_ahead; rw [m_time_mb, m_time_mb, mb_8, mb_8, e1, e2]; by_cases hu : S 5 u = -1 <;> by_cases hv : S 5 v = -1 <;> simp_all, rfl⟩)
      · have n_84 := c_84
        have c_84 := i_nle.mp n_84
        refine lv_iconst (v := 1) hx hb dX5_isAhead_87 (by decide) ?_
        refine lv_goto (tgt := 92) hx hb dX5_isAhead_88 (by decide) ?_
        exact f_retz hQ hx hb hr hlocks hI.2.2 (by omega) (by omega) dX5_isAhead_92 (bn_of (Or.inr rfl)) E (fB_of hI) (⟨by have e1 : mb S str u 3 = S 0 u := rfl; have e2 : mb S str v 3 = S 0 v := rfl; unfold p_ahead; rw [m_time_mb, m_time_mb, mb_8, mb_8, e1, e2]; by_cases hu : S 5 u = -1 <;> by_cases hv : S 5 v = -1 <;> simp_all, rfl⟩)
    · refine lv_aload_n hx hb dX5_isAhead_39 rfl (lv_at hl 0 rfl) ?_
      refine f_get (ci := 5) (v := .ref (ad 60)) (C := RX5) (T := TX5) (N := 9) hx hb hts (by decide +kernel) hown hG.1 hI rfl (hMm _ (by omega)) (hM.1) rfl 7 (by decide) (hts (.fieldLink RX5 27 "CoracleRaceModel" "s" "LCoracleRaceModel$State;") (by decide +kernel)) rfl dX5_isAhead_40 ?_
      refine lv_iload_n hx hb dX5_isAhead_43 rfl (lv_at hl 1 rfl) ?_
      refine f_calli1 (va_runV (As := [.int (nI u)]) (rest := []) ⟨hx, hb, hml, hown, hts⟩ (m_X4_time l (sb := 60) rfl (by decide) (fun k h1 h2 => hMm k (by omega)) (by omega) (u := u) (by omega) hS) (cwV 1 hts gX5_isAhead_X4_time rfl rfl rfl (by decide +kernel) ⟨Nat.le_of_ble_eq_true rfl, Nat.le_of_ble_eq_true rfl⟩) (fPre_ofV hG hI rfl (hMm _ (by omega)) (hS.1) rfl rfl) rfl rfl hl.1 rfl (lv_room (Nat.le_of_ble_eq_true rfl)) dX5_isAhead_44 ⟨Nat.le_of_ble_eq_true rfl, Nat.le_of_ble_eq_true rfl⟩) hI (fun r7 E8 H locs hp hI => ?_)
      obtain ⟨he, hq⟩ := hp
      rw [hq] at hI
      have he : r7 = (m_time S u) := he
      subst he
      refine lv_aload_n hx hb dX5_isAhead_47 rfl (lv_at hl 0 rfl) ?_
      refine f_get (ci := 5) (v := .ref (ad 60)) (C := RX5) (T := TX5) (N := 9) hx hb hts (by decide +kernel) hown hG.1 hI rfl (hMm _ (by omega)) (hM.1) rfl 7 (by decide) (hts (.fieldLink RX5 27 "CoracleRaceModel" "s" "LCoracleRaceModel$State;") (by decide +kernel)) rfl dX5_isAhead_48 ?_
      refine lv_iload_n hx hb dX5_isAhead_51 rfl (lv_at hl 2 rfl) ?_
      refine f_calli1 (va_runV (As := [.int (nI v)]) (rest := [.int (m_time S u)]) ⟨hx, hb, hml, hown, hts⟩ (m_X4_time l (sb := 60) rfl (by decide) (fun k h1 h2 => hMm k (by omega)) (by omega) (u := v) (by omega) hS) (cwV 1 hts gX5_isAhead_X4_time rfl rfl rfl (by decide +kernel) ⟨Nat.le_of_ble_eq_true rfl, Nat.le_of_ble_eq_true rfl⟩) (fPre_ofV hG hI rfl (hMm _ (by omega)) (hS.1) rfl rfl) rfl rfl hl.1 rfl (lv_room (Nat.le_of_ble_eq_true rfl)) dX5_isAhead_52 ⟨Nat.le_of_ble_eq_true rfl, Nat.le_of_ble_eq_true rfl⟩) hI (fun r9 E10 H locs hp hI => ?_)
      obtain ⟨he, hq⟩ := hp
      rw [hq] at hI
      have he : r9 = (m_time S v) := he
      subst he
      refine lv_icmp_ge (tgt := 62) hx hb dX5_isAhead_55 (by decide) (fun c_55 => ?_) (fun c_55 => ?_)
      · have n_55 := i_nlt.mpr c_55
        refine lv_iconst (v := 0) hx hb dX5_isAhead_62 (by decide) ?_
        refine lv_goto (tgt := 92) hx hb dX5_isAhead_63 (by decide) ?_
        exact f_retz hQ hx hb hr hlocks hI.2.2 (by omega) (by omega) dX5_isAhead_92 (bn_of (Or.inl rfl)) E (fB_of hI) (⟨by have e1 : mb S str u 3 = S 0 u := rfl; have e2 : mb S str v 3 = S 0 v := rfl; unfold p_ahead; rw [m_time_mb, m_time_mb, mb_8, mb_8, e1, e2]; by_cases hu : S 5 u = -1 <;> by_cases hv : S 5 v = -1 <;> simp_all, rfl⟩)
      · have n_55 := c_55
        have c_55 := i_nle.mp n_55
        refine lv_iconst (v := 1) hx hb dX5_isAhead_58 (by decide) ?_
        refine lv_goto (tgt := 92) hx hb dX5_isAhead_59 (by decide) ?_
        exact f_retz hQ hx hb hr hlocks hI.2.2 (by omega) (by omega) dX5_isAhead_92 (bn_of (Or.inr rfl)) E (fB_of hI) (⟨by have e1 : mb S str u 3 = S 0 u := rfl; have e2 : mb S str v 3 = S 0 v := rfl; unfold p_ahead; rw [m_time_mb, m_time_mb, mb_8, mb_8, e1, e2]; by_cases hu : S 5 u = -1 <;> by_cases hv : S 5 v = -1 <;> simp_all, rfl⟩)
  · refine lv_aload_n hx hb dX5_isAhead_19 rfl (lv_at hl 0 rfl) ?_
    refine f_get (ci := 5) (v := .ref (ad 60)) (C := RX5) (T := TX5) (N := 9) hx hb hts (by decide +kernel) hown hG.1 hI rfl (hMm _ (by omega)) (hM.1) rfl 7 (by decide) (hts (.fieldLink RX5 27 "CoracleRaceModel" "s" "LCoracleRaceModel$State;") (by decide +kernel)) rfl dX5_isAhead_20 ?_
    refine lv_iload_n hx hb dX5_isAhead_23 rfl (lv_at hl 1 rfl) ?_
    refine f_calli1 (va_runV (As := [.int (nI u)]) (rest := []) ⟨hx, hb, hml, hown, hts⟩ (m_X4_isIn l (sb := 60) rfl (by decide) (fun k h1 h2 => hMm k (by omega)) (by omega) (u := u) (by omega) hS) (cwV 1 hts gX5_isAhead_X4_isIn rfl rfl rfl (by decide +kernel) ⟨Nat.le_of_ble_eq_true rfl, Nat.le_of_ble_eq_true rfl⟩) (fPre_ofV hG hI rfl (hMm _ (by omega)) (hS.1) rfl rfl) rfl rfl hl.1 rfl (lv_room (Nat.le_of_ble_eq_true rfl)) dX5_isAhead_24 ⟨Nat.le_of_ble_eq_true rfl, Nat.le_of_ble_eq_true rfl⟩) hI (fun r11 E12 H locs hp hI => ?_)
    obtain ⟨he, hq⟩ := hp
    rw [hq] at hI
    have he : r11 = (if ¬ S 5 u = -1 then 1 else 0) := he
    subst he
    exact f_retz hQ hx hb hr hlocks hI.2.2 (by omega) (by omega) dX5_isAhead_27 (bn_of (by split; exact Or.inr rfl; exact Or.inl rfl)) E (fB_of hI) (⟨by have e1 : mb S str u 3 = S 0 u := rfl; have e2 : mb S str v 3 = S 0 v := rfl; unfold p_ahead; rw [m_time_mb, m_time_mb, mb_8, mb_8, e1, e2]; by_cases hu : S 5 u = -1 <;> by_cases hv : S 5 v = -1 <;> simp_all, rfl⟩)

set_option maxHeartbeats 4000000 in
set_option maxRecDepth 100000 in
theorem m_X5_rankOf (l : Launch) {D : va_G} {cI cJ cB : ClassId} {t0 z : Nat} {tx ad : Nat → Nat} {L : List Nat} {E : Nat → va_E} {th : Int32} {w p g : Nat → Int32} {nw n T : Nat} {str : Nat → Int32} {S : Nat → Nat → Int32} (hMS : mm cI ad E th w p g nw n T str S) (hMm : ∀ k, (50 ≤ k ∧ k < 55) ∨ (60 ≤ k ∧ k < 71) ∨ (80 ≤ k ∧ k < 91) → k ∈ L) (hNW : nw ≤ 6) (hN6 : n ≤ 6) (hTb : T < 2 ^ 30) (hrv : okr w p nw) (hok : ∀ q, q < n → okb (mb S str q)) (h99 : 99 ∉ L) {u : Nat} (hu6 : u < 6) : Met l yX5_rankOf wsX5_rankOf ({ frames := 3, cells := 0, slots := 0, locals := 64 } : Room) (va_Pc [.ref (ad 50), .int (nI u)] (fPre D cI cJ cB t0 z tx ad L E)) (va_Qi (fun (r : Int32) (E1 : Nat → va_E) => r = (1 + p_rk (mb S str) (mb S str u) n) ∧ E1 = E) (fB D z ad L) (fA z)) 0 0 (fA z) := by
  refine f_ofW (cc := cX5_rankOf) (maxL := 4) (ret := some .int) (by decide) rfl (Nat.le_of_ble_eq_true rfl) ?_
  intro pr e s m args below meth c Q hx hb hr hml hts hown hlocks hin hG H locs hI hQ ls hl
  have hl : lv_has ls 4 [(0, .ref (ad 50)), (1, .int (nI u))] := hl
  obtain ⟨hM, hS, Ta, Sa, hTa, hA⟩ := id hMS
  refine lv_iconst (v := 1) hx hb dX5_rankOf_0 (by decide) ?_
  refine lv_istore_n (lv' := [(2, .int 1), (0, .ref (ad 50)), (1, .int (nI u))]) hx hb dX5_rankOf_1 rfl hl (by decide) rfl (fun ls hl => ?_)
  refine lv_iconst (v := 0) hx hb dX5_rankOf_2 (by decide) ?_
  refine lv_istore_n (lv' := [(3, .int 0), (2, .int 1), (0, .ref (ad 50)), (1, .int (nI u))]) hx hb dX5_rankOf_3 rfl hl (by decide) rfl (fun ls hl => ?_)
  have K : ∀ (k i : Nat), i ≤ n → n + 1 ≤ i + k → ∀ (H : Heap) (locs : List Loc) (ls : Array Slot), fI D (fA z) s.heap ad L E H locs → lv_has ls 4 [(0, .ref (ad 50)), (1, .int (nI u)), (2, .int (1 + p_rk (mb S str) (mb S str u) i)), (3, .int (nI i))] → W pr l e ({ frames := 3, cells := 0, slots := 0, locals := 64 } : Room) s m args below meth c H locs 0 0 Q (F0 m 4 ls []) := by
    intro k
    induction k with
    | zero => intro i h1 h2; exact absurd h2 (by omega)
    | succ k ih =>
      intro i hi1 hi2 H locs ls hI hl
      refine lv_iload_n hx hb dX5_rankOf_4 rfl (lv_at hl 3 rfl) ?_
      refine lv_aload_n hx hb dX5_rankOf_5 rfl (lv_at hl 0 rfl) ?_
      refine f_get (ci := 5) (v := .int (nI n)) (C := RX5) (T := TX5) (N := 9) hx hb hts (by decide +kernel) hown hG.1 hI rfl (hMm _ (by omega)) (hM.1) rfl 5 (by decide) (hts (.fieldLink RX5 38 "CoracleRaceModel" "boats" "I") (by decide +kernel)) rfl dX5_rankOf_6 ?_
      refine lv_icmp_ge (tgt := 35) hx hb dX5_rankOf_9 (by decide) (fun c_9 => ?_) (fun c_9 => ?_)
      · have n_9 := i_nlt.mpr c_9
        have hi : i = n := by have := (nI_leI (by omega) (by omega)).mp c_9; omega
        refine lv_iload_n hx hb dX5_rankOf_35 rfl (lv_at hl 2 rfl) ?_
        exact f_reti hQ hx hb hr hlocks hI.2.2 (by omega) (by omega) dX5_rankOf_36 E (fB_of hI) (⟨by rw [hi], rfl⟩)
      · have n_9 := c_9
        have c_9 := i_nle.mp n_9
        have hi : i < n := (nI_ltI (by omega) (by omega)).mp c_9
        have hcl : (nI i).toNatClampNeg = i := nI_clamp (by omega)
        refine lv_iload_n hx hb dX5_rankOf_12 rfl (lv_at hl 2 rfl) ?_
        refine lv_aload_n hx hb dX5_rankOf_13 rfl (lv_at hl 0 rfl) ?_
        refine lv_iload_n hx hb dX5_rankOf_14 rfl (lv_at hl 3 rfl) ?_
        refine lv_iload_n hx hb dX5_rankOf_15 rfl (lv_at hl 1 rfl) ?_
        refine f_calli1 (va_runV (As := [.int (nI i), .int (nI u)]) (rest := [.int (1 + p_rk (mb S str) (mb S str u) i)]) ⟨hx, hb, hml, hown, hts⟩ (m_X5_isAhead l hMS hMm hNW hN6 hTb hrv hok h99 (u := i) (v := u) (by omega) hu6) (cwV 2 hts gX5_rankOf_X5_isAhead rfl rfl rfl (by decide +kernel) ⟨Nat.le_of_ble_eq_true rfl, Nat.le_of_ble_eq_true rfl⟩) (fPre_ofV hG hI rfl (hMm _ (by omega)) (hM.1) rfl rfl) rfl rfl hl.1 rfl (lv_room (Nat.le_of_ble_eq_true rfl)) dX5_rankOf_16 ⟨Nat.le_of_ble_eq_true rfl, Nat.le_of_ble_eq_true rfl⟩) hI (fun r1 E2 H locs hp hI => ?_)
        obtain ⟨he, hq⟩ := hp
        rw [hq] at hI
        have he : r1 = (p_ahead (mb S str i) (mb S str u)) := he
        subst he
        refine lv_if_eq (tgt := 26) hx hb dX5_rankOf_19 (by decide) (fun c_19 => ?_) (fun c_19 => ?_)
        · refine lv_iconst (v := 0) hx hb dX5_rankOf_26 (by decide) ?_
          refine lv_iadd hx hb dX5_rankOf_27 ?_
          refine lv_istore_n (lv' := [(2, .int ((1 + p_rk (mb S str) (mb S str u) i) + 0)), (0, .ref (ad 50)), (1, .int (nI u)), (3, .int (nI i))]) hx hb dX5_rankOf_28 rfl hl (by decide) rfl (fun ls hl => ?_)
          refine lv_iinc (v := (nI (i + 1))) (lv' := [(3, .int (nI (i + 1))), (2, .int ((1 + p_rk (mb S str) (mb S str u) i) + 0)), (0, .ref (ad 50)), (1, .int (nI u))]) hx hb dX5_rankOf_29 hl (k := 3) rfl (nI_1 i) (by decide) rfl (fun ls hl => ?_)
          refine lv_goto (tgt := 4) hx hb dX5_rankOf_32 (by decide) ?_
          refine ih (i + 1) (by omega) (by omega) H locs ls hI ?_
          rw [show (1 + p_rk (mb S str) (mb S str u) (i + 1)) = ((1 + p_rk (mb S str) (mb S str u) i) + 0) by rw [p_rk]; simp [c_19, Int32.add_assoc]]
          exact lv_sub hl [2, 3, 1, 0] rfl
        · refine lv_iconst (v := 1) hx hb dX5_rankOf_22 (by decide) ?_
          refine lv_goto (tgt := 27) hx hb dX5_rankOf_23 (by decide) ?_
          refine lv_iadd hx hb dX5_rankOf_27 ?_
          refine lv_istore_n (lv' := [(2, .int ((1 + p_rk (mb S str) (mb S str u) i) + 1)), (0, .ref (ad 50)), (1, .int (nI u)), (3, .int (nI i))]) hx hb dX5_rankOf_28 rfl hl (by decide) rfl (fun ls hl => ?_)
          refine lv_iinc (v := (nI (i + 1))) (lv' := [(3, .int (nI (i + 1))), (2, .int ((1 + p_rk (mb S str) (mb S str u) i) + 1)), (0, .ref (ad 50)), (1, .int (nI u))]) hx hb dX5_rankOf_29 hl (k := 3) rfl (nI_1 i) (by decide) rfl (fun ls hl => ?_)
          refine lv_goto (tgt := 4) hx hb dX5_rankOf_32 (by decide) ?_
          refine ih (i + 1) (by omega) (by omega) H locs ls hI ?_
          rw [show (1 + p_rk (mb S str) (mb S str u) (i + 1)) = ((1 + p_rk (mb S str) (mb S str u) i) + 1) by rw [p_rk]; simp [c_19, Int32.add_assoc]]
          exact lv_sub hl [2, 3, 1, 0] rfl
  exact K (n + 1) 0 (Nat.zero_le _) (by omega) H locs ls hI (lv_sub hl [2, 3, 1, 0] rfl)

set_option maxHeartbeats 4000000 in
set_option maxRecDepth 100000 in
theorem m_X5_rank (l : Launch) {D : va_G} {cI cJ cB : ClassId} {t0 z : Nat} {tx ad : Nat → Nat} {L : List Nat} {E : Nat → va_E} {th : Int32} {w p g : Nat → Int32} {nw n T : Nat} {str : Nat → Int32} {S : Nat → Nat → Int32} (hMS : mm cI ad E th w p g nw n T str S) (hMm : ∀ k, (50 ≤ k ∧ k < 55) ∨ (60 ≤ k ∧ k < 71) ∨ (80 ≤ k ∧ k < 91) → k ∈ L) (hNW : nw ≤ 6) (hN6 : n ≤ 6) (hTb : T < 2 ^ 30) (hrv : okr w p nw) (hok : ∀ q, q < n → okb (mb S str q)) (h99 : 99 ∉ L) (x : Int32) : Met l yX5_rank wsX5_rank ({ frames := 4, cells := 0, slots := 0, locals := 87 } : Room) (va_Pc [.ref (ad 50), .int x] (fPre D cI cJ cB t0 z tx ad L E)) (va_Qi (fun (r : Int32) (E1 : Nat → va_E) => (c_rank n x = 0 ∧ r = 1 + p_rk (mb S str) (mb S str x.toNatClampNeg) n ∧ mm cI ad E1 0 w p g nw n T str S ∧ ∀ q : Nat, (q < 50 ∨ 91 ≤ q) → E1 q = E q) ∨ (¬ c_rank n x = 0 ∧ r = 0 ∧ mm cI ad E1 (c_rank n x) w p g nw n T str S ∧ ∀ q : Nat, (q < 50 ∨ 91 ≤ q) → E1 q = E q)) (fB D z ad L) (fA z)) 0 0 (fA z) := by
  refine f_ofW (cc := cX5_rank) (maxL := 2) (ret := some .int) (by decide) rfl (Nat.le_of_ble_eq_true rfl) ?_
  intro pr e s m args below meth c Q hx hb hr hml hts hown hlocks hin hG H locs hI hQ ls hl
  have hl : lv_has ls 2 [(0, .ref (ad 50)), (1, .int x)] := hl
  have hfr : ∀ q : Nat, (q < 50 ∨ 91 ≤ q) → E q = E q := fun _ _ => rfl
  obtain ⟨hM, hS, Ta, Sa, hTa, hA⟩ := id hMS
  refine lv_aload_n hx hb dX5_rank_0 rfl (lv_at hl 0 rfl) ?_
  refine lv_iconst (v := 0) hx hb dX5_rank_1 (by decide) ?_
  refine f_put (ci := 5) (v := .int 0) (C := RX5) (T := TX5) (N := 9) hx hb hts (by decide +kernel) tyX5 tyX5_ok nmX5 hown hG.1 hI rfl (hMm _ (by omega)) (hM.1) rfl 0 (by decide) (hts (.fieldLink RX5 34 "CoracleRaceModel" "thrown" "I") (by decide +kernel)) rfl rfl rfl (Nat.le_of_ble_eq_true rfl) dX5_rank_2 (fun E1 H locs hE2 hn3 hI => ?_)
  have hM := hM.top (th1 := 0) (nw1 := nw) (n1 := n) hE2 (fun q hq => hn3 q hq)
  have hS := hS.kept (fun q h1 h2 => hn3 q (by omega))
  have hA := hA.kept (fun q h1 h2 => hn3 q (by omega))
  have hfr : ∀ q : Nat, (q < 50 ∨ 91 ≤ q) → E1 q = E q := fun q hq => (hn3 q (by omega)).trans (hfr q hq)
  refine lv_aload_n hx hb dX5_rank_5 rfl (lv_at hl 0 rfl) ?_
  refine lv_iload_n hx hb dX5_rank_6 rfl (lv_at hl 1 rfl) ?_
  refine f_calli1 (va_runV (As := [.int x]) (rest := []) ⟨hx, hb, hml, hown, hts⟩ (m_X5_isBoat l (hMm _ (by decide)) hM hN6 x) (cwV 1 hts gX5_rank_X5_isBoat rfl rfl rfl (by decide +kernel) ⟨Nat.le_of_ble_eq_true rfl, Nat.le_of_ble_eq_true rfl⟩) (fPre_ofV hG hI rfl (hMm _ (by omega)) (hM.1) rfl rfl) rfl rfl hl.1 rfl (lv_room (Nat.le_of_ble_eq_true rfl)) dX5_rank_7 ⟨Nat.le_of_ble_eq_true rfl, Nat.le_of_ble_eq_true rfl⟩) hI (fun r4 E5 H locs hp hI => ?_)
  obtain ⟨he, hq⟩ := hp
  rw [hq] at hI
  refine lv_if_eq (tgt := 21) hx hb dX5_rank_10 (by decide) (fun c_10 => ?_) (fun c_10 => ?_)
  · have p_10 := bl_f he c_10
    refine lv_aload_n hx hb dX5_rank_21 rfl (lv_at hl 0 rfl) ?_
    refine lv_iconst (v := 1) hx hb dX5_rank_22 (by decide) ?_
    refine f_calli1 (va_runV (As := [.int 1]) (rest := []) ⟨hx, hb, hml, hown, hts⟩ (m_X5_no l (hMm _ (by decide)) hM 1) (cwV 1 hts gX5_rank_X5_no rfl rfl rfl (by decide +kernel) ⟨Nat.le_of_ble_eq_true rfl, Nat.le_of_ble_eq_true rfl⟩) (fPre_ofV hG hI rfl (hMm _ (by omega)) (hM.1) rfl rfl) rfl rfl hl.1 rfl (lv_room (Nat.le_of_ble_eq_true rfl)) dX5_rank_23 ⟨Nat.le_of_ble_eq_true rfl, Nat.le_of_ble_eq_true rfl⟩) hI (fun r6 E7 H locs hp hI => ?_)
    obtain ⟨he, hM, hn9⟩ := hp
    subst he
    have hS := hS.kept (fun q h1 h2 => hn9 q (by omega))
    have hA := hA.kept (fun q h1 h2 => hn9 q (by omega))
    have hfr : ∀ q : Nat, (q < 50 ∨ 91 ≤ q) → E7 q = E q := fun q hq => (hn9 q (by omega)).trans (hfr q hq)
    have hc : c_rank n x = 1 := if_neg p_10
    exact f_reti hQ hx hb hr hlocks hI.2.2 (by omega) (by omega) dX5_rank_26 E7 (fB_of hI) (Or.inr ⟨by rw [hc]; decide, rfl, by rw [hc]; exact ⟨hM, hS, _, _, hTa, hA⟩, hfr⟩)
  · have p_10 := bl_t he c_10
    obtain ⟨u, hu, hxu⟩ := ix_nat p_10 (by omega)
    subst hxu
    have hclu : (nI u).toNatClampNeg = u := nI_clamp (by omega)
    refine lv_aload_n hx hb dX5_rank_13 rfl (lv_at hl 0 rfl) ?_
    refine lv_iload_n hx hb dX5_rank_14 rfl (lv_at hl 1 rfl) ?_
    refine f_calli1 (va_runV (As := [.int (nI u)]) (rest := []) ⟨hx, hb, hml, hown, hts⟩ (m_X5_rankOf l ⟨hM, hS, _, _, hTa, hA⟩ hMm hNW hN6 hTb hrv hok h99 (u := u) (by omega)) (cwV 1 hts gX5_rank_X5_rankOf rfl rfl rfl (by decide +kernel) ⟨Nat.le_of_ble_eq_true rfl, Nat.le_of_ble_eq_true rfl⟩) (fPre_ofV hG hI rfl (hMm _ (by omega)) (hM.1) rfl rfl) rfl rfl hl.1 rfl (lv_room (Nat.le_of_ble_eq_true rfl)) dX5_rank_15 ⟨Nat.le_of_ble_eq_true rfl, Nat.le_of_ble_eq_true rfl⟩) hI (fun r8 E9 H locs hp hI => ?_)
    obtain ⟨he, hq⟩ := hp
    rw [hq] at hI
    have he : r8 = (1 + p_rk (mb S str) (mb S str u) n) := he
    subst he
    refine lv_goto (tgt := 26) hx hb dX5_rank_18 (by decide) ?_
    have hc : c_rank n (nI u) = 0 := if_pos p_10
    exact f_reti hQ hx hb hr hlocks hI.2.2 (by omega) (by omega) dX5_rank_26 E1 (fB_of hI) (Or.inl ⟨hc, (by rw [hclu]), ⟨hM, hS, _, _, hTa, hA⟩, hfr⟩)
