set_option maxHeartbeats 4000000 in
set_option maxRecDepth 100000 in
theorem m_X5_foresee (l : Launch) {D : va_G} {cI cJ cB : ClassId} {t0 z : Nat} {tx ad : Nat → Nat} {L : List Nat} {E : Nat → va_E} {th : Int32} {w p g : Nat → Int32} {nw n T : Nat} {str : Nat → Int32} {S : Nat → Nat → Int32} (hMS : mm cI ad E th w p g nw n T str S) (hMm : ∀ k, (50 ≤ k ∧ k < 55) ∨ (60 ≤ k ∧ k < 71) ∨ (80 ≤ k ∧ k < 91) → k ∈ L) (hNW : nw ≤ 6) (hN6 : n ≤ 6) (hTb : T < 2 ^ 30) (hrv : okr w p nw) (hok : ∀ q, q < n → okb (mb S str q)) (h99 : 99 ∉ L) (x y : Int32) : Met l yX5_foresee wsX5_foresee ({ frames := 4, cells := 1, slots := 7, locals := 90 } : Room) (va_Pc [.ref (ad 50), .int x, .int y] (fPre D cI cJ cB t0 z tx ad L E)) (va_Qi (fun (r : Int32) (E1 : Nat → va_E) => (c_foresee x y = 0 ∧ r = p_cnt nw n (T + x.toNatClampNeg) (mb (m_run w p g nw T n str S x.toNatClampNeg) str) y.toNatClampNeg ∧ mm cI ad E1 0 w p g nw n T str S ∧ ∀ q : Nat, (q < 50 ∨ 91 ≤ q) → E1 q = E q) ∨ (¬ c_foresee x y = 0 ∧ r = 0 ∧ mm cI ad E1 (c_foresee x y) w p g nw n T str S ∧ ∀ q : Nat, (q < 50 ∨ 91 ≤ q) → E1 q = E q)) (fB D z ad L) (fA z)) 1 7 (fA z) := by
  refine f_ofW (cc := cX5_foresee) (maxL := 4) (ret := some .int) (by decide) rfl (Nat.le_of_ble_eq_true rfl) ?_
  intro pr e s m args below meth c Q hx hb hr hml hts hown hlocks hin hG H locs hI hQ ls hl
  have hl : lv_has ls 4 [(0, .ref (ad 50)), (1, .int x), (2, .int y)] := hl
  have hfr : ∀ q : Nat, (q < 50 ∨ 91 ≤ q) → E q = E q := fun _ _ => rfl
  obtain ⟨hM, hS, Ta, Sa, hTa, hA⟩ := id hMS
  refine lv_aload_n hx hb dX5_foresee_0 rfl (lv_at hl 0 rfl) ?_
  refine lv_iconst (v := 0) hx hb dX5_foresee_1 (by decide) ?_
  refine f_put (ci := 5) (v := .int 0) (C := RX5) (T := TX5) (N := 9) hx hb hts (by decide +kernel) tyX5 tyX5_ok nmX5 hown hG.1 hI rfl (hMm _ (by omega)) (hM.1) rfl 0 (by decide) (hts (.fieldLink RX5 34 "CoracleRaceModel" "thrown" "I") (by decide +kernel)) rfl rfl rfl (Nat.le_of_ble_eq_true rfl) dX5_foresee_2 (fun E1 H locs hE2 hn3 hI => ?_)
  have hM := hM.top (th1 := 0) (nw1 := nw) (n1 := n) hE2 (fun q hq => hn3 q hq)
  have hS := hS.kept (fun q h1 h2 => hn3 q (by omega))
  have hA := hA.kept (fun q h1 h2 => hn3 q (by omega))
  have hfr : ∀ q : Nat, (q < 50 ∨ 91 ≤ q) → E1 q = E q := fun q hq => (hn3 q (by omega)).trans (hfr q hq)
  refine lv_iload_n hx hb dX5_foresee_5 rfl (lv_at hl 1 rfl) ?_
  refine lv_iconst (v := 1) hx hb dX5_foresee_6 (by decide) ?_
  refine lv_sipush (v := 200) hx hb dX5_foresee_7 (by decide) ?_
  refine f_calli1 (va_runS (As := [.int x, .int 1, .int 200]) (rest := []) ⟨hx, hb, hml, hown, hts⟩ (m_X5_isFrom l x 1 200) (va_cwS 3 hts gX5_foresee_X5_isFrom rfl rfl rfl (by decide +kernel) ⟨Nat.le_of_ble_eq_true rfl, Nat.le_of_ble_eq_true rfl⟩) (fPre_of hG hI) rfl rfl hl.1 rfl (lv_room (Nat.le_of_ble_eq_true rfl)) dX5_foresee_10 ⟨Nat.le_of_ble_eq_true rfl, Nat.le_of_ble_eq_true rfl⟩) hI (fun r4 E5 H locs hp hI => ?_)
  obtain ⟨he, hq⟩ := hp
  rw [hq] at hI
  refine lv_if_ne (tgt := 22) hx hb dX5_foresee_13 (by decide) (fun c_13 => ?_) (fun c_13 => ?_)
  · have p_13 := bl_t he c_13
    obtain ⟨m9, hm9, hxm9⟩ := le_nat (n := 200) (one_le p_13.1) p_13.2 (by omega)
    subst hxm9
    have hclm9 : (nI m9).toNatClampNeg = m9 := nI_clamp (by omega)
    refine lv_iload_n hx hb dX5_foresee_22 rfl (lv_at hl 2 rfl) ?_
    refine lv_iconst (v := 3) hx hb dX5_foresee_23 (by decide) ?_
    refine lv_bipush (v := 6) hx hb dX5_foresee_24 (by decide) ?_
    refine f_calli1 (va_runS (As := [.int y, .int 3, .int 6]) (rest := []) ⟨hx, hb, hml, hown, hts⟩ (m_X5_isFrom l y 3 6) (va_cwS 3 hts gX5_foresee_X5_isFrom rfl rfl rfl (by decide +kernel) ⟨Nat.le_of_ble_eq_true rfl, Nat.le_of_ble_eq_true rfl⟩) (fPre_of hG hI) rfl rfl hl.1 rfl (lv_room (Nat.le_of_ble_eq_true rfl)) dX5_foresee_26 ⟨Nat.le_of_ble_eq_true rfl, Nat.le_of_ble_eq_true rfl⟩) hI (fun r6 E7 H locs hp hI => ?_)
    obtain ⟨he, hq⟩ := hp
    rw [hq] at hI
    refine lv_if_ne (tgt := 38) hx hb dX5_foresee_29 (by decide) (fun c_29 => ?_) (fun c_29 => ?_)
    · have p_29 := bl_t he c_29
      obtain ⟨v, hv, hxv⟩ := le_nat (n := 6) (three_le p_29.1) p_29.2 (by omega)
      subst hxv
      have hclv : (nI v).toNatClampNeg = v := nI_clamp (by omega)
      refine lv_aload_n hx hb dX5_foresee_38 rfl (lv_at hl 0 rfl) ?_
      refine f_get (ci := 5) (v := .ref (ad 80)) (C := RX5) (T := TX5) (N := 9) hx hb hts (by decide +kernel) hown hG.1 hI rfl (hMm _ (by omega)) (hM.1) rfl 8 (by decide) (hts (.fieldLink RX5 31 "CoracleRaceModel" "ahead" "LCoracleRaceModel$State;") (by decide +kernel)) rfl dX5_foresee_39 ?_
      refine lv_aload_n hx hb dX5_foresee_42 rfl (lv_at hl 0 rfl) ?_
      refine f_get (ci := 5) (v := .ref (ad 60)) (C := RX5) (T := TX5) (N := 9) hx hb hts (by decide +kernel) hown hG.1 hI rfl (hMm _ (by omega)) (hM.1) rfl 7 (by decide) (hts (.fieldLink RX5 27 "CoracleRaceModel" "s" "LCoracleRaceModel$State;") (by decide +kernel)) rfl dX5_foresee_43 ?_
      refine f_callv1 (va_runV (As := [.ref (ad 60)]) (rest := []) ⟨hx, hb, hml, hown, hts⟩ (m_X4_become l (sb := 80) rfl (by decide) (fun k h1 h2 => hMm k (by omega)) hTa hA (so := 60) rfl (by decide) (fun k h1 h2 => hMm k (by omega)) (by omega) hS (by omega)) (cwV 1 hts gX5_foresee_X4_become rfl rfl rfl (by decide +kernel) ⟨Nat.le_of_ble_eq_true rfl, Nat.le_of_ble_eq_true rfl⟩) (fPre_ofV hG hI rfl (hMm _ (by omega)) (hA.1) rfl rfl) rfl rfl hl.1 rfl (lv_room (Nat.le_of_ble_eq_true rfl)) dX5_foresee_46 ⟨Nat.le_of_ble_eq_true rfl, Nat.le_of_ble_eq_true rfl⟩) hI (fun E8 H locs hp hI => ?_)
      obtain ⟨hA, hn9⟩ := hp
      have hM := hM.kept (fun q h1 h2 => hn9 q (by omega))
      have hS := hS.kept (fun q h1 h2 => hn9 q (by omega))
      have hfr : ∀ q : Nat, (q < 50 ∨ 91 ≤ q) → E8 q = E q := fun q hq => (hn9 q (by omega)).trans (hfr q hq)
      refine lv_iconst (v := 0) hx hb dX5_foresee_49 (by decide) ?_
      refine lv_istore_n (lv' := [(3, .int 0), (0, .ref (ad 50)), (1, .int (nI m9)), (2, .int (nI v))]) hx hb dX5_foresee_50 rfl hl (by decide) rfl (fun ls hl => ?_)
      have Kihr : ∀ (k j : Nat), j ≤ m9 → m9 + 1 ≤ j + k → ∀ (Ea : Nat → va_E) (H : Heap) (locs : List Loc) (ls : Array Slot), (m_at cI ad Ea 0 w p g nw n str) → (st_at cI ad Ea 60 T S) → (st_at cI ad Ea 80 (T + j) (m_run w p g nw T n str S j)) → (∀ q : Nat, (q < 50 ∨ 91 ≤ q) → Ea q = E q) → fI D (fA z) s.heap ad L Ea H locs → lv_has ls 4 [(0, .ref (ad 50)), (1, .int (nI m9)), (2, .int (nI v)), (3, .int (nI j))] → W pr l e ({ frames := 4, cells := 1, slots := 7, locals := 90 } : Room) s m args below meth c H locs 0 0 Q (F0 m 51 ls []) := by
        intro k
        induction k with
        | zero => intro j h1 h2; exact absurd h2 (by omega)
        | succ k ihr =>
          intro j hi1j hi2j Ea H locs ls hM hS hA hfr hI hl
          refine lv_iload_n hx hb dX5_foresee_51 rfl (lv_at hl 3 rfl) ?_
          refine lv_iload_n hx hb dX5_foresee_52 rfl (lv_at hl 1 rfl) ?_
          refine lv_icmp_ge (tgt := 69) hx hb dX5_foresee_53 (by decide) (fun c_53 => ?_) (fun c_53 => ?_)
          · have n_53 := i_nlt.mpr c_53
            have hj : j = m9 := by have := (nI_leI (by omega) (by omega)).mp c_53; omega
            rw [hj] at hA
            refine lv_aload_n hx hb dX5_foresee_69 rfl (lv_at hl 0 rfl) ?_
            refine f_get (ci := 5) (v := .ref (ad 80)) (C := RX5) (T := TX5) (N := 9) hx hb hts (by decide +kernel) hown hG.1 hI rfl (hMm _ (by omega)) (hM.1) rfl 8 (by decide) (hts (.fieldLink RX5 31 "CoracleRaceModel" "ahead" "LCoracleRaceModel$State;") (by decide +kernel)) rfl dX5_foresee_70 ?_
            refine lv_iload_n hx hb dX5_foresee_73 rfl (lv_at hl 2 rfl) ?_
            refine f_calli1 (va_runV (As := [.int (nI v)]) (rest := []) ⟨hx, hb, hml, hown, hts⟩ (m_X4_counted l (sb := 80) rfl (by decide) (fun k h1 h2 => hMm k (by omega)) (T := T + m9) (by omega) hA (fun k h1 h2 => hMm k (by omega)) hM hNW hN6 (fun q hq => (okb_run (T := T) (j := m9) hrv hok (by omega) q hq).2.2.1.1) h99 (by decide) v hv) (cwV 1 hts gX5_foresee_X4_counted rfl rfl rfl (by decide +kernel) ⟨Nat.le_of_ble_eq_true rfl, Nat.le_of_ble_eq_true rfl⟩) (fPre_ofV hG hI rfl (hMm _ (by omega)) (hA.1) rfl rfl) rfl rfl hl.1 rfl (lv_room (Nat.le_of_ble_eq_true rfl)) dX5_foresee_74 ⟨Nat.le_of_ble_eq_true rfl, Nat.le_of_ble_eq_true rfl⟩) hI (fun r9 E10 H locs hp hI => ?_)
            obtain ⟨he, hq⟩ := hp
            rw [hq] at hI
            have he : r9 = (p_cnt nw n (T + m9) (mb (m_run w p g nw T n str S m9) str) v) := he
            subst he
            have hc : c_foresee (nI m9) (nI v) = 0 := (if_pos p_13).trans (if_pos p_29)
            exact f_reti hQ hx hb hr hlocks hI.2.2 (by omega) (by omega) dX5_foresee_77 Ea (fB_of hI) (Or.inl ⟨hc, (by rw [hclm9, hclv]), (⟨hM, hS, T + m9, _, by omega, hA⟩), hfr⟩)
          · have n_53 := c_53
            have c_53 := i_nle.mp n_53
            have hj : j < m9 := (nI_ltI (by omega) (by omega)).mp c_53
            have hcl : (nI j).toNatClampNeg = j := nI_clamp (by omega)
            refine lv_aload_n hx hb dX5_foresee_56 rfl (lv_at hl 0 rfl) ?_
            refine f_get (ci := 5) (v := .ref (ad 80)) (C := RX5) (T := TX5) (N := 9) hx hb hts (by decide +kernel) hown hG.1 hI rfl (hMm _ (by omega)) (hM.1) rfl 8 (by decide) (hts (.fieldLink RX5 31 "CoracleRaceModel" "ahead" "LCoracleRaceModel$State;") (by decide +kernel)) rfl dX5_foresee_57 ?_
            refine f_callv1 (va_runV (As := []) (rest := []) ⟨hx, hb, hml, hown, hts⟩ (m_X4_go_ l (sb := 80) rfl (by decide) (fun k h1 h2 => hMm k (by omega)) (by omega) hA (fun k h1 h2 => hMm k (by omega)) hM hNW hN6 hrv (okb_run hrv hok (by omega))) (cwV 0 hts gX5_foresee_X4_go_ rfl rfl rfl (by decide +kernel) ⟨Nat.le_of_ble_eq_true rfl, Nat.le_of_ble_eq_true rfl⟩) (fPre_ofV hG hI rfl (hMm _ (by omega)) (hA.1) rfl rfl) rfl rfl hl.1 rfl (lv_room (Nat.le_of_ble_eq_true rfl)) dX5_foresee_60 ⟨Nat.le_of_ble_eq_true rfl, Nat.le_of_ble_eq_true rfl⟩) hI (fun E11 H locs hp hI => ?_)
            obtain ⟨hA, hn9⟩ := hp
            have hM := hM.kept (fun q h1 h2 => hn9 q (by omega))
            have hS := hS.kept (fun q h1 h2 => hn9 q (by omega))
            have hfr : ∀ q : Nat, (q < 50 ∨ 91 ≤ q) → E11 q = E q := fun q hq => (hn9 q (by omega)).trans (hfr q hq)
            refine lv_iinc (v := (nI (j + 1))) (lv' := [(3, .int (nI (j + 1))), (0, .ref (ad 50)), (1, .int (nI m9)), (2, .int (nI v))]) hx hb dX5_foresee_63 hl (k := 3) rfl (nI_1 j) (by decide) rfl (fun ls hl => ?_)
            refine lv_goto (tgt := 51) hx hb dX5_foresee_66 (by decide) ?_
            exact ihr (j + 1) (by omega) (by omega) E11 H locs ls hM hS hA hfr hI (lv_sub hl [1, 2, 3, 0] rfl)
      exact Kihr (m9 + 1) 0 (Nat.zero_le _) (by omega) E8 H locs ls hM hS hA hfr hI (lv_sub hl [1, 2, 3, 0] rfl)
    · have p_29 := bl_f he c_29
      refine lv_aload_n hx hb dX5_foresee_32 rfl (lv_at hl 0 rfl) ?_
      refine lv_iconst (v := 2) hx hb dX5_foresee_33 (by decide) ?_
      refine f_calli1 (va_runV (As := [.int 2]) (rest := []) ⟨hx, hb, hml, hown, hts⟩ (m_X5_no l (hMm _ (by decide)) hM 2) (cwV 1 hts gX5_foresee_X5_no rfl rfl rfl (by decide +kernel) ⟨Nat.le_of_ble_eq_true rfl, Nat.le_of_ble_eq_true rfl⟩) (fPre_ofV hG hI rfl (hMm _ (by omega)) (hM.1) rfl rfl) rfl rfl hl.1 rfl (lv_room (Nat.le_of_ble_eq_true rfl)) dX5_foresee_34 ⟨Nat.le_of_ble_eq_true rfl, Nat.le_of_ble_eq_true rfl⟩) hI (fun r12 E13 H locs hp hI => ?_)
      obtain ⟨he, hM, hn9⟩ := hp
      subst he
      have hS := hS.kept (fun q h1 h2 => hn9 q (by omega))
      have hA := hA.kept (fun q h1 h2 => hn9 q (by omega))
      have hfr : ∀ q : Nat, (q < 50 ∨ 91 ≤ q) → E13 q = E q := fun q hq => (hn9 q (by omega)).trans (hfr q hq)
      have hc : c_foresee (nI m9) y = 2 := (if_pos p_13).trans (if_neg p_29)
      exact f_reti hQ hx hb hr hlocks hI.2.2 (by omega) (by omega) dX5_foresee_37 E13 (fB_of hI) (Or.inr ⟨by rw [hc]; decide, rfl, by rw [hc]; exact ⟨hM, hS, _, _, hTa, hA⟩, hfr⟩)
  · have p_13 := bl_f he c_13
    refine lv_aload_n hx hb dX5_foresee_16 rfl (lv_at hl 0 rfl) ?_
    refine lv_iconst (v := 1) hx hb dX5_foresee_17 (by decide) ?_
    refine f_calli1 (va_runV (As := [.int 1]) (rest := []) ⟨hx, hb, hml, hown, hts⟩ (m_X5_no l (hMm _ (by decide)) hM 1) (cwV 1 hts gX5_foresee_X5_no rfl rfl rfl (by decide +kernel) ⟨Nat.le_of_ble_eq_true rfl, Nat.le_of_ble_eq_true rfl⟩) (fPre_ofV hG hI rfl (hMm _ (by omega)) (hM.1) rfl rfl) rfl rfl hl.1 rfl (lv_room (Nat.le_of_ble_eq_true rfl)) dX5_foresee_18 ⟨Nat.le_of_ble_eq_true rfl, Nat.le_of_ble_eq_true rfl⟩) hI (fun r14 E15 H locs hp hI => ?_)
    obtain ⟨he, hM, hn9⟩ := hp
    subst he
    have hS := hS.kept (fun q h1 h2 => hn9 q (by omega))
    have hA := hA.kept (fun q h1 h2 => hn9 q (by omega))
    have hfr : ∀ q : Nat, (q < 50 ∨ 91 ≤ q) → E15 q = E q := fun q hq => (hn9 q (by omega)).trans (hfr q hq)
    have hc : c_foresee x y = 1 := if_neg p_13
    exact f_reti hQ hx hb hr hlocks hI.2.2 (by omega) (by omega) dX5_foresee_21 E15 (fB_of hI) (Or.inr ⟨by rw [hc]; decide, rfl, by rw [hc]; exact ⟨hM, hS, _, _, hTa, hA⟩, hfr⟩)

set_option maxHeartbeats 4000000 in
set_option maxRecDepth 100000 in
theorem m_X5_arrives (l : Launch) {D : va_G} {cI cJ cB : ClassId} {t0 z : Nat} {tx ad : Nat → Nat} {L : List Nat} {E : Nat → va_E} {th : Int32} {w p g : Nat → Int32} {nw n T : Nat} {str : Nat → Int32} {S : Nat → Nat → Int32} (hMS : mm cI ad E th w p g nw n T str S) (hMm : ∀ k, (50 ≤ k ∧ k < 55) ∨ (60 ≤ k ∧ k < 71) ∨ (80 ≤ k ∧ k < 91) → k ∈ L) (hNW : nw ≤ 6) (hN6 : n ≤ 6) (hTb : T < 2 ^ 30) (hrv : okr w p nw) (hok : ∀ q, q < n → okb (mb S str q)) (h99 : 99 ∉ L) (x : Int32) : Met l yX5_arrives wsX5_arrives ({ frames := 4, cells := 0, slots := 0, locals := 90 } : Room) (va_Pc [.ref (ad 50), .int x] (fPre D cI cJ cB t0 z tx ad L E)) (va_Qi (fun (r : Int32) (E1 : Nat → va_E) => (c_rank n x = 0 ∧ r = p_arr w p g nw T (m_row (S 9 x.toNatClampNeg) (S 8 x.toNatClampNeg)) (mb S str x.toNatClampNeg) 0 401 ∧ mm cI ad E1 0 w p g nw n T str S ∧ ∀ q : Nat, (q < 50 ∨ 91 ≤ q) → E1 q = E q) ∨ (¬ c_rank n x = 0 ∧ r = 0 ∧ mm cI ad E1 (c_rank n x) w p g nw n T str S ∧ ∀ q : Nat, (q < 50 ∨ 91 ≤ q) → E1 q = E q)) (fB D z ad L) (fA z)) 0 0 (fA z) := by
  refine f_ofW (cc := cX5_arrives) (maxL := 3) (ret := some .int) (by decide) rfl (Nat.le_of_ble_eq_true rfl) ?_
  intro pr e s m args below meth c Q hx hb hr hml hts hown hlocks hin hG H locs hI hQ ls hl
  have hl : lv_has ls 3 [(0, .ref (ad 50)), (1, .int x)] := hl
  have hfr : ∀ q : Nat, (q < 50 ∨ 91 ≤ q) → E q = E q := fun _ _ => rfl
  obtain ⟨hM, hS, Ta, Sa, hTa, hA⟩ := id hMS
  refine lv_aload_n hx hb dX5_arrives_0 rfl (lv_at hl 0 rfl) ?_
  refine lv_iconst (v := 0) hx hb dX5_arrives_1 (by decide) ?_
  refine f_put (ci := 5) (v := .int 0) (C := RX5) (T := TX5) (N := 9) hx hb hts (by decide +kernel) tyX5 tyX5_ok nmX5 hown hG.1 hI rfl (hMm _ (by omega)) (hM.1) rfl 0 (by decide) (hts (.fieldLink RX5 34 "CoracleRaceModel" "thrown" "I") (by decide +kernel)) rfl rfl rfl (Nat.le_of_ble_eq_true rfl) dX5_arrives_2 (fun E1 H locs hE2 hn3 hI => ?_)
  have hM := hM.top (th1 := 0) (nw1 := nw) (n1 := n) hE2 (fun q hq => hn3 q hq)
  have hS := hS.kept (fun q h1 h2 => hn3 q (by omega))
  have hA := hA.kept (fun q h1 h2 => hn3 q (by omega))
  have hfr : ∀ q : Nat, (q < 50 ∨ 91 ≤ q) → E1 q = E q := fun q hq => (hn3 q (by omega)).trans (hfr q hq)
  refine lv_aload_n hx hb dX5_arrives_5 rfl (lv_at hl 0 rfl) ?_
  refine lv_iload_n hx hb dX5_arrives_6 rfl (lv_at hl 1 rfl) ?_
  refine f_calli1 (va_runV (As := [.int x]) (rest := []) ⟨hx, hb, hml, hown, hts⟩ (m_X5_isBoat l (hMm _ (by decide)) hM hN6 x) (cwV 1 hts gX5_arrives_X5_isBoat rfl rfl rfl (by decide +kernel) ⟨Nat.le_of_ble_eq_true rfl, Nat.le_of_ble_eq_true rfl⟩) (fPre_ofV hG hI rfl (hMm _ (by omega)) (hM.1) rfl rfl) rfl rfl hl.1 rfl (lv_room (Nat.le_of_ble_eq_true rfl)) dX5_arrives_7 ⟨Nat.le_of_ble_eq_true rfl, Nat.le_of_ble_eq_true rfl⟩) hI (fun r4 E5 H locs hp hI => ?_)
  obtain ⟨he, hq⟩ := hp
  rw [hq] at hI
  refine lv_if_ne (tgt := 19) hx hb dX5_arrives_10 (by decide) (fun c_10 => ?_) (fun c_10 => ?_)
  · have p_10 := bl_t he c_10
    obtain ⟨u, hu, hxu⟩ := ix_nat p_10 (by omega)
    subst hxu
    have hclu : (nI u).toNatClampNeg = u := nI_clamp (by omega)
    refine lv_aload_n hx hb dX5_arrives_19 rfl (lv_at hl 0 rfl) ?_
    refine f_get (ci := 5) (v := .ref (ad 80)) (C := RX5) (T := TX5) (N := 9) hx hb hts (by decide +kernel) hown hG.1 hI rfl (hMm _ (by omega)) (hM.1) rfl 8 (by decide) (hts (.fieldLink RX5 31 "CoracleRaceModel" "ahead" "LCoracleRaceModel$State;") (by decide +kernel)) rfl dX5_arrives_20 ?_
    refine lv_aload_n hx hb dX5_arrives_23 rfl (lv_at hl 0 rfl) ?_
    refine f_get (ci := 5) (v := .ref (ad 60)) (C := RX5) (T := TX5) (N := 9) hx hb hts (by decide +kernel) hown hG.1 hI rfl (hMm _ (by omega)) (hM.1) rfl 7 (by decide) (hts (.fieldLink RX5 27 "CoracleRaceModel" "s" "LCoracleRaceModel$State;") (by decide +kernel)) rfl dX5_arrives_24 ?_
    refine f_callv1 (va_runV (As := [.ref (ad 60)]) (rest := []) ⟨hx, hb, hml, hown, hts⟩ (m_X4_become l (sb := 80) rfl (by decide) (fun k h1 h2 => hMm k (by omega)) hTa hA (so := 60) rfl (by decide) (fun k h1 h2 => hMm k (by omega)) (by omega) hS (by omega)) (cwV 1 hts gX5_arrives_X4_become rfl rfl rfl (by decide +kernel) ⟨Nat.le_of_ble_eq_true rfl, Nat.le_of_ble_eq_true rfl⟩) (fPre_ofV hG hI rfl (hMm _ (by omega)) (hA.1) rfl rfl) rfl rfl hl.1 rfl (lv_room (Nat.le_of_ble_eq_true rfl)) dX5_arrives_27 ⟨Nat.le_of_ble_eq_true rfl, Nat.le_of_ble_eq_true rfl⟩) hI (fun E6 H locs hp hI => ?_)
    obtain ⟨hA, hn9⟩ := hp
    have hM := hM.kept (fun q h1 h2 => hn9 q (by omega))
    have hS := hS.kept (fun q h1 h2 => hn9 q (by omega))
    have hfr : ∀ q : Nat, (q < 50 ∨ 91 ≤ q) → E6 q = E q := fun q hq => (hn9 q (by omega)).trans (hfr q hq)
    refine lv_iconst (v := 0) hx hb dX5_arrives_30 (by decide) ?_
    refine lv_istore_n (lv' := [(2, .int 0), (0, .ref (ad 50)), (1, .int (nI u))]) hx hb dX5_arrives_31 rfl hl (by decide) rfl (fun ls hl => ?_)
    have Kihr : ∀ (k j : Nat), j ≤ 401 → 401 + 1 ≤ j + k → ∀ (Ea : Nat → va_E) (H : Heap) (locs : List Loc) (ls : Array Slot), (m_at cI ad Ea 0 w p g nw n str) → (st_at cI ad Ea 60 T S) → (st_at cI ad Ea 80 (T + j) (m_run w p g nw T n str S j)) → (∀ q : Nat, (q < 50 ∨ 91 ≤ q) → Ea q = E q) → (p_arr w p g nw T (m_row (S 9 u) (S 8 u)) (mb S str u) 0 401 = p_arr w p g nw T (m_row (S 9 u) (S 8 u)) (mb S str u) j (401 - j)) → fI D (fA z) s.heap ad L Ea H locs → lv_has ls 3 [(0, .ref (ad 50)), (1, .int (nI u)), (2, .int (nI j))] → W pr l e ({ frames := 4, cells := 0, slots := 0, locals := 90 } : Room) s m args below meth c H locs 0 0 Q (F0 m 32 ls []) := by
      intro k
      induction k with
      | zero => intro j h1 h2; exact absurd h2 (by omega)
      | succ k ihr =>
        intro j hi1j hi2j Ea H locs ls hM hS hA hfr hv hI hl
        refine lv_iload_n hx hb dX5_arrives_32 rfl (lv_at hl 2 rfl) ?_
        refine lv_sipush (v := 400) hx hb dX5_arrives_33 (by decide) ?_
        refine lv_icmp_gt (tgt := 65) hx hb dX5_arrives_36 (by decide) (fun c_36 => ?_) (fun c_36 => ?_)
        · have n_36 := i_nle.mpr c_36
          have hj : j = 401 := by have := (nI_ltI (by omega) (by omega) (a := 400)).mp c_36; omega
          refine lv_iconst (v := -1) hx hb dX5_arrives_65 (by decide) ?_
          have hc : c_rank n (nI u) = 0 := if_pos p_10
          exact f_reti hQ hx hb hr hlocks hI.2.2 (by omega) (by omega) dX5_arrives_66 Ea (fB_of hI) (Or.inl ⟨hc, (by rw [hclu, hv, hj]; rfl), ⟨hM, hS, T + j, _, by omega, hA⟩, hfr⟩)
        · have n_36 := c_36
          have c_36 := i_nlt.mp n_36
          have hj : j ≤ 400 := (nI_leI (by omega) (by omega) (b := 400)).mp c_36
          refine lv_aload_n hx hb dX5_arrives_39 rfl (lv_at hl 0 rfl) ?_
          refine f_get (ci := 5) (v := .ref (ad 80)) (C := RX5) (T := TX5) (N := 9) hx hb hts (by decide +kernel) hown hG.1 hI rfl (hMm _ (by omega)) (hM.1) rfl 8 (by decide) (hts (.fieldLink RX5 31 "CoracleRaceModel" "ahead" "LCoracleRaceModel$State;") (by decide +kernel)) rfl dX5_arrives_40 ?_
          refine lv_iload_n hx hb dX5_arrives_43 rfl (lv_at hl 1 rfl) ?_
          refine f_calli1 (va_runV (As := [.int (nI u)]) (rest := []) ⟨hx, hb, hml, hown, hts⟩ (m_X4_isIn l (sb := 80) rfl (by decide) (fun k h1 h2 => hMm k (by omega)) (T := T + j) (by omega) (u := u) (by omega) hA) (cwV 1 hts gX5_arrives_X4_isIn rfl rfl rfl (by decide +kernel) ⟨Nat.le_of_ble_eq_true rfl, Nat.le_of_ble_eq_true rfl⟩) (fPre_ofV hG hI rfl (hMm _ (by omega)) (hA.1) rfl rfl) rfl rfl hl.1 rfl (lv_room (Nat.le_of_ble_eq_true rfl)) dX5_arrives_44 ⟨Nat.le_of_ble_eq_true rfl, Nat.le_of_ble_eq_true rfl⟩) hI (fun r7 E8 H locs hp hI => ?_)
          obtain ⟨he, hq⟩ := hp
          rw [hq] at hI
          refine lv_if_eq (tgt := 52) hx hb dX5_arrives_47 (by decide) (fun c_47 => ?_) (fun c_47 => ?_)
          · have p_47 := bl_f he c_47
            have q_47 := Decidable.not_not.mp p_47
            have hb8 : mb (m_run w p g nw T n str S j) str u 8 = p_boat w p g nw T (m_row (S 9 u) (S 8 u)) (mb S str u) j 8 := congrFun ((m_run_at (T := T) hrv hok j (by omega)).2 u hu) 8
            have h8z : p_boat w p g nw T (m_row (S 9 u) (S 8 u)) (mb S str u) j 8 = 0 := hb8.symm.trans ((mb_89 u).mpr q_47)
            refine lv_aload_n hx hb dX5_arrives_52 rfl (lv_at hl 0 rfl) ?_
            refine f_get (ci := 5) (v := .ref (ad 80)) (C := RX5) (T := TX5) (N := 9) hx hb hts (by decide +kernel) hown hG.1 hI rfl (hMm _ (by omega)) (hM.1) rfl 8 (by decide) (hts (.fieldLink RX5 31 "CoracleRaceModel" "ahead" "LCoracleRaceModel$State;") (by decide +kernel)) rfl dX5_arrives_53 ?_
            refine f_callv1 (va_runV (As := []) (rest := []) ⟨hx, hb, hml, hown, hts⟩ (m_X4_go_ l (sb := 80) rfl (by decide) (fun k h1 h2 => hMm k (by omega)) (by omega) hA (fun k h1 h2 => hMm k (by omega)) hM hNW hN6 hrv (okb_run hrv hok (by omega))) (cwV 0 hts gX5_arrives_X4_go_ rfl rfl rfl (by decide +kernel) ⟨Nat.le_of_ble_eq_true rfl, Nat.le_of_ble_eq_true rfl⟩) (fPre_ofV hG hI rfl (hMm _ (by omega)) (hA.1) rfl rfl) rfl rfl hl.1 rfl (lv_room (Nat.le_of_ble_eq_true rfl)) dX5_arrives_56 ⟨Nat.le_of_ble_eq_true rfl, Nat.le_of_ble_eq_true rfl⟩) hI (fun E9 H locs hp hI => ?_)
            obtain ⟨hA, hn9⟩ := hp
            have hM := hM.kept (fun q h1 h2 => hn9 q (by omega))
            have hS := hS.kept (fun q h1 h2 => hn9 q (by omega))
            have hfr : ∀ q : Nat, (q < 50 ∨ 91 ≤ q) → E9 q = E q := fun q hq => (hn9 q (by omega)).trans (hfr q hq)
            refine lv_iinc (v := (nI (j + 1))) (lv' := [(2, .int (nI (j + 1))), (0, .ref (ad 50)), (1, .int (nI u))]) hx hb dX5_arrives_59 hl (k := 2) rfl (nI_1 j) (by decide) rfl (fun ls hl => ?_)
            refine lv_goto (tgt := 32) hx hb dX5_arrives_62 (by decide) ?_
            exact ihr (j + 1) (by omega) (by omega) E9 H locs ls hM hS hA hfr (by rw [hv, show 401 - j = (401 - (j + 1)) + 1 by omega, p_arr, if_pos h8z]) hI (lv_sub hl [1, 2, 0] rfl)
          · have p_47 := bl_t he c_47
            have hb8 : mb (m_run w p g nw T n str S j) str u 8 = p_boat w p g nw T (m_row (S 9 u) (S 8 u)) (mb S str u) j 8 := congrFun ((m_run_at (T := T) hrv hok j (by omega)).2 u hu) 8
            have h8z : ¬ p_boat w p g nw T (m_row (S 9 u) (S 8 u)) (mb S str u) j 8 = 0 := fun q => p_47 ((mb_89 (str := str) u).mp (hb8.trans q))
            refine lv_iload_n hx hb dX5_arrives_50 rfl (lv_at hl 2 rfl) ?_
            have hc : c_rank n (nI u) = 0 := if_pos p_10
            exact f_reti hQ hx hb hr hlocks hI.2.2 (by omega) (by omega) dX5_arrives_51 Ea (fB_of hI) (Or.inl ⟨hc, (by rw [hclu, hv, show 401 - j = (401 - (j + 1)) + 1 by omega, p_arr, if_neg h8z]), ⟨hM, hS, T + j, _, by omega, hA⟩, hfr⟩)
    exact Kihr (401 + 1) 0 (Nat.zero_le _) (by omega) E6 H locs ls hM hS hA hfr rfl hI (lv_sub hl [1, 2, 0] rfl)
  · have p_10 := bl_f he c_10
    refine lv_aload_n hx hb dX5_arrives_13 rfl (lv_at hl 0 rfl) ?_
    refine lv_iconst (v := 1) hx hb dX5_arrives_14 (by decide) ?_
    refine f_calli1 (va_runV (As := [.int 1]) (rest := []) ⟨hx, hb, hml, hown, hts⟩ (m_X5_no l (hMm _ (by decide)) hM 1) (cwV 1 hts gX5_arrives_X5_no rfl rfl rfl (by decide +kernel) ⟨Nat.le_of_ble_eq_true rfl, Nat.le_of_ble_eq_true rfl⟩) (fPre_ofV hG hI rfl (hMm _ (by omega)) (hM.1) rfl rfl) rfl rfl hl.1 rfl (lv_room (Nat.le_of_ble_eq_true rfl)) dX5_arrives_15 ⟨Nat.le_of_ble_eq_true rfl, Nat.le_of_ble_eq_true rfl⟩) hI (fun r10 E11 H locs hp hI => ?_)
    obtain ⟨he, hM, hn9⟩ := hp
    subst he
    have hS := hS.kept (fun q h1 h2 => hn9 q (by omega))
    have hA := hA.kept (fun q h1 h2 => hn9 q (by omega))
    have hfr : ∀ q : Nat, (q < 50 ∨ 91 ≤ q) → E11 q = E q := fun q hq => (hn9 q (by omega)).trans (hfr q hq)
    have hc : c_rank n x = 1 := if_neg p_10
    exact f_reti hQ hx hb hr hlocks hI.2.2 (by omega) (by omega) dX5_arrives_18 E11 (fB_of hI) (Or.inr ⟨by rw [hc]; decide, rfl, by rw [hc]; exact ⟨hM, hS, _, _, hTa, hA⟩, hfr⟩)

/-- how far the boat u comes with a pattern, as the reference has it -/
def m_far (w p g : Nat → Int32) (nw T n : Nat) (str : Nat → Int32) (S : Nat → Nat → Int32) (u m : Nat) (i : Nat) : Int32 := m_run w p g nw T n str (m_pad S u 2 (nI i)) m 0 u
def m_adv (w p g : Nat → Int32) (nw T n : Nat) (str : Nat → Int32) (S : Nat → Nat → Int32) (u m : Nat) : Nat → Int32 × Int32
  | 0 => (-1, -1)
  | i + 1 => if p_rem (nI i) 10 ≤ 3 then (if (m_adv w p g nw T n str S u m i).2 < m_far w p g nw T n str S u m i then (nI i, m_far w p g nw T n str S u m i) else m_adv w p g nw T n str S u m i) else m_adv w p g nw T n str S u m i
theorem mb_pad {S : Nat → Nat → Int32} {str : Nat → Int32} {u : Nat} {len d : Int32} (q : Nat) : mb (m_pad S u len d) str q = if q = u then va_up (mb S str q) 1 len else mb S str q := by
  have e : ∀ j, j ≠ 8 → j ≠ 9 → m_pad S u len d j = S j := fun j h8 h9 => by
    unfold m_pad
    rw [va_up_ne _ _ h9, va_up_ne _ _ h8]
  have e8 : m_pad S u len d 8 = upd (S 8) u len := by
    unfold m_pad
    rw [va_up_ne _ _ (by decide), va_up_self]
  funext k
  have hk : mb (m_pad S u len d) str q k = if k = 1 then upd (S 8) u len q else mb S str q k := by
    match k with
    | 0 => rfl
    | 1 => exact congrFun e8 q
    | 2 => rfl
    | 3 => exact congrFun (e 0 (by decide) (by decide)) q
    | 4 => exact congrFun (e 1 (by decide) (by decide)) q
    | 5 => exact congrFun (e 2 (by decide) (by decide)) q
    | 6 => exact congrFun (e 3 (by decide) (by decide)) q
    | 7 => exact congrFun (e 4 (by decide) (by decide)) q
    | 8 =>
      show (if m_pad S u len d 5 q = -1 then (0 : Int32) else 1) = _
      rw [e 5 (by decide) (by decide)]
      rfl
    | 9 =>
      show (if m_pad S u len d 5 q = -1 then (0 : Int32) else m_pad S u len d 5 q) = _
      rw [e 5 (by decide) (by decide)]
      rfl
    | 10 => exact congrFun (e 6 (by decide) (by decide)) q
    | 11 => exact congrFun (e 7 (by decide) (by decide)) q
    | k + 12 => rfl
  rw [hk]
  by_cases hq : q = u
  · subst hq
    rw [if_pos rfl]
    by_cases h1 : k = 1
    · subst h1
      rw [if_pos rfl, va_up_self]
      exact pk_us
    · rw [if_neg h1, va_up_ne _ _ h1]
  · rw [if_neg hq]
    by_cases h1 : k = 1
    · subst h1
      rw [if_pos rfl]
      exact if_neg hq
    · rw [if_neg h1]
theorem okb_len1 {c : Nat → Int32} {len : Int32} (h : okb c) (hl : 1 ≤ len ∧ len ≤ 6) : okb (va_up c 1 len) := by
  obtain ⟨h1, h2, h3, h4, h5, h6, h7⟩ := h
  exact ⟨hl, h2, h3, h4, h5, h6, h7⟩
theorem okb_pad {S : Nat → Nat → Int32} {str : Nat → Int32} {u n : Nat} {len d : Int32} (hl : 1 ≤ len ∧ len ≤ 6) (ok : ∀ q, q < n → okb (mb S str q)) : ∀ q, q < n → okb (mb (m_pad S u len d) str q) := fun q hq => by
  rw [mb_pad]
  split
  · exact okb_len1 (ok q hq) hl
  · exact ok q hq
set_option maxHeartbeats 4000000 in
set_option maxRecDepth 100000 in
theorem m_X5_advise (l : Launch) {D : va_G} {cI cJ cB : ClassId} {t0 z : Nat} {tx ad : Nat → Nat} {L : List Nat} {E : Nat → va_E} {th : Int32} {w p g : Nat → Int32} {nw n T : Nat} {str : Nat → Int32} {S : Nat → Nat → Int32} (hMS : mm cI ad E th w p g nw n T str S) (hMm : ∀ k, (50 ≤ k ∧ k < 55) ∨ (60 ≤ k ∧ k < 71) ∨ (80 ≤ k ∧ k < 91) → k ∈ L) (hNW : nw ≤ 6) (hN6 : n ≤ 6) (hTb : T < 2 ^ 30) (hrv : okr w p nw) (hok : ∀ q, q < n → okb (mb S str q)) (h99 : 99 ∉ L) (x y : Int32) : Met l yX5_advise wsX5_advise ({ frames := 4, cells := 0, slots := 0, locals := 90 } : Room) (va_Pc [.ref (ad 50), .int x, .int y] (fPre D cI cJ cB t0 z tx ad L E)) (va_Qi (fun (r : Int32) (E1 : Nat → va_E) => (c_advise n x y = 0 ∧ r = (m_adv w p g nw T n str S x.toNatClampNeg y.toNatClampNeg 34).1 ∧ mm cI ad E1 0 w p g nw n T str S ∧ ∀ q : Nat, (q < 50 ∨ 91 ≤ q) → E1 q = E q) ∨ (¬ c_advise n x y = 0 ∧ r = 0 ∧ mm cI ad E1 (c_advise n x y) w p g nw n T str S ∧ ∀ q : Nat, (q < 50 ∨ 91 ≤ q) → E1 q = E q)) (fB D z ad L) (fA z)) 0 0 (fA z) := by
  refine f_ofW (cc := cX5_advise) (maxL := 7) (ret := some .int) (by decide) rfl (Nat.le_of_ble_eq_true rfl) ?_
  intro pr e s m args below meth c Q hx hb hr hml hts hown hlocks hin hG H locs hI hQ ls hl
  have hl : lv_has ls 7 [(0, .ref (ad 50)), (1, .int x), (2, .int y)] := hl
  have hfr : ∀ q : Nat, (q < 50 ∨ 91 ≤ q) → E q = E q := fun _ _ => rfl
  obtain ⟨hM, hS, Ta, Sa, hTa, hA⟩ := id hMS
  refine lv_aload_n hx hb dX5_advise_0 rfl (lv_at hl 0 rfl) ?_
  refine lv_iconst (v := 0) hx hb dX5_advise_1 (by decide) ?_
  refine f_put (ci := 5) (v := .int 0) (C := RX5) (T := TX5) (N := 9) hx hb hts (by decide +kernel) tyX5 tyX5_ok nmX5 hown hG.1 hI rfl (hMm _ (by omega)) (hM.1) rfl 0 (by decide) (hts (.fieldLink RX5 34 "CoracleRaceModel" "thrown" "I") (by decide +kernel)) rfl rfl rfl (Nat.le_of_ble_eq_true rfl) dX5_advise_2 (fun E1 H locs hE2 hn3 hI => ?_)
  have hM := hM.top (th1 := 0) (nw1 := nw) (n1 := n) hE2 (fun q hq => hn3 q hq)
  have hS := hS.kept (fun q h1 h2 => hn3 q (by omega))
  have hA := hA.kept (fun q h1 h2 => hn3 q (by omega))
  have hfr : ∀ q : Nat, (q < 50 ∨ 91 ≤ q) → E1 q = E q := fun q hq => (hn3 q (by omega)).trans (hfr q hq)
  refine lv_aload_n hx hb dX5_advise_5 rfl (lv_at hl 0 rfl) ?_
  refine lv_iload_n hx hb dX5_advise_6 rfl (lv_at hl 1 rfl) ?_
  refine f_calli1 (va_runV (As := [.int x]) (rest := []) ⟨hx, hb, hml, hown, hts⟩ (m_X5_isBoat l (hMm _ (by decide)) hM hN6 x) (cwV 1 hts gX5_advise_X5_isBoat rfl rfl rfl (by decide +kernel) ⟨Nat.le_of_ble_eq_true rfl, Nat.le_of_ble_eq_true rfl⟩) (fPre_ofV hG hI rfl (hMm _ (by omega)) (hM.1) rfl rfl) rfl rfl hl.1 rfl (lv_room (Nat.le_of_ble_eq_true rfl)) dX5_advise_7 ⟨Nat.le_of_ble_eq_true rfl, Nat.le_of_ble_eq_true rfl⟩) hI (fun r4 E5 H locs hp hI => ?_)
  obtain ⟨he, hq⟩ := hp
  rw [hq] at hI
  refine lv_if_ne (tgt := 19) hx hb dX5_advise_10 (by decide) (fun c_10 => ?_) (fun c_10 => ?_)
  · have p_10 := bl_t he c_10
    obtain ⟨u, hu, hxu⟩ := ix_nat p_10 (by omega)
    subst hxu
    have hclu : (nI u).toNatClampNeg = u := nI_clamp (by omega)
    refine lv_iload_n hx hb dX5_advise_19 rfl (lv_at hl 2 rfl) ?_
    refine lv_iconst (v := 1) hx hb dX5_advise_20 (by decide) ?_
    refine lv_bipush (v := 60) hx hb dX5_advise_21 (by decide) ?_
    refine f_calli1 (va_runS (As := [.int y, .int 1, .int 60]) (rest := []) ⟨hx, hb, hml, hown, hts⟩ (m_X5_isFrom l y 1 60) (va_cwS 3 hts gX5_advise_X5_isFrom rfl rfl rfl (by decide +kernel) ⟨Nat.le_of_ble_eq_true rfl, Nat.le_of_ble_eq_true rfl⟩) (fPre_of hG hI) rfl rfl hl.1 rfl (lv_room (Nat.le_of_ble_eq_true rfl)) dX5_advise_23 ⟨Nat.le_of_ble_eq_true rfl, Nat.le_of_ble_eq_true rfl⟩) hI (fun r6 E7 H locs hp hI => ?_)
    obtain ⟨he, hq⟩ := hp
    rw [hq] at hI
    refine lv_if_ne (tgt := 35) hx hb dX5_advise_26 (by decide) (fun c_26 => ?_) (fun c_26 => ?_)
    · have p_26 := bl_t he c_26
      obtain ⟨m9, hm9, hxm9⟩ := le_nat (n := 60) (one_le p_26.1) p_26.2 (by omega)
      subst hxm9
      have hclm9 : (nI m9).toNatClampNeg = m9 := nI_clamp (by omega)
      refine lv_iconst (v := -1) hx hb dX5_advise_35 (by decide) ?_
      refine lv_istore_n (lv' := [(3, .int (-1)), (0, .ref (ad 50)), (1, .int (nI u)), (2, .int (nI m9))]) hx hb dX5_advise_36 rfl hl (by decide) rfl (fun ls hl => ?_)
      refine lv_iconst (v := -1) hx hb dX5_advise_37 (by decide) ?_
      refine lv_istore (lv' := [(4, .int (-1)), (3, .int (-1)), (0, .ref (ad 50)), (1, .int (nI u)), (2, .int (nI m9))]) hx hb dX5_advise_38 hl (by decide) rfl (fun ls hl => ?_)
      refine lv_iconst (v := 0) hx hb dX5_advise_40 (by decide) ?_
      refine lv_istore (lv' := [(5, .int 0), (4, .int (-1)), (3, .int (-1)), (0, .ref (ad 50)), (1, .int (nI u)), (2, .int (nI m9))]) hx hb dX5_advise_41 hl (by decide) rfl (fun ls hl => ?_)
      have Kiho : ∀ (k i : Nat), i ≤ 34 → 34 + 1 ≤ i + k → ∀ (Eo : Nat → va_E) (H : Heap) (locs : List Loc) (ls : Array Slot), (m_at cI ad Eo 0 w p g nw n str) → (st_at cI ad Eo 60 T S) → (∃ (Ta : Nat) (Sa : Nat → Nat → Int32), Ta < 2 ^ 31 ∧ st_at cI ad Eo 80 Ta Sa) → (∀ q : Nat, (q < 50 ∨ 91 ≤ q) → Eo q = E q) → fI D (fA z) s.heap ad L Eo H locs → lv_has ls 7 [(0, .ref (ad 50)), (1, .int (nI u)), (2, .int (nI m9)), (3, .int ((m_adv w p g nw T n str S u m9 i).1)), (4, .int ((m_adv w p g nw T n str S u m9 i).2)), (5, .int (nI i))] → W pr l e ({ frames := 4, cells := 0, slots := 0, locals := 90 } : Room) s m args below meth c H locs 0 0 Q (F0 m 43 ls []) := by
        intro k
        induction k with
        | zero => intro i h1 h2; exact absurd h2 (by omega)
        | succ k iho =>
          intro i hi1i hi2i Eo H locs ls hM hS hAx hfr hI hl
          obtain ⟨Ta, Sa, hTa, hA⟩ := hAx
          refine lv_iload hx hb dX5_advise_43 (lv_at hl 5 rfl) ?_
          refine lv_bipush (v := 34) hx hb dX5_advise_45 (by decide) ?_
          refine lv_icmp_ge (tgt := 153) hx hb dX5_advise_47 (by decide) (fun c_47 => ?_) (fun c_47 => ?_)
          · have n_47 := i_nlt.mpr c_47
            have hi34 : i = 34 := by have := (nI_leI (by omega) (by omega) (a := 34)).mp c_47; omega
            refine lv_iload_n hx hb dX5_advise_153 rfl (lv_at hl 3 rfl) ?_
            have hc : c_advise n (nI u) (nI m9) = 0 := (if_pos p_10).trans (if_pos p_26)
            exact f_reti hQ hx hb hr hlocks hI.2.2 (by omega) (by omega) dX5_advise_154 Eo (fB_of hI) (Or.inl ⟨hc, (by rw [hclu, hclm9, hi34]), ⟨hM, hS, Ta, Sa, hTa, hA⟩, hfr⟩)
          · have n_47 := c_47
            have c_47 := i_nle.mp n_47
            have hi34 : i < 34 := (nI_ltI (by omega) (by omega) (b := 34)).mp c_47
            refine lv_iload hx hb dX5_advise_50 (lv_at hl 5 rfl) ?_
            refine lv_bipush (v := 10) hx hb dX5_advise_52 (by decide) ?_
            refine lv_irem hx hb dX5_advise_54 (by decide) ?_
            refine lv_topi (fun tv etv => ?_)
            have etv : tv = (p_rem (nI i) 10) := etv.trans (rfl)
            subst etv
            refine lv_iconst (v := 3) hx hb dX5_advise_55 (by decide) ?_
            refine lv_icmp_le (tgt := 62) hx hb dX5_advise_56 (by decide) (fun c_56 => ?_) (fun c_56 => ?_)
            · have n_56 := i_nlt.mpr c_56
              refine lv_aload_n hx hb dX5_advise_62 rfl (lv_at hl 0 rfl) ?_
              refine f_get (ci := 5) (v := .ref (ad 80)) (C := RX5) (T := TX5) (N := 9) hx hb hts (by decide +kernel) hown hG.1 hI rfl (hMm _ (by omega)) (hM.1) rfl 8 (by decide) (hts (.fieldLink RX5 31 "CoracleRaceModel" "ahead" "LCoracleRaceModel$State;") (by decide +kernel)) rfl dX5_advise_63 ?_
              refine lv_aload_n hx hb dX5_advise_66 rfl (lv_at hl 0 rfl) ?_
              refine f_get (ci := 5) (v := .ref (ad 60)) (C := RX5) (T := TX5) (N := 9) hx hb hts (by decide +kernel) hown hG.1 hI rfl (hMm _ (by omega)) (hM.1) rfl 7 (by decide) (hts (.fieldLink RX5 27 "CoracleRaceModel" "s" "LCoracleRaceModel$State;") (by decide +kernel)) rfl dX5_advise_67 ?_
              refine f_callv1 (va_runV (As := [.ref (ad 60)]) (rest := []) ⟨hx, hb, hml, hown, hts⟩ (m_X4_become l (sb := 80) rfl (by decide) (fun k h1 h2 => hMm k (by omega)) hTa hA (so := 60) rfl (by decide) (fun k h1 h2 => hMm k (by omega)) (by omega) hS (by omega)) (cwV 1 hts gX5_advise_X4_become rfl rfl rfl (by decide +kernel) ⟨Nat.le_of_ble_eq_true rfl, Nat.le_of_ble_eq_true rfl⟩) (fPre_ofV hG hI rfl (hMm _ (by omega)) (hA.1) rfl rfl) rfl rfl hl.1 rfl (lv_room (Nat.le_of_ble_eq_true rfl)) dX5_advise_70 ⟨Nat.le_of_ble_eq_true rfl, Nat.le_of_ble_eq_true rfl⟩) hI (fun E8 H locs hp hI => ?_)
              obtain ⟨hA, hn9⟩ := hp
              have hM := hM.kept (fun q h1 h2 => hn9 q (by omega))
              have hS := hS.kept (fun q h1 h2 => hn9 q (by omega))
              have hfr : ∀ q : Nat, (q < 50 ∨ 91 ≤ q) → E8 q = E q := fun q hq => (hn9 q (by omega)).trans (hfr q hq)
              refine lv_aload_n hx hb dX5_advise_73 rfl (lv_at hl 0 rfl) ?_
              refine f_get (ci := 5) (v := .ref (ad 80)) (C := RX5) (T := TX5) (N := 9) hx hb hts (by decide +kernel) hown hG.1 hI rfl (hMm _ (by omega)) (hM.1) rfl 8 (by decide) (hts (.fieldLink RX5 31 "CoracleRaceModel" "ahead" "LCoracleRaceModel$State;") (by decide +kernel)) rfl dX5_advise_74 ?_
              refine f_getN (ci := 4) (v := .ref (ad (80 + 1 + 8))) (C := RX4) (T := TX4) (N := 12) hx hb hts (by decide +kernel) hown hG.1 hI rfl (hMm _ (by omega)) (hA.1) rfl 9 (by decide) (hG.2.1 (.fieldLinkNest RX5 58 RX4 "length" "[I" RX5) (by simp [fNest])) rfl dX5_advise_77 ?_
              refine lv_iload_n hx hb dX5_advise_80 rfl (lv_at hl 1 rfl) ?_
              refine lv_iconst (v := 2) hx hb dX5_advise_81 (by decide) ?_
              refine f_iast hx hb hG.1 hI rfl (hMm _ (by omega)) (hA.2 8 (by decide)) (vp_in_nI (by omega) (by omega)) dX5_advise_82 (fun E9 H locs hE10 hn11 hI => ?_)
              have hA := hA.row (j := 8) (by decide) (by rw [show (nI u).toNatClampNeg = u from nI_clamp (by omega)] at hE10; exact hE10) (fun q hq => hn11 q hq)
              have hM := hM.kept (fun q h1 h2 => hn11 q (by omega))
              have hS := hS.kept (fun q h1 h2 => hn11 q (by omega))
              have hfr : ∀ q : Nat, (q < 50 ∨ 91 ≤ q) → E9 q = E q := fun q hq => (hn11 q (by omega)).trans (hfr q hq)
              refine lv_aload_n hx hb dX5_advise_83 rfl (lv_at hl 0 rfl) ?_
              refine f_get (ci := 5) (v := .ref (ad 80)) (C := RX5) (T := TX5) (N := 9) hx hb hts (by decide +kernel) hown hG.1 hI rfl (hMm _ (by omega)) (hM.1) rfl 8 (by decide) (hts (.fieldLink RX5 31 "CoracleRaceModel" "ahead" "LCoracleRaceModel$State;") (by decide +kernel)) rfl dX5_advise_84 ?_
              refine f_getN (ci := 4) (v := .ref (ad (80 + 1 + 9))) (C := RX4) (T := TX4) (N := 12) hx hb hts (by decide +kernel) hown hG.1 hI rfl (hMm _ (by omega)) (hA.1) rfl 10 (by decide) (hG.2.1 (.fieldLinkNest RX5 61 RX4 "strokes" "[I" RX5) (by simp [fNest])) rfl dX5_advise_87 ?_
              refine lv_iload_n hx hb dX5_advise_90 rfl (lv_at hl 1 rfl) ?_
              refine lv_iload hx hb dX5_advise_91 (lv_at hl 5 rfl) ?_
              refine f_iast hx hb hG.1 hI rfl (hMm _ (by omega)) (hA.2 9 (by decide)) (vp_in_nI (by omega) (by omega)) dX5_advise_93 (fun E12 H locs hE13 hn14 hI => ?_)
              have hA := hA.row (j := 9) (by decide) (by rw [show (nI u).toNatClampNeg = u from nI_clamp (by omega)] at hE13; exact hE13) (fun q hq => hn14 q hq)
              have hM := hM.kept (fun q h1 h2 => hn14 q (by omega))
              have hS := hS.kept (fun q h1 h2 => hn14 q (by omega))
              have hfr : ∀ q : Nat, (q < 50 ∨ 91 ≤ q) → E12 q = E q := fun q hq => (hn14 q (by omega)).trans (hfr q hq)
              have hA : st_at cI ad E12 80 T (m_pad S u 2 (nI i)) := hA
              refine lv_iconst (v := 0) hx hb dX5_advise_94 (by decide) ?_
              refine lv_istore (lv' := [(6, .int 0), (0, .ref (ad 50)), (1, .int (nI u)), (2, .int (nI m9)), (3, .int ((m_adv w p g nw T n str S u m9 i).1)), (4, .int ((m_adv w p g nw T n str S u m9 i).2)), (5, .int (nI i))]) hx hb dX5_advise_95 hl (by decide) rfl (fun ls hl => ?_)
              have Kihr : ∀ (k j : Nat), j ≤ m9 → m9 + 1 ≤ j + k → ∀ (Ea : Nat → va_E) (H : Heap) (locs : List Loc) (ls : Array Slot), (m_at cI ad Ea 0 w p g nw n str) → (st_at cI ad Ea 60 T S) → (st_at cI ad Ea 80 (T + j) (m_run w p g nw T n str (m_pad S u 2 (nI i)) j)) → (∀ q : Nat, (q < 50 ∨ 91 ≤ q) → Ea q = E q) → fI D (fA z) s.heap ad L Ea H locs → lv_has ls 7 [(0, .ref (ad 50)), (1, .int (nI u)), (2, .int (nI m9)), (3, .int ((m_adv w p g nw T n str S u m9 i).1)), (4, .int ((m_adv w p g nw T n str S u m9 i).2)), (5, .int (nI i)), (6, .int (nI j))] → W pr l e ({ frames := 4, cells := 0, slots := 0, locals := 90 } : Room) s m args below meth c H locs 0 0 Q (F0 m 97 ls []) := by
                intro k
                induction k with
                | zero => intro j h1 h2; exact absurd h2 (by omega)
                | succ k ihr =>
                  intro j hi1j hi2j Ea H locs ls hM hS hA hfr hI hl
                  refine lv_iload hx hb dX5_advise_97 (lv_at hl 6 rfl) ?_
                  refine lv_iload_n hx hb dX5_advise_99 rfl (lv_at hl 2 rfl) ?_
                  refine lv_icmp_ge (tgt := 116) hx hb dX5_advise_100 (by decide) (fun c_100 => ?_) (fun c_100 => ?_)
                  · have n_100 := i_nlt.mpr c_100
                    have hj : j = m9 := by have := (nI_leI (by omega) (by omega)).mp c_100; omega
                    rw [hj] at hA
                    refine lv_aload_n hx hb dX5_advise_116 rfl (lv_at hl 0 rfl) ?_
                    refine f_get (ci := 5) (v := .ref (ad 80)) (C := RX5) (T := TX5) (N := 9) hx hb hts (by decide +kernel) hown hG.1 hI rfl (hMm _ (by omega)) (hM.1) rfl 8 (by decide) (hts (.fieldLink RX5 31 "CoracleRaceModel" "ahead" "LCoracleRaceModel$State;") (by decide +kernel)) rfl dX5_advise_117 ?_
                    refine f_getN (ci := 4) (v := .ref (ad (80 + 1 + 0))) (C := RX4) (T := TX4) (N := 12) hx hb hts (by decide +kernel) hown hG.1 hI rfl (hMm _ (by omega)) (hA.1) rfl 1 (by decide) (hG.2.1 (.fieldLinkNest RX5 84 RX4 "place" "[I" RX5) (by simp [fNest])) rfl dX5_advise_120 ?_
                    refine lv_iload_n hx hb dX5_advise_123 rfl (lv_at hl 1 rfl) ?_
                    refine f_iald hx hb hG.1 hI rfl (hMm _ (by omega)) (hA.2 0 (by decide)) (vp_in_nI (by omega) (by omega)) dX5_advise_124 ?_
                    refine lv_topi (fun tv etv => ?_)
                    have etv : tv = (m_far w p g nw T n str S u m9 i) := etv.trans (by rw [hclu]; rfl)
                    subst etv
                    refine lv_iload hx hb dX5_advise_125 (lv_at hl 4 rfl) ?_
                    refine lv_icmp_gt (tgt := 133) hx hb dX5_advise_127 (by decide) (fun c_127 => ?_) (fun c_127 => ?_)
                    · have n_127 := i_nle.mpr c_127
                      refine lv_aload_n hx hb dX5_advise_133 rfl (lv_at hl 0 rfl) ?_
                      refine f_get (ci := 5) (v := .ref (ad 80)) (C := RX5) (T := TX5) (N := 9) hx hb hts (by decide +kernel) hown hG.1 hI rfl (hMm _ (by omega)) (hM.1) rfl 8 (by decide) (hts (.fieldLink RX5 31 "CoracleRaceModel" "ahead" "LCoracleRaceModel$State;") (by decide +kernel)) rfl dX5_advise_134 ?_
                      refine f_getN (ci := 4) (v := .ref (ad (80 + 1 + 0))) (C := RX4) (T := TX4) (N := 12) hx hb hts (by decide +kernel) hown hG.1 hI rfl (hMm _ (by omega)) (hA.1) rfl 1 (by decide) (hG.2.1 (.fieldLinkNest RX5 84 RX4 "place" "[I" RX5) (by simp [fNest])) rfl dX5_advise_137 ?_
                      refine lv_iload_n hx hb dX5_advise_140 rfl (lv_at hl 1 rfl) ?_
                      refine f_iald hx hb hG.1 hI rfl (hMm _ (by omega)) (hA.2 0 (by decide)) (vp_in_nI (by omega) (by omega)) dX5_advise_141 ?_
                      refine lv_topi (fun tv etv => ?_)
                      have etv : tv = (m_far w p g nw T n str S u m9 i) := etv.trans (by rw [hclu]; rfl)
                      subst etv
                      refine lv_istore (lv' := [(4, .int (m_far w p g nw T n str S u m9 i)), (0, .ref (ad 50)), (1, .int (nI u)), (2, .int (nI m9)), (3, .int ((m_adv w p g nw T n str S u m9 i).1)), (5, .int (nI i)), (6, .int (nI j))]) hx hb dX5_advise_142 hl (by decide) rfl (fun ls hl => ?_)
                      refine lv_iload hx hb dX5_advise_144 (lv_at hl 5 rfl) ?_
                      refine lv_istore_n (lv' := [(3, .int (nI i)), (4, .int (m_far w p g nw T n str S u m9 i)), (0, .ref (ad 50)), (1, .int (nI u)), (2, .int (nI m9)), (5, .int (nI i)), (6, .int (nI j))]) hx hb dX5_advise_146 rfl hl (by decide) rfl (fun ls hl => ?_)
                      refine lv_iinc (v := (nI (i + 1))) (lv' := [(5, .int (nI (i + 1))), (3, .int (nI i)), (4, .int (m_far w p g nw T n str S u m9 i)), (0, .ref (ad 50)), (1, .int (nI u)), (2, .int (nI m9)), (6, .int (nI j))]) hx hb dX5_advise_147 hl (k := 5) rfl (nI_1 i) (by decide) rfl (fun ls hl => ?_)
                      refine lv_goto (tgt := 43) hx hb dX5_advise_150 (by decide) ?_
                      have h9 : (m_adv w p g nw T n str S u m9 (i + 1)) = (nI i, m_far w p g nw T n str S u m9 i) := by rw [m_adv, if_pos c_56, if_pos c_127]
                      exact iho (i + 1) (by omega) (by omega) Ea H locs ls hM hS ⟨T + m9, _, by omega, hA⟩ hfr hI (by rw [h9]; exact lv_sub hl [3, 4, 5, 1, 2, 0] rfl)
                    · have n_127 := c_127
                      have c_127 := i_nlt.mp n_127
                      refine lv_goto (tgt := 147) hx hb dX5_advise_130 (by decide) ?_
                      refine lv_iinc (v := (nI (i + 1))) (lv' := [(5, .int (nI (i + 1))), (0, .ref (ad 50)), (1, .int (nI u)), (2, .int (nI m9)), (3, .int ((m_adv w p g nw T n str S u m9 i).1)), (4, .int ((m_adv w p g nw T n str S u m9 i).2)), (6, .int (nI j))]) hx hb dX5_advise_147 hl (k := 5) rfl (nI_1 i) (by decide) rfl (fun ls hl => ?_)
                      refine lv_goto (tgt := 43) hx hb dX5_advise_150 (by decide) ?_
                      have h9 : (m_adv w p g nw T n str S u m9 (i + 1)) = (m_adv w p g nw T n str S u m9 i) := by rw [m_adv, if_pos c_56, if_neg n_127]
                      rw [← h9] at hl
                      exact iho (i + 1) (by omega) (by omega) Ea H locs ls hM hS ⟨T + m9, _, by omega, hA⟩ hfr hI (lv_sub hl [1, 2, 3, 4, 5, 0] rfl)
                  · have n_100 := c_100
                    have c_100 := i_nle.mp n_100
                    have hj : j < m9 := (nI_ltI (by omega) (by omega)).mp c_100
                    have hcl : (nI j).toNatClampNeg = j := nI_clamp (by omega)
                    refine lv_aload_n hx hb dX5_advise_103 rfl (lv_at hl 0 rfl) ?_
                    refine f_get (ci := 5) (v := .ref (ad 80)) (C := RX5) (T := TX5) (N := 9) hx hb hts (by decide +kernel) hown hG.1 hI rfl (hMm _ (by omega)) (hM.1) rfl 8 (by decide) (hts (.fieldLink RX5 31 "CoracleRaceModel" "ahead" "LCoracleRaceModel$State;") (by decide +kernel)) rfl dX5_advise_104 ?_
                    refine f_callv1 (va_runV (As := []) (rest := []) ⟨hx, hb, hml, hown, hts⟩ (m_X4_go_ l (sb := 80) rfl (by decide) (fun k h1 h2 => hMm k (by omega)) (by omega) hA (fun k h1 h2 => hMm k (by omega)) hM hNW hN6 hrv (okb_run hrv (okb_pad (by decide) hok) (by omega))) (cwV 0 hts gX5_advise_X4_go_ rfl rfl rfl (by decide +kernel) ⟨Nat.le_of_ble_eq_true rfl, Nat.le_of_ble_eq_true rfl⟩) (fPre_ofV hG hI rfl (hMm _ (by omega)) (hA.1) rfl rfl) rfl rfl hl.1 rfl (lv_room (Nat.le_of_ble_eq_true rfl)) dX5_advise_107 ⟨Nat.le_of_ble_eq_true rfl, Nat.le_of_ble_eq_true rfl⟩) hI (fun E15 H locs hp hI => ?_)
                    obtain ⟨hA, hn9⟩ := hp
                    have hM := hM.kept (fun q h1 h2 => hn9 q (by omega))
                    have hS := hS.kept (fun q h1 h2 => hn9 q (by omega))
                    have hfr : ∀ q : Nat, (q < 50 ∨ 91 ≤ q) → E15 q = E q := fun q hq => (hn9 q (by omega)).trans (hfr q hq)
                    refine lv_iinc (v := (nI (j + 1))) (lv' := [(6, .int (nI (j + 1))), (0, .ref (ad 50)), (1, .int (nI u)), (2, .int (nI m9)), (3, .int ((m_adv w p g nw T n str S u m9 i).1)), (4, .int ((m_adv w p g nw T n str S u m9 i).2)), (5, .int (nI i))]) hx hb dX5_advise_110 hl (k := 6) rfl (nI_1 j) (by decide) rfl (fun ls hl => ?_)
                    refine lv_goto (tgt := 97) hx hb dX5_advise_113 (by decide) ?_
                    exact ihr (j + 1) (by omega) (by omega) E15 H locs ls hM hS hA hfr hI (lv_sub hl [1, 2, 3, 4, 5, 6, 0] rfl)
              exact Kihr (m9 + 1) 0 (Nat.zero_le _) (by omega) E12 H locs ls hM hS hA hfr hI (lv_sub hl [1, 2, 3, 4, 5, 6, 0] rfl)
            · have n_56 := c_56
              have c_56 := i_nle.mp n_56
              refine lv_goto (tgt := 147) hx hb dX5_advise_59 (by decide) ?_
              refine lv_iinc (v := (nI (i + 1))) (lv' := [(5, .int (nI (i + 1))), (0, .ref (ad 50)), (1, .int (nI u)), (2, .int (nI m9)), (3, .int ((m_adv w p g nw T n str S u m9 i).1)), (4, .int ((m_adv w p g nw T n str S u m9 i).2))]) hx hb dX5_advise_147 hl (k := 5) rfl (nI_1 i) (by decide) rfl (fun ls hl => ?_)
              refine lv_goto (tgt := 43) hx hb dX5_advise_150 (by decide) ?_
              have h9 : (m_adv w p g nw T n str S u m9 (i + 1)) = (m_adv w p g nw T n str S u m9 i) := by rw [m_adv, if_neg (fun q => i_nle.mpr c_56 q)]
              rw [← h9] at hl
              exact iho (i + 1) (by omega) (by omega) Eo H locs ls hM hS ⟨_, _, hTa, hA⟩ hfr hI (lv_sub hl [1, 2, 3, 4, 5, 0] rfl)
      exact Kiho (34 + 1) 0 (Nat.zero_le _) (by omega) E1 H locs ls hM hS ⟨Ta, Sa, hTa, hA⟩ hfr hI (lv_sub hl [3, 4, 5, 2, 1, 0] rfl)
    · have p_26 := bl_f he c_26
      refine lv_aload_n hx hb dX5_advise_29 rfl (lv_at hl 0 rfl) ?_
      refine lv_iconst (v := 2) hx hb dX5_advise_30 (by decide) ?_
      refine f_calli1 (va_runV (As := [.int 2]) (rest := []) ⟨hx, hb, hml, hown, hts⟩ (m_X5_no l (hMm _ (by decide)) hM 2) (cwV 1 hts gX5_advise_X5_no rfl rfl rfl (by decide +kernel) ⟨Nat.le_of_ble_eq_true rfl, Nat.le_of_ble_eq_true rfl⟩) (fPre_ofV hG hI rfl (hMm _ (by omega)) (hM.1) rfl rfl) rfl rfl hl.1 rfl (lv_room (Nat.le_of_ble_eq_true rfl)) dX5_advise_31 ⟨Nat.le_of_ble_eq_true rfl, Nat.le_of_ble_eq_true rfl⟩) hI (fun r16 E17 H locs hp hI => ?_)
      obtain ⟨he, hM, hn9⟩ := hp
      subst he
      have hS := hS.kept (fun q h1 h2 => hn9 q (by omega))
      have hA := hA.kept (fun q h1 h2 => hn9 q (by omega))
      have hfr : ∀ q : Nat, (q < 50 ∨ 91 ≤ q) → E17 q = E q := fun q hq => (hn9 q (by omega)).trans (hfr q hq)
      have hc : c_advise n (nI u) y = 2 := (if_pos p_10).trans (if_neg p_26)
      exact f_reti hQ hx hb hr hlocks hI.2.2 (by omega) (by omega) dX5_advise_34 E17 (fB_of hI) (Or.inr ⟨by rw [hc]; decide, rfl, by rw [hc]; exact ⟨hM, hS, _, _, hTa, hA⟩, hfr⟩)
  · have p_10 := bl_f he c_10
    refine lv_aload_n hx hb dX5_advise_13 rfl (lv_at hl 0 rfl) ?_
    refine lv_iconst (v := 1) hx hb dX5_advise_14 (by decide) ?_
    refine f_calli1 (va_runV (As := [.int 1]) (rest := []) ⟨hx, hb, hml, hown, hts⟩ (m_X5_no l (hMm _ (by decide)) hM 1) (cwV 1 hts gX5_advise_X5_no rfl rfl rfl (by decide +kernel) ⟨Nat.le_of_ble_eq_true rfl, Nat.le_of_ble_eq_true rfl⟩) (fPre_ofV hG hI rfl (hMm _ (by omega)) (hM.1) rfl rfl) rfl rfl hl.1 rfl (lv_room (Nat.le_of_ble_eq_true rfl)) dX5_advise_15 ⟨Nat.le_of_ble_eq_true rfl, Nat.le_of_ble_eq_true rfl⟩) hI (fun r18 E19 H locs hp hI => ?_)
    obtain ⟨he, hM, hn9⟩ := hp
    subst he
    have hS := hS.kept (fun q h1 h2 => hn9 q (by omega))
    have hA := hA.kept (fun q h1 h2 => hn9 q (by omega))
    have hfr : ∀ q : Nat, (q < 50 ∨ 91 ≤ q) → E19 q = E q := fun q hq => (hn9 q (by omega)).trans (hfr q hq)
    have hc : c_advise n x y = 1 := if_neg p_10
    exact f_reti hQ hx hb hr hlocks hI.2.2 (by omega) (by omega) dX5_advise_18 E19 (fB_of hI) (Or.inr ⟨by rw [hc]; decide, rfl, by rw [hc]; exact ⟨hM, hS, _, _, hTa, hA⟩, hfr⟩)
