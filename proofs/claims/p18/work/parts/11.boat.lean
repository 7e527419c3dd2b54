set_option maxHeartbeats 4000000 in
set_option maxRecDepth 100000 in
theorem m_X0_start (l : Launch) {D : va_G} {cI cJ cB : ClassId} {t0 z : Nat} {tx ad : Nat → Nat} {L : List Nat} {E : Nat → va_E} {kb a : Nat} (ha : ad kb = a) (hk : kb ∈ L) {b : Nat → Int32} (hC : E kb = bE ad kb b) {f : Nat → Int32} (hk1 : kb + 1 ∈ L) (hF : E (kb + 1) = .inl (cI, 6, .inl f)) (lane st : Int32) : Met l yX0_start wsX0_start ({ frames := 1, cells := 0, slots := 0, locals := 24 } : Room) (va_Pc [.ref a, .int lane, .int st] (fPre D cI cJ cB t0 z tx ad L E)) (va_Qv (fun (E1 : Nat → va_E) => E1 kb = bE ad kb (va_up (va_up (va_up b 4 lane) 2 st) 1 1) ∧ E1 (kb + 1) = .inl (cI, 6, .inl (p_row f 1 3)) ∧ ∀ q, q ≠ kb ∧ q ≠ kb + 1 → E1 q = E q) (fB D z ad L) (fA z)) 0 0 (fA z) := by
  refine f_ofW (cc := cX0_start) (maxL := 3) (ret := none) (by decide) rfl (Nat.le_of_ble_eq_true rfl) ?_
  intro pr e s m args below meth c Q hx hb hr hml hts hown hlocks hin hG H locs hI hQ ls hl
  have hl : lv_has ls 3 [(0, .ref a), (1, .int lane), (2, .int st)] := hl
  have hfr : ∀ q : Nat, q ≠ kb ∧ q ≠ kb + 1 → E q = E q := fun _ _ => rfl
  have hC : E kb = .inr (0, [.ref (ad (kb + 1)), .int (b 1), .int (b 2), .int (b 3), .int (b 4), .int (b 5), .int (b 6), .int (b 7), .int (b 8), .int (b 9), .int (b 10), .int (b 11)]) := hC
  have hF : E (kb + 1) = .inl (cI, 6, .inl f) := hF
  refine lv_aload_n hx hb dX0_start_0 rfl (lv_at hl 0 rfl) ?_
  refine lv_iload_n hx hb dX0_start_1 rfl (lv_at hl 1 rfl) ?_
  refine f_put (ci := 0) (v := .int lane) (C := RX0) (T := TX0) (N := 12) hx hb hts (by decide +kernel) tyX0 tyX0_ok nmX0 hown hG.1 hI ha hk hC rfl 4 (by decide) (hts (.fieldLink RX0 23 "CoracleRace$Boat" "lane" "I") (by decide +kernel)) rfl rfl rfl (Nat.le_of_ble_eq_true rfl) dX0_start_2 (fun E1 H locs hE2 hn3 hI => ?_)
  have hC : E1 kb = .inr (0, [.ref (ad (kb + 1)), .int (b 1), .int (b 2), .int (b 3), .int lane, .int (b 5), .int (b 6), .int (b 7), .int (b 8), .int (b 9), .int (b 10), .int (b 11)]) := hE2
  have hF : E1 (kb + 1) = .inl (cI, 6, .inl f) := (hn3 (kb + 1) (by omega)).trans hF
  have hfr : ∀ q : Nat, q ≠ kb ∧ q ≠ kb + 1 → E1 q = E q := fun q hq => (hn3 q (by omega)).trans (hfr q hq)
  refine lv_aload_n hx hb dX0_start_5 rfl (lv_at hl 0 rfl) ?_
  refine lv_iload_n hx hb dX0_start_6 rfl (lv_at hl 2 rfl) ?_
  refine f_put (ci := 0) (v := .int st) (C := RX0) (T := TX0) (N := 12) hx hb hts (by decide +kernel) tyX0 tyX0_ok nmX0 hown hG.1 hI ha hk hC rfl 2 (by decide) (hts (.fieldLink RX0 17 "CoracleRace$Boat" "strength" "I") (by decide +kernel)) rfl rfl rfl (Nat.le_of_ble_eq_true rfl) dX0_start_7 (fun E4 H locs hE5 hn6 hI => ?_)
  have hC : E4 kb = .inr (0, [.ref (ad (kb + 1)), .int (b 1), .int st, .int (b 3), .int lane, .int (b 5), .int (b 6), .int (b 7), .int (b 8), .int (b 9), .int (b 10), .int (b 11)]) := hE5
  have hF : E4 (kb + 1) = .inl (cI, 6, .inl f) := (hn6 (kb + 1) (by omega)).trans hF
  have hfr : ∀ q : Nat, q ≠ kb ∧ q ≠ kb + 1 → E4 q = E q := fun q hq => (hn6 q (by omega)).trans (hfr q hq)
  refine lv_aload_n hx hb dX0_start_10 rfl (lv_at hl 0 rfl) ?_
  refine lv_iconst (v := 1) hx hb dX0_start_11 (by decide) ?_
  refine lv_iconst (v := 3) hx hb dX0_start_12 (by decide) ?_
  refine f_callv1 (va_runV (As := [.int 1, .int 3]) (rest := []) ⟨hx, hb, hml, hown, hts⟩ (m_X0_takePattern l ha hk (b := va_up (va_up b 4 lane) 2 st) hC hk1 hF (len := 1) (by decide) (by decide) 3) (cwV 2 hts gX0_start_X0_takePattern rfl rfl rfl (by decide +kernel) ⟨Nat.le_of_ble_eq_true rfl, Nat.le_of_ble_eq_true rfl⟩) (fPre_ofV hG hI ha hk hC rfl rfl) rfl rfl hl.1 rfl (lv_room (Nat.le_of_ble_eq_true rfl)) dX0_start_13 ⟨Nat.le_of_ble_eq_true rfl, Nat.le_of_ble_eq_true rfl⟩) hI (fun E7 H locs hp hI => ?_)
  obtain ⟨hE9, hF9, hn9⟩ := hp
  exact f_retv hQ hx hb hr hlocks hI.2.2 (by omega) (by omega) dX0_start_16 E7 (fB_of hI) (⟨hE9, hF9, fun q hq => (hn9 q hq).trans (hfr q hq)⟩)

set_option maxHeartbeats 4000000 in
set_option maxRecDepth 100000 in
theorem m_X0_copyFrom (l : Launch) {D : va_G} {cI cJ cB : ClassId} {t0 z : Nat} {tx ad : Nat → Nat} {L : List Nat} {E : Nat → va_E} {kb a : Nat} (ha : ad kb = a) (hk : kb ∈ L) {b : Nat → Int32} (hC : E kb = bE ad kb b) {f : Nat → Int32} (hk1 : kb + 1 ∈ L) (hF : E (kb + 1) = .inl (cI, 6, .inl f)) {ko ao : Nat} (hao : ad ko = ao) (hko : ko ∈ L) {o : Nat → Int32} (hO : E ko = bE ad ko o) {fo : Nat → Int32} (hko1 : ko + 1 ∈ L) (hOF : E (ko + 1) = .inl (cI, 6, .inl fo)) (hd : kb + 2 ≤ ko ∨ ko + 2 ≤ kb) (h8 : o 8 = 0 ∨ o 8 = 1) : Met l yX0_copyFrom wsX0_copyFrom ({ frames := 1, cells := 0, slots := 0, locals := 40 } : Room) (va_Pc [.ref a, .ref ao] (fPre D cI cJ cB t0 z tx ad L E)) (va_Qv (fun (E1 : Nat → va_E) => E1 kb = bE ad kb o ∧ E1 (kb + 1) = .inl (cI, 6, .inl fo) ∧ ∀ q, q ≠ kb ∧ q ≠ kb + 1 → E1 q = E q) (fB D z ad L) (fA z)) 0 0 (fA z) := by
  refine f_ofW (cc := cX0_copyFrom) (maxL := 2) (ret := none) (by decide) rfl (Nat.le_of_ble_eq_true rfl) ?_
  intro pr e s m args below meth c Q hx hb hr hml hts hown hlocks hin hG H locs hI hQ ls hl
  have hl : lv_has ls 2 [(0, .ref a), (1, .ref ao)] := hl
  have hfr : ∀ q : Nat, q ≠ kb ∧ q ≠ kb + 1 → E q = E q := fun _ _ => rfl
  have hC : E kb = .inr (0, [.ref (ad (kb + 1)), .int (b 1), .int (b 2), .int (b 3), .int (b 4), .int (b 5), .int (b 6), .int (b 7), .int (b 8), .int (b 9), .int (b 10), .int (b 11)]) := hC
  have hF : E (kb + 1) = .inl (cI, 6, .inl f) := hF
  have hO : E ko = .inr (0, [.ref (ad (ko + 1)), .int (o 1), .int (o 2), .int (o 3), .int (o 4), .int (o 5), .int (o 6), .int (o 7), .int (o 8), .int (o 9), .int (o 10), .int (o 11)]) := hO
  have hOF : E (ko + 1) = .inl (cI, 6, .inl fo) := hOF
  refine lv_aload_n hx hb dX0_copyFrom_0 rfl (lv_at hl 1 rfl) ?_
  refine f_get (ci := 0) (v := .ref (ad (ko + 1))) (C := RX0) (T := TX0) (N := 12) hx hb hts (by decide +kernel) hown hG.1 hI hao hko hO rfl 0 (by decide) (hts (.fieldLink RX0 9 "CoracleRace$Boat" "strokes" "[I") (by decide +kernel)) rfl dX0_copyFrom_1 ?_
  refine lv_iconst (v := 0) hx hb dX0_copyFrom_4 (by decide) ?_
  refine lv_aload_n hx hb dX0_copyFrom_5 rfl (lv_at hl 0 rfl) ?_
  refine f_get (ci := 0) (v := .ref (ad (kb + 1))) (C := RX0) (T := TX0) (N := 12) hx hb hts (by decide +kernel) hown hG.1 hI ha hk hC rfl 0 (by decide) (hts (.fieldLink RX0 9 "CoracleRace$Boat" "strokes" "[I") (by decide +kernel)) rfl dX0_copyFrom_6 ?_
  refine lv_iconst (v := 0) hx hb dX0_copyFrom_9 (by decide) ?_
  refine lv_bipush (v := 6) hx hb dX0_copyFrom_10 (by decide) ?_
  refine f_copyA hx hb (hml.trans hl.1.symm) hown (hts (.methodLink RX0 52 arraycopyName) (by decide +kernel)) (hts (.native arraycopyName) (by decide +kernel)) (hts (.static arraycopyName) (by decide +kernel)) (hts (.initialized "java/lang/System") (by decide +kernel)) hG.1 hI rfl rfl hko1 hk1 hOF hF (by decide) (by decide) (Nat.le_of_ble_eq_true rfl) (Nat.le_of_ble_eq_true rfl) dX0_copyFrom_12 (fun E1 H locs hE2 hn3 hI => ?_)
  have hF : E1 (kb + 1) = .inl (cI, 6, .inl fo) := hE2
  have hC : E1 kb = .inr (0, [.ref (ad (kb + 1)), .int (b 1), .int (b 2), .int (b 3), .int (b 4), .int (b 5), .int (b 6), .int (b 7), .int (b 8), .int (b 9), .int (b 10), .int (b 11)]) := (hn3 kb (by omega)).trans hC
  have hO : E1 ko = .inr (0, [.ref (ad (ko + 1)), .int (o 1), .int (o 2), .int (o 3), .int (o 4), .int (o 5), .int (o 6), .int (o 7), .int (o 8), .int (o 9), .int (o 10), .int (o 11)]) := (hn3 ko (by omega)).trans hO
  have hOF : E1 (ko + 1) = .inl (cI, 6, .inl fo) := (hn3 (ko + 1) (by omega)).trans hOF
  have hfr : ∀ q : Nat, q ≠ kb ∧ q ≠ kb + 1 → E1 q = E q := fun q hq => (hn3 q (by omega)).trans (hfr q hq)
  refine lv_aload_n hx hb dX0_copyFrom_15 rfl (lv_at hl 0 rfl) ?_
  refine lv_aload_n hx hb dX0_copyFrom_16 rfl (lv_at hl 1 rfl) ?_
  refine f_get (ci := 0) (v := .int (o 1)) (C := RX0) (T := TX0) (N := 12) hx hb hts (by decide +kernel) hown hG.1 hI hao hko hO rfl 1 (by decide) (hts (.fieldLink RX0 13 "CoracleRace$Boat" "length" "I") (by decide +kernel)) rfl dX0_copyFrom_17 ?_
  refine f_put (ci := 0) (v := .int (o 1)) (C := RX0) (T := TX0) (N := 12) hx hb hts (by decide +kernel) tyX0 tyX0_ok nmX0 hown hG.1 hI ha hk hC rfl 1 (by decide) (hts (.fieldLink RX0 13 "CoracleRace$Boat" "length" "I") (by decide +kernel)) rfl rfl rfl (Nat.le_of_ble_eq_true rfl) dX0_copyFrom_20 (fun E4 H locs hE5 hn6 hI => ?_)
  have hC : E4 kb = .inr (0, [.ref (ad (kb + 1)), .int (o 1), .int (b 2), .int (b 3), .int (b 4), .int (b 5), .int (b 6), .int (b 7), .int (b 8), .int (b 9), .int (b 10), .int (b 11)]) := hE5
  have hF : E4 (kb + 1) = .inl (cI, 6, .inl fo) := (hn6 (kb + 1) (by omega)).trans hF
  have hO : E4 ko = .inr (0, [.ref (ad (ko + 1)), .int (o 1), .int (o 2), .int (o 3), .int (o 4), .int (o 5), .int (o 6), .int (o 7), .int (o 8), .int (o 9), .int (o 10), .int (o 11)]) := (hn6 ko (by omega)).trans hO
  have hOF : E4 (ko + 1) = .inl (cI, 6, .inl fo) := (hn6 (ko + 1) (by omega)).trans hOF
  have hfr : ∀ q : Nat, q ≠ kb ∧ q ≠ kb + 1 → E4 q = E q := fun q hq => (hn6 q (by omega)).trans (hfr q hq)
  refine lv_aload_n hx hb dX0_copyFrom_23 rfl (lv_at hl 0 rfl) ?_
  refine lv_aload_n hx hb dX0_copyFrom_24 rfl (lv_at hl 1 rfl) ?_
  refine f_get (ci := 0) (v := .int (o 2)) (C := RX0) (T := TX0) (N := 12) hx hb hts (by decide +kernel) hown hG.1 hI hao hko hO rfl 2 (by decide) (hts (.fieldLink RX0 17 "CoracleRace$Boat" "strength" "I") (by decide +kernel)) rfl dX0_copyFrom_25 ?_
  refine f_put (ci := 0) (v := .int (o 2)) (C := RX0) (T := TX0) (N := 12) hx hb hts (by decide +kernel) tyX0 tyX0_ok nmX0 hown hG.1 hI ha hk hC rfl 2 (by decide) (hts (.fieldLink RX0 17 "CoracleRace$Boat" "strength" "I") (by decide +kernel)) rfl rfl rfl (Nat.le_of_ble_eq_true rfl) dX0_copyFrom_28 (fun E7 H locs hE8 hn9 hI => ?_)
  have hC : E7 kb = .inr (0, [.ref (ad (kb + 1)), .int (o 1), .int (o 2), .int (b 3), .int (b 4), .int (b 5), .int (b 6), .int (b 7), .int (b 8), .int (b 9), .int (b 10), .int (b 11)]) := hE8
  have hF : E7 (kb + 1) = .inl (cI, 6, .inl fo) := (hn9 (kb + 1) (by omega)).trans hF
  have hO : E7 ko = .inr (0, [.ref (ad (ko + 1)), .int (o 1), .int (o 2), .int (o 3), .int (o 4), .int (o 5), .int (o 6), .int (o 7), .int (o 8), .int (o 9), .int (o 10), .int (o 11)]) := (hn9 ko (by omega)).trans hO
  have hOF : E7 (ko + 1) = .inl (cI, 6, .inl fo) := (hn9 (ko + 1) (by omega)).trans hOF
  have hfr : ∀ q : Nat, q ≠ kb ∧ q ≠ kb + 1 → E7 q = E q := fun q hq => (hn9 q (by omega)).trans (hfr q hq)
  refine lv_aload_n hx hb dX0_copyFrom_31 rfl (lv_at hl 0 rfl) ?_
  refine lv_aload_n hx hb dX0_copyFrom_32 rfl (lv_at hl 1 rfl) ?_
  refine f_get (ci := 0) (v := .int (o 3)) (C := RX0) (T := TX0) (N := 12) hx hb hts (by decide +kernel) hown hG.1 hI hao hko hO rfl 3 (by decide) (hts (.fieldLink RX0 20 "CoracleRace$Boat" "place" "I") (by decide +kernel)) rfl dX0_copyFrom_33 ?_
  refine f_put (ci := 0) (v := .int (o 3)) (C := RX0) (T := TX0) (N := 12) hx hb hts (by decide +kernel) tyX0 tyX0_ok nmX0 hown hG.1 hI ha hk hC rfl 3 (by decide) (hts (.fieldLink RX0 20 "CoracleRace$Boat" "place" "I") (by decide +kernel)) rfl rfl rfl (Nat.le_of_ble_eq_true rfl) dX0_copyFrom_36 (fun E10 H locs hE11 hn12 hI => ?_)
  have hC : E10 kb = .inr (0, [.ref (ad (kb + 1)), .int (o 1), .int (o 2), .int (o 3), .int (b 4), .int (b 5), .int (b 6), .int (b 7), .int (b 8), .int (b 9), .int (b 10), .int (b 11)]) := hE11
  have hF : E10 (kb + 1) = .inl (cI, 6, .inl fo) := (hn12 (kb + 1) (by omega)).trans hF
  have hO : E10 ko = .inr (0, [.ref (ad (ko + 1)), .int (o 1), .int (o 2), .int (o 3), .int (o 4), .int (o 5), .int (o 6), .int (o 7), .int (o 8), .int (o 9), .int (o 10), .int (o 11)]) := (hn12 ko (by omega)).trans hO
  have hOF : E10 (ko + 1) = .inl (cI, 6, .inl fo) := (hn12 (ko + 1) (by omega)).trans hOF
  have hfr : ∀ q : Nat, q ≠ kb ∧ q ≠ kb + 1 → E10 q = E q := fun q hq => (hn12 q (by omega)).trans (hfr q hq)
  refine lv_aload_n hx hb dX0_copyFrom_39 rfl (lv_at hl 0 rfl) ?_
  refine lv_aload_n hx hb dX0_copyFrom_40 rfl (lv_at hl 1 rfl) ?_
  refine f_get (ci := 0) (v := .int (o 4)) (C := RX0) (T := TX0) (N := 12) hx hb hts (by decide +kernel) hown hG.1 hI hao hko hO rfl 4 (by decide) (hts (.fieldLink RX0 23 "CoracleRace$Boat" "lane" "I") (by decide +kernel)) rfl dX0_copyFrom_41 ?_
  refine f_put (ci := 0) (v := .int (o 4)) (C := RX0) (T := TX0) (N := 12) hx hb hts (by decide +kernel) tyX0 tyX0_ok nmX0 hown hG.1 hI ha hk hC rfl 4 (by decide) (hts (.fieldLink RX0 23 "CoracleRace$Boat" "lane" "I") (by decide +kernel)) rfl rfl rfl (Nat.le_of_ble_eq_true rfl) dX0_copyFrom_44 (fun E13 H locs hE14 hn15 hI => ?_)
  have hC : E13 kb = .inr (0, [.ref (ad (kb + 1)), .int (o 1), .int (o 2), .int (o 3), .int (o 4), .int (b 5), .int (b 6), .int (b 7), .int (b 8), .int (b 9), .int (b 10), .int (b 11)]) := hE14
  have hF : E13 (kb + 1) = .inl (cI, 6, .inl fo) := (hn15 (kb + 1) (by omega)).trans hF
  have hO : E13 ko = .inr (0, [.ref (ad (ko + 1)), .int (o 1), .int (o 2), .int (o 3), .int (o 4), .int (o 5), .int (o 6), .int (o 7), .int (o 8), .int (o 9), .int (o 10), .int (o 11)]) := (hn15 ko (by omega)).trans hO
  have hOF : E13 (ko + 1) = .inl (cI, 6, .inl fo) := (hn15 (ko + 1) (by omega)).trans hOF
  have hfr : ∀ q : Nat, q ≠ kb ∧ q ≠ kb + 1 → E13 q = E q := fun q hq => (hn15 q (by omega)).trans (hfr q hq)
  refine lv_aload_n hx hb dX0_copyFrom_47 rfl (lv_at hl 0 rfl) ?_
  refine lv_aload_n hx hb dX0_copyFrom_48 rfl (lv_at hl 1 rfl) ?_
  refine f_get (ci := 0) (v := .int (o 5)) (C := RX0) (T := TX0) (N := 12) hx hb hts (by decide +kernel) hown hG.1 hI hao hko hO rfl 5 (by decide) (hts (.fieldLink RX0 26 "CoracleRace$Boat" "heading" "I") (by decide +kernel)) rfl dX0_copyFrom_49 ?_
  refine f_put (ci := 0) (v := .int (o 5)) (C := RX0) (T := TX0) (N := 12) hx hb hts (by decide +kernel) tyX0 tyX0_ok nmX0 hown hG.1 hI ha hk hC rfl 5 (by decide) (hts (.fieldLink RX0 26 "CoracleRace$Boat" "heading" "I") (by decide +kernel)) rfl rfl rfl (Nat.le_of_ble_eq_true rfl) dX0_copyFrom_52 (fun E16 H locs hE17 hn18 hI => ?_)
  have hC : E16 kb = .inr (0, [.ref (ad (kb + 1)), .int (o 1), .int (o 2), .int (o 3), .int (o 4), .int (o 5), .int (b 6), .int (b 7), .int (b 8), .int (b 9), .int (b 10), .int (b 11)]) := hE17
  have hF : E16 (kb + 1) = .inl (cI, 6, .inl fo) := (hn18 (kb + 1) (by omega)).trans hF
  have hO : E16 ko = .inr (0, [.ref (ad (ko + 1)), .int (o 1), .int (o 2), .int (o 3), .int (o 4), .int (o 5), .int (o 6), .int (o 7), .int (o 8), .int (o 9), .int (o 10), .int (o 11)]) := (hn18 ko (by omega)).trans hO
  have hOF : E16 (ko + 1) = .inl (cI, 6, .inl fo) := (hn18 (ko + 1) (by omega)).trans hOF
  have hfr : ∀ q : Nat, q ≠ kb ∧ q ≠ kb + 1 → E16 q = E q := fun q hq => (hn18 q (by omega)).trans (hfr q hq)
  refine lv_aload_n hx hb dX0_copyFrom_55 rfl (lv_at hl 0 rfl) ?_
  refine lv_aload_n hx hb dX0_copyFrom_56 rfl (lv_at hl 1 rfl) ?_
  refine f_get (ci := 0) (v := .int (o 6)) (C := RX0) (T := TX0) (N := 12) hx hb hts (by decide +kernel) hown hG.1 hI hao hko hO rfl 6 (by decide) (hts (.fieldLink RX0 29 "CoracleRace$Boat" "soaked" "I") (by decide +kernel)) rfl dX0_copyFrom_57 ?_
  refine f_put (ci := 0) (v := .int (o 6)) (C := RX0) (T := TX0) (N := 12) hx hb hts (by decide +kernel) tyX0 tyX0_ok nmX0 hown hG.1 hI ha hk hC rfl 6 (by decide) (hts (.fieldLink RX0 29 "CoracleRace$Boat" "soaked" "I") (by decide +kernel)) rfl rfl rfl (Nat.le_of_ble_eq_true rfl) dX0_copyFrom_60 (fun E19 H locs hE20 hn21 hI => ?_)
  have hC : E19 kb = .inr (0, [.ref (ad (kb + 1)), .int (o 1), .int (o 2), .int (o 3), .int (o 4), .int (o 5), .int (o 6), .int (b 7), .int (b 8), .int (b 9), .int (b 10), .int (b 11)]) := hE20
  have hF : E19 (kb + 1) = .inl (cI, 6, .inl fo) := (hn21 (kb + 1) (by omega)).trans hF
  have hO : E19 ko = .inr (0, [.ref (ad (ko + 1)), .int (o 1), .int (o 2), .int (o 3), .int (o 4), .int (o 5), .int (o 6), .int (o 7), .int (o 8), .int (o 9), .int (o 10), .int (o 11)]) := (hn21 ko (by omega)).trans hO
  have hOF : E19 (ko + 1) = .inl (cI, 6, .inl fo) := (hn21 (ko + 1) (by omega)).trans hOF
  have hfr : ∀ q : Nat, q ≠ kb ∧ q ≠ kb + 1 → E19 q = E q := fun q hq => (hn21 q (by omega)).trans (hfr q hq)
  refine lv_aload_n hx hb dX0_copyFrom_63 rfl (lv_at hl 0 rfl) ?_
  refine lv_aload_n hx hb dX0_copyFrom_64 rfl (lv_at hl 1 rfl) ?_
  refine f_get (ci := 0) (v := .int (o 7)) (C := RX0) (T := TX0) (N := 12) hx hb hts (by decide +kernel) hown hG.1 hI hao hko hO rfl 7 (by decide) (hts (.fieldLink RX0 32 "CoracleRace$Boat" "fouls" "I") (by decide +kernel)) rfl dX0_copyFrom_65 ?_
  refine f_put (ci := 0) (v := .int (o 7)) (C := RX0) (T := TX0) (N := 12) hx hb hts (by decide +kernel) tyX0 tyX0_ok nmX0 hown hG.1 hI ha hk hC rfl 7 (by decide) (hts (.fieldLink RX0 32 "CoracleRace$Boat" "fouls" "I") (by decide +kernel)) rfl rfl rfl (Nat.le_of_ble_eq_true rfl) dX0_copyFrom_68 (fun E22 H locs hE23 hn24 hI => ?_)
  have hC : E22 kb = .inr (0, [.ref (ad (kb + 1)), .int (o 1), .int (o 2), .int (o 3), .int (o 4), .int (o 5), .int (o 6), .int (o 7), .int (b 8), .int (b 9), .int (b 10), .int (b 11)]) := hE23
  have hF : E22 (kb + 1) = .inl (cI, 6, .inl fo) := (hn24 (kb + 1) (by omega)).trans hF
  have hO : E22 ko = .inr (0, [.ref (ad (ko + 1)), .int (o 1), .int (o 2), .int (o 3), .int (o 4), .int (o 5), .int (o 6), .int (o 7), .int (o 8), .int (o 9), .int (o 10), .int (o 11)]) := (hn24 ko (by omega)).trans hO
  have hOF : E22 (ko + 1) = .inl (cI, 6, .inl fo) := (hn24 (ko + 1) (by omega)).trans hOF
  have hfr : ∀ q : Nat, q ≠ kb ∧ q ≠ kb + 1 → E22 q = E q := fun q hq => (hn24 q (by omega)).trans (hfr q hq)
  refine lv_aload_n hx hb dX0_copyFrom_71 rfl (lv_at hl 0 rfl) ?_
  refine lv_aload_n hx hb dX0_copyFrom_72 rfl (lv_at hl 1 rfl) ?_
  refine f_get (ci := 0) (v := .int (o 8)) (C := RX0) (T := TX0) (N := 12) hx hb hts (by decide +kernel) hown hG.1 hI hao hko hO rfl 8 (by decide) (hts (.fieldLink RX0 35 "CoracleRace$Boat" "in" "Z") (by decide +kernel)) rfl dX0_copyFrom_73 ?_
  refine f_put (ci := 0) (v := .int (o 8)) (C := RX0) (T := TX0) (N := 12) hx hb hts (by decide +kernel) tyX0 tyX0_ok nmX0 hown hG.1 hI ha hk hC rfl 8 (by decide) (hts (.fieldLink RX0 35 "CoracleRace$Boat" "in" "Z") (by decide +kernel)) rfl (bn_of h8) (bf_of h8) (Nat.le_of_ble_eq_true rfl) dX0_copyFrom_76 (fun E25 H locs hE26 hn27 hI => ?_)
  have hC : E25 kb = .inr (0, [.ref (ad (kb + 1)), .int (o 1), .int (o 2), .int (o 3), .int (o 4), .int (o 5), .int (o 6), .int (o 7), .int (o 8), .int (b 9), .int (b 10), .int (b 11)]) := hE26
  have hF : E25 (kb + 1) = .inl (cI, 6, .inl fo) := (hn27 (kb + 1) (by omega)).trans hF
  have hO : E25 ko = .inr (0, [.ref (ad (ko + 1)), .int (o 1), .int (o 2), .int (o 3), .int (o 4), .int (o 5), .int (o 6), .int (o 7), .int (o 8), .int (o 9), .int (o 10), .int (o 11)]) := (hn27 ko (by omega)).trans hO
  have hOF : E25 (ko + 1) = .inl (cI, 6, .inl fo) := (hn27 (ko + 1) (by omega)).trans hOF
  have hfr : ∀ q : Nat, q ≠ kb ∧ q ≠ kb + 1 → E25 q = E q := fun q hq => (hn27 q (by omega)).trans (hfr q hq)
  refine lv_aload_n hx hb dX0_copyFrom_79 rfl (lv_at hl 0 rfl) ?_
  refine lv_aload_n hx hb dX0_copyFrom_80 rfl (lv_at hl 1 rfl) ?_
  refine f_get (ci := 0) (v := .int (o 9)) (C := RX0) (T := TX0) (N := 12) hx hb hts (by decide +kernel) hown hG.1 hI hao hko hO rfl 9 (by decide) (hts (.fieldLink RX0 39 "CoracleRace$Boat" "tickIn" "I") (by decide +kernel)) rfl dX0_copyFrom_81 ?_
  refine f_put (ci := 0) (v := .int (o 9)) (C := RX0) (T := TX0) (N := 12) hx hb hts (by decide +kernel) tyX0 tyX0_ok nmX0 hown hG.1 hI ha hk hC rfl 9 (by decide) (hts (.fieldLink RX0 39 "CoracleRace$Boat" "tickIn" "I") (by decide +kernel)) rfl rfl rfl (Nat.le_of_ble_eq_true rfl) dX0_copyFrom_84 (fun E28 H locs hE29 hn30 hI => ?_)
  have hC : E28 kb = .inr (0, [.ref (ad (kb + 1)), .int (o 1), .int (o 2), .int (o 3), .int (o 4), .int (o 5), .int (o 6), .int (o 7), .int (o 8), .int (o 9), .int (b 10), .int (b 11)]) := hE29
  have hF : E28 (kb + 1) = .inl (cI, 6, .inl fo) := (hn30 (kb + 1) (by omega)).trans hF
  have hO : E28 ko = .inr (0, [.ref (ad (ko + 1)), .int (o 1), .int (o 2), .int (o 3), .int (o 4), .int (o 5), .int (o 6), .int (o 7), .int (o 8), .int (o 9), .int (o 10), .int (o 11)]) := (hn30 ko (by omega)).trans hO
  have hOF : E28 (ko + 1) = .inl (cI, 6, .inl fo) := (hn30 (ko + 1) (by omega)).trans hOF
  have hfr : ∀ q : Nat, q ≠ kb ∧ q ≠ kb + 1 → E28 q = E q := fun q hq => (hn30 q (by omega)).trans (hfr q hq)
  refine lv_aload_n hx hb dX0_copyFrom_87 rfl (lv_at hl 0 rfl) ?_
  refine lv_aload_n hx hb dX0_copyFrom_88 rfl (lv_at hl 1 rfl) ?_
  refine f_get (ci := 0) (v := .int (o 10)) (C := RX0) (T := TX0) (N := 12) hx hb hts (by decide +kernel) hown hG.1 hI hao hko hO rfl 10 (by decide) (hts (.fieldLink RX0 42 "CoracleRace$Boat" "spins" "I") (by decide +kernel)) rfl dX0_copyFrom_89 ?_
  refine f_put (ci := 0) (v := .int (o 10)) (C := RX0) (T := TX0) (N := 12) hx hb hts (by decide +kernel) tyX0 tyX0_ok nmX0 hown hG.1 hI ha hk hC rfl 10 (by decide) (hts (.fieldLink RX0 42 "CoracleRace$Boat" "spins" "I") (by decide +kernel)) rfl rfl rfl (Nat.le_of_ble_eq_true rfl) dX0_copyFrom_92 (fun E31 H locs hE32 hn33 hI => ?_)
  have hC : E31 kb = .inr (0, [.ref (ad (kb + 1)), .int (o 1), .int (o 2), .int (o 3), .int (o 4), .int (o 5), .int (o 6), .int (o 7), .int (o 8), .int (o 9), .int (o 10), .int (b 11)]) := hE32
  have hF : E31 (kb + 1) = .inl (cI, 6, .inl fo) := (hn33 (kb + 1) (by omega)).trans hF
  have hO : E31 ko = .inr (0, [.ref (ad (ko + 1)), .int (o 1), .int (o 2), .int (o 3), .int (o 4), .int (o 5), .int (o 6), .int (o 7), .int (o 8), .int (o 9), .int (o 10), .int (o 11)]) := (hn33 ko (by omega)).trans hO
  have hOF : E31 (ko + 1) = .inl (cI, 6, .inl fo) := (hn33 (ko + 1) (by omega)).trans hOF
  have hfr : ∀ q : Nat, q ≠ kb ∧ q ≠ kb + 1 → E31 q = E q := fun q hq => (hn33 q (by omega)).trans (hfr q hq)
  refine lv_aload_n hx hb dX0_copyFrom_95 rfl (lv_at hl 0 rfl) ?_
  refine lv_aload_n hx hb dX0_copyFrom_96 rfl (lv_at hl 1 rfl) ?_
  refine f_get (ci := 0) (v := .int (o 11)) (C := RX0) (T := TX0) (N := 12) hx hb hts (by decide +kernel) hown hG.1 hI hao hko hO rfl 11 (by decide) (hts (.fieldLink RX0 45 "CoracleRace$Boat" "stops" "I") (by decide +kernel)) rfl dX0_copyFrom_97 ?_
  refine f_put (ci := 0) (v := .int (o 11)) (C := RX0) (T := TX0) (N := 12) hx hb hts (by decide +kernel) tyX0 tyX0_ok nmX0 hown hG.1 hI ha hk hC rfl 11 (by decide) (hts (.fieldLink RX0 45 "CoracleRace$Boat" "stops" "I") (by decide +kernel)) rfl rfl rfl (Nat.le_of_ble_eq_true rfl) dX0_copyFrom_100 (fun E34 H locs hE35 hn36 hI => ?_)
  have hC : E34 kb = .inr (0, [.ref (ad (kb + 1)), .int (o 1), .int (o 2), .int (o 3), .int (o 4), .int (o 5), .int (o 6), .int (o 7), .int (o 8), .int (o 9), .int (o 10), .int (o 11)]) := hE35
  have hF : E34 (kb + 1) = .inl (cI, 6, .inl fo) := (hn36 (kb + 1) (by omega)).trans hF
  have hO : E34 ko = .inr (0, [.ref (ad (ko + 1)), .int (o 1), .int (o 2), .int (o 3), .int (o 4), .int (o 5), .int (o 6), .int (o 7), .int (o 8), .int (o 9), .int (o 10), .int (o 11)]) := (hn36 ko (by omega)).trans hO
  have hOF : E34 (ko + 1) = .inl (cI, 6, .inl fo) := (hn36 (ko + 1) (by omega)).trans hOF
  have hfr : ∀ q : Nat, q ≠ kb ∧ q ≠ kb + 1 → E34 q = E q := fun q hq => (hn36 q (by omega)).trans (hfr q hq)
  exact f_retv hQ hx hb hr hlocks hI.2.2 (by omega) (by omega) dX0_copyFrom_103 E34 (fB_of hI) (⟨hC, hF, hfr⟩)

