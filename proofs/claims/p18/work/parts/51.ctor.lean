theorem fl_at.ad {cI cB : ClassId} {ad ad1 : Nat → Nat} {E : Nat → va_E} {fb n T : Nat} {B F : Nat → Nat → Int32} (h : fl_at cI cB ad E fb n T B F) (h1 : ∀ q, fb ≤ q → q < fb + 14 → ad1 q = ad q) : fl_at cI cB ad1 E fb n T B F := by
  obtain ⟨a, b, c⟩ := h
  have hr : fl_row ad1 fb = fl_row ad fb := by
    funext i
    unfold fl_row
    by_cases h : i < 6
    · rw [if_pos h, if_pos h, h1 (fb + 2 + 2 * i) (by omega) (by omega)]
    · rw [if_neg h, if_neg h]
  refine ⟨by rw [h1 (fb + 1) (by omega) (by omega)]; exact a, by rw [hr]; exact b, fun i hi => ⟨?_, (c i hi).2⟩⟩
  have := (c i hi).1
  rw [this]
  unfold bE
  rw [h1 (fb + 2 + 2 * i + 1) (by omega) (by omega)]
set_option maxHeartbeats 4000000 in
set_option maxRecDepth 100000 in
theorem m_X3_init (l : Launch) {D : va_G} {cI cJ cB : ClassId} {t0 z : Nat} {tx ad : Nat → Nat} {L : List Nat} {E : Nat → va_E} {a : Nat} (ha : ad 0 = a) (hk : 0 ∈ L) (hN : ∀ k, 1 ≤ k → k < 44 → k ∉ L) (hC : E 0 = .inr (3, [.null, .null, .null])) : Met l yX3_init wsX3_init ({ frames := 3, cells := 32, slots := 255, locals := 61 } : Room) (va_Pc [.ref a] (fPre D cI cJ cB t0 z tx ad L E)) (va_Qv (fun (u : (Nat → Nat) × (Nat → va_E)) => (∀ q : Nat, (q = 0 ∨ 44 ≤ q) → u.1 q = ad q) ∧ (∀ q : Nat, 44 ≤ q → u.2 q = E q) ∧ x_at cI cB u.1 u.2 w_new (fun _ => 0) (fun _ => 0) 0 0 0 (fun _ => b_new) (fun _ _ => 0)) (fun u t => fB D z u.1 (L ++ [1] ++ [2] ++ [3] ++ [4] ++ [10] ++ [10 + 1] ++ [10 + 2 + 2 * 0] ++ [10 + 2 + 2 * 0 + 1] ++ [10 + 2 + 2 * 1] ++ [10 + 2 + 2 * 1 + 1] ++ [10 + 2 + 2 * 2] ++ [10 + 2 + 2 * 2 + 1] ++ [10 + 2 + 2 * 3] ++ [10 + 2 + 2 * 3 + 1] ++ [10 + 2 + 2 * 4] ++ [10 + 2 + 2 * 4 + 1] ++ [10 + 2 + 2 * 5] ++ [10 + 2 + 2 * 5 + 1] ++ [30] ++ [30 + 1] ++ [30 + 2 + 2 * 0] ++ [30 + 2 + 2 * 0 + 1] ++ [30 + 2 + 2 * 1] ++ [30 + 2 + 2 * 1 + 1] ++ [30 + 2 + 2 * 2] ++ [30 + 2 + 2 * 2 + 1] ++ [30 + 2 + 2 * 3] ++ [30 + 2 + 2 * 3 + 1] ++ [30 + 2 + 2 * 4] ++ [30 + 2 + 2 * 4 + 1] ++ [30 + 2 + 2 * 5] ++ [30 + 2 + 2 * 5 + 1]) u.2 t) (fA z)) 32 255 (fA z) := by
  refine f_ofW (cc := cX3_init) (maxL := 1) (ret := none) (by decide) rfl (Nat.le_of_ble_eq_true rfl) ?_
  intro pr e s m args below meth c Q hx hb hr hml hts hown hlocks hin hG H locs hI hQ ls hl
  have hl : lv_has ls 1 [(0, .ref a)] := hl
  have hfr : ∀ q : Nat, 44 ≤ q → E q = E q := fun _ _ => rfl
  have hfa : ∀ q : Nat, (q = 0 ∨ 44 ≤ q) → ad q = ad q := fun _ _ => rfl
  have hC : E 0 = .inr (3, [.null, .null, .null]) := hC
  refine lv_aload_n hx hb dX3_init_0 rfl (lv_at hl 0 rfl) ?_
  refine W.objInit hx hb hown (hts (.methodLink RX3 1 objectInit) (by decide +kernel)) (hts (.instanceMethod objectInit) (by decide +kernel)) (hts (.code objectInit ⟨#[0xb1]⟩ 1 none) (by decide +kernel)) rfl (by rw [hml]; exact hl.1) rfl dX3_init_1 (Nat.le_of_ble_eq_true rfl) (Nat.le_of_ble_eq_true rfl) ?_
  refine W.eq (g2 := F0 m 4 ls []) rfl ?_
  refine lv_aload_n hx hb dX3_init_4 rfl (lv_at hl 0 rfl) ?_
  refine f_new (ci := 2) (C := RX2) (T := TX2) (N := 4) (k := 1) (fs := [.null, .null, .null, .int 0]) hx hb hts (by decide +kernel) tyX2 tyX2_ok hown (hts (.classLink RX3 7 RX2) (by decide +kernel)) (hts (.instantiable RX2 4) (by decide +kernel)) (hts (.initialized RX2) (by decide +kernel)) hG.1 hI (fG_A hG) rfl (by decide) (hN 1 (by omega) (by omega)) (Nat.le_of_ble_eq_true rfl) (Nat.le_of_ble_eq_true rfl) dX3_init_5 (fun aN0 adN0 EN0 H hk0 hr0 hEk0 hEr0 hI => ?_)
  have ha_x0 : adN0 0 = a := (hr0 0 (by omega)).trans ha
  have hc_x0 : EN0 0 = .inr (3, [.null, .null, .null]) := (hEr0 0 (by omega)).trans hC
  have hfa : ∀ q : Nat, (q = 0 ∨ 44 ≤ q) → adN0 q = ad q := fun q hq => (hr0 q (by omega)).trans (hfa q hq)
  have hfr : ∀ q : Nat, 44 ≤ q → EN0 q = E q := fun q hq => (hEr0 q (by omega)).trans (hfr q hq)
  have hc_kr : EN0 1 = .inr (2, [.null, .null, .null, .int 0]) := hEk0
  have ha_kr : adN0 1 = aN0 := hk0
  refine lv_dup hx hb dX3_init_8 rfl ?_
  refine f_callc (va_runIN (As := []) (rest := [.ref aN0, .ref a]) ⟨hx, hb, hml, hown, hts⟩ (m_X2_init l ha_kr in_last (fun k h1 h2 => (nin_app (hN k (by omega) (by omega)) (by omega))) hc_kr) ⟨va_cnB 0 hts gX3_init_X2_init_n9 rfl rfl rfl (hG.2.1 (.methodLinkNest RX3 9 yX2_init RX3) (by simp [fNest])) (hts (.initialized RX2) (by decide +kernel)) (by decide +kernel) ⟨(Nat.le_of_ble_eq_true rfl), (Nat.le_of_ble_eq_true rfl)⟩, rfl, (hts (.instanceMethod yX2_init) (by decide +kernel))⟩ (fPre_of hG hI) rfl rfl hl.1 rfl (lv_room (Nat.le_of_ble_eq_true rfl)) dX3_init_9 ⟨(Nat.le_of_ble_eq_true rfl), (Nat.le_of_ble_eq_true rfl)⟩) hI (fun adN1 EN1 H locs hp hI => ?_)
  obtain ⟨hA9, hE9, hR9, hRw9, hRp9, hRg9⟩ := hp
  have ha_x0 : adN1 0 = a := (hA9 0 (by omega)).trans ha_x0
  have hc_x0 : EN1 0 = .inr (3, [.null, .null, .null]) := (hE9 0 (by omega)).trans hc_x0
  have hfa : ∀ q : Nat, (q = 0 ∨ 44 ≤ q) → adN1 q = ad q := fun q hq => (hA9 q (by omega)).trans (hfa q hq)
  have hfr : ∀ q : Nat, 44 ≤ q → EN1 q = E q := fun q hq => (hE9 q (by omega)).trans (hfr q hq)
  have ha_kr : adN1 1 = aN0 := (hA9 1 (by omega)).trans ha_kr
  refine f_putF (ci := 3) (v := .ref aN0) (C := RX3) (T := TX3) (N := 3) hx hb hts (by decide +kernel) tyX3 tyX3_ok nmX3 hown hG.1 hI ha_x0 (List.mem_append_left _ (List.mem_append_left _ (List.mem_append_left _ (List.mem_append_left _ hk)))) hc_x0 rfl 0 (by decide) (hts (.fieldLink RX3 10 "CoracleRace" "river" "LCoracleRace$River;") (by decide +kernel)) rfl hin rfl rfl rfl (Nat.le_of_ble_eq_true rfl) dX3_init_12 (fun E3 H locs hE4 hn5 hI => ?_)
  have hc_x0 : E3 0 = .inr (3, [.ref aN0, .null, .null]) := hE4
  have hR9 : E3 1 = .inr (2, [.ref (adN1 2), .ref (adN1 3), .ref (adN1 4), .int (nI 0)]) := (hn5 1 (by omega)).trans hR9
  have hRw9 : E3 2 = .inl (cI, 5, .inl w_new) := (hn5 2 (by omega)).trans hRw9
  have hRp9 : E3 3 = .inl (cI, 6, .inl (fun _ => 0)) := (hn5 3 (by omega)).trans hRp9
  have hRg9 : E3 4 = .inl (cI, 6, .inl (fun _ => 0)) := (hn5 4 (by omega)).trans hRg9
  have hfr : ∀ q : Nat, 44 ≤ q → E3 q = E q := fun q hq => (hn5 q (by omega)).trans (hfr q hq)
  refine lv_aload_n hx hb dX3_init_15 rfl (lv_at hl 0 rfl) ?_
  refine f_new (ci := 1) (C := RX1) (T := TX1) (N := 3) (k := 10) (fs := [.null, .int 0, .int 0]) hx hb hts (by decide +kernel) tyX1 tyX1_ok hown (hts (.classLink RX3 16 RX1) (by decide +kernel)) (hts (.instantiable RX1 3) (by decide +kernel)) (hts (.initialized RX1) (by decide +kernel)) hG.1 hI (fG_A hG) rfl (by decide) (nin_app (nin_app (nin_app (nin_app (hN 10 (by omega) (by omega)) (by omega)) (by omega)) (by omega)) (by omega)) (Nat.le_of_ble_eq_true rfl) (Nat.le_of_ble_eq_true rfl) dX3_init_16 (fun aN5 adN5 EN5 H hk5 hr5 hEk5 hEr5 hI => ?_)
  have ha_x0 : adN5 0 = a := (hr5 0 (by omega)).trans ha_x0
  have hc_x0 : EN5 0 = .inr (3, [.ref aN0, .null, .null]) := (hEr5 0 (by omega)).trans hc_x0
  have ha_kr : adN5 1 = aN0 := (hr5 1 (by omega)).trans ha_kr
  have hc_kr : EN5 1 = .inr (2, [.ref (adN1 2), .ref (adN1 3), .ref (adN1 4), .int (nI 0)]) := (hEr5 1 (by omega)).trans hR9
  have ha_kw : adN5 2 = (adN1 2) := (hr5 2 (by omega)).trans (rfl : adN1 2 = adN1 2)
  have hc_kw : EN5 2 = .inl (cI, 5, .inl w_new) := (hEr5 2 (by omega)).trans hRw9
  have ha_kp : adN5 3 = (adN1 3) := (hr5 3 (by omega)).trans (rfl : adN1 3 = adN1 3)
  have hc_kp : EN5 3 = .inl (cI, 6, .inl (fun _ => 0)) := (hEr5 3 (by omega)).trans hRp9
  have ha_kg : adN5 4 = (adN1 4) := (hr5 4 (by omega)).trans (rfl : adN1 4 = adN1 4)
  have hc_kg : EN5 4 = .inl (cI, 6, .inl (fun _ => 0)) := (hEr5 4 (by omega)).trans hRg9
  have hfa : ∀ q : Nat, (q = 0 ∨ 44 ≤ q) → adN5 q = ad q := fun q hq => (hr5 q (by omega)).trans (hfa q hq)
  have hfr : ∀ q : Nat, 44 ≤ q → EN5 q = E q := fun q hq => (hEr5 q (by omega)).trans (hfr q hq)
  have hc_F : EN5 10 = .inr (1, [.null, .int 0, .int 0]) := hEk5
  have ha_F : adN5 10 = aN5 := hk5
  refine lv_dup hx hb dX3_init_19 rfl ?_
  refine f_callc (va_runI (As := []) (rest := [.ref aN5, .ref a]) ⟨hx, hb, hml, hown, hts⟩ (m_X1_init l (fb := 10) ha_F in_last (fun k h1 h2 => (nin_app (nin_app (nin_app (nin_app (nin_app (hN k (by omega) (by omega)) (by omega)) (by omega)) (by omega)) (by omega)) (by omega))) hc_F) ⟨callB_of 0 hts gX3_init_X1_init rfl rfl rfl (hts (.initialized RX1) (by decide +kernel)) (hts (.methodLink RX3 18 yX1_init) (by decide +kernel)) (by decide +kernel) ⟨(Nat.le_of_ble_eq_true rfl), (Nat.le_of_ble_eq_true rfl)⟩, rfl, (hts (.instanceMethod yX1_init) (by decide +kernel))⟩ (fPre_of hG hI) rfl rfl hl.1 rfl (lv_room (Nat.le_of_ble_eq_true rfl)) dX3_init_20 ⟨(Nat.le_of_ble_eq_true rfl), (Nat.le_of_ble_eq_true rfl)⟩) hI (fun adN6 EN6 H locs hp hI => ?_)
  obtain ⟨hA9, hE9, hF9⟩ := hp
  have ha_x0 : adN6 0 = a := (hA9 0 (by omega)).trans ha_x0
  have hc_x0 : EN6 0 = .inr (3, [.ref aN0, .null, .null]) := (hE9 0 (by omega)).trans hc_x0
  have ha_kr : adN6 1 = aN0 := (hA9 1 (by omega)).trans ha_kr
  have hc_kr : EN6 1 = .inr (2, [.ref (adN1 2), .ref (adN1 3), .ref (adN1 4), .int (nI 0)]) := (hE9 1 (by omega)).trans hc_kr
  have ha_kw : adN6 2 = (adN1 2) := (hA9 2 (by omega)).trans ha_kw
  have hc_kw : EN6 2 = .inl (cI, 5, .inl w_new) := (hE9 2 (by omega)).trans hc_kw
  have ha_kp : adN6 3 = (adN1 3) := (hA9 3 (by omega)).trans ha_kp
  have hc_kp : EN6 3 = .inl (cI, 6, .inl (fun _ => 0)) := (hE9 3 (by omega)).trans hc_kp
  have ha_kg : adN6 4 = (adN1 4) := (hA9 4 (by omega)).trans ha_kg
  have hc_kg : EN6 4 = .inl (cI, 6, .inl (fun _ => 0)) := (hE9 4 (by omega)).trans hc_kg
  have hfa : ∀ q : Nat, (q = 0 ∨ 44 ≤ q) → adN6 q = ad q := fun q hq => (hA9 q (by omega)).trans (hfa q hq)
  have hfr : ∀ q : Nat, 44 ≤ q → EN6 q = E q := fun q hq => (hE9 q (by omega)).trans (hfr q hq)
  have hF10 := hF9
  have ha_F : adN6 10 = aN5 := (hA9 10 (by omega)).trans ha_F
  have hc_F : EN6 10 = .inr (1, [.ref (adN6 (10 + 1)), .int (nI 0), .int (nI 0)]) := hF9.1
  refine f_putF (ci := 3) (v := .ref aN5) (C := RX3) (T := TX3) (N := 3) hx hb hts (by decide +kernel) tyX3 tyX3_ok nmX3 hown hG.1 hI ha_x0 (List.mem_append_left _ (List.mem_append_left _ (List.mem_append_left _ (List.mem_append_left _ (List.mem_append_left _ (List.mem_append_left _ (List.mem_append_left _ (List.mem_append_left _ (List.mem_append_left _ (List.mem_append_left _ (List.mem_append_left _ (List.mem_append_left _ (List.mem_append_left _ (List.mem_append_left _ (List.mem_append_left _ (List.mem_append_left _ (List.mem_append_left _ (List.mem_append_left _ hk)))))))))))))))))) hc_x0 rfl 1 (by decide) (hts (.fieldLink RX3 19 "CoracleRace" "fleet" "LCoracleRace$Fleet;") (by decide +kernel)) rfl hin rfl rfl rfl (Nat.le_of_ble_eq_true rfl) dX3_init_23 (fun E8 H locs hE9 hn10 hI => ?_)
  have hc_x0 : E8 0 = .inr (3, [.ref aN0, .ref aN5, .null]) := hE9
  have hc_kr : E8 1 = .inr (2, [.ref (adN1 2), .ref (adN1 3), .ref (adN1 4), .int (nI 0)]) := (hn10 1 (by omega)).trans hc_kr
  have hc_kw : E8 2 = .inl (cI, 5, .inl w_new) := (hn10 2 (by omega)).trans hc_kw
  have hc_kp : E8 3 = .inl (cI, 6, .inl (fun _ => 0)) := (hn10 3 (by omega)).trans hc_kp
  have hc_kg : E8 4 = .inl (cI, 6, .inl (fun _ => 0)) := (hn10 4 (by omega)).trans hc_kg
  have hc_F : E8 10 = .inr (1, [.ref (adN6 (10 + 1)), .int (nI 0), .int (nI 0)]) := (hn10 10 (by omega)).trans hc_F
  have hfr : ∀ q : Nat, 44 ≤ q → E8 q = E q := fun q hq => (hn10 q (by omega)).trans (hfr q hq)
  have hF10 := hF10.kept (fun q h1 h2 => hn10 q (by omega))
  refine lv_aload_n hx hb dX3_init_26 rfl (lv_at hl 0 rfl) ?_
  refine f_new (ci := 1) (C := RX1) (T := TX1) (N := 3) (k := 30) (fs := [.null, .int 0, .int 0]) hx hb hts (by decide +kernel) tyX1 tyX1_ok hown (hts (.classLink RX3 16 RX1) (by decide +kernel)) (hts (.instantiable RX1 3) (by decide +kernel)) (hts (.initialized RX1) (by decide +kernel)) hG.1 hI (fG_A hG) rfl (by decide) (nin_app (nin_app (nin_app (nin_app (nin_app (nin_app (nin_app (nin_app (nin_app (nin_app (nin_app (nin_app (nin_app (nin_app (nin_app (nin_app (nin_app (nin_app (hN 30 (by omega) (by omega)) (by omega)) (by omega)) (by omega)) (by omega)) (by omega)) (by omega)) (by omega)) (by omega)) (by omega)) (by omega)) (by omega)) (by omega)) (by omega)) (by omega)) (by omega)) (by omega)) (by omega)) (by omega)) (Nat.le_of_ble_eq_true rfl) (Nat.le_of_ble_eq_true rfl) dX3_init_27 (fun aN10 adN10 EN10 H hk10 hr10 hEk10 hEr10 hI => ?_)
  have ha_x0 : adN10 0 = a := (hr10 0 (by omega)).trans ha_x0
  have hc_x0 : EN10 0 = .inr (3, [.ref aN0, .ref aN5, .null]) := (hEr10 0 (by omega)).trans hc_x0
  have ha_kr : adN10 1 = aN0 := (hr10 1 (by omega)).trans ha_kr
  have hc_kr : EN10 1 = .inr (2, [.ref (adN1 2), .ref (adN1 3), .ref (adN1 4), .int (nI 0)]) := (hEr10 1 (by omega)).trans hc_kr
  have ha_kw : adN10 2 = (adN1 2) := (hr10 2 (by omega)).trans ha_kw
  have hc_kw : EN10 2 = .inl (cI, 5, .inl w_new) := (hEr10 2 (by omega)).trans hc_kw
  have ha_kp : adN10 3 = (adN1 3) := (hr10 3 (by omega)).trans ha_kp
  have hc_kp : EN10 3 = .inl (cI, 6, .inl (fun _ => 0)) := (hEr10 3 (by omega)).trans hc_kp
  have ha_kg : adN10 4 = (adN1 4) := (hr10 4 (by omega)).trans ha_kg
  have hc_kg : EN10 4 = .inl (cI, 6, .inl (fun _ => 0)) := (hEr10 4 (by omega)).trans hc_kg
  have ha_F : adN10 10 = aN5 := (hr10 10 (by omega)).trans ha_F
  have hc_F : EN10 10 = .inr (1, [.ref (adN6 (10 + 1)), .int (nI 0), .int (nI 0)]) := (hEr10 10 (by omega)).trans hc_F
  have hF10 := (hF10.ad (fun q h1 h2 => hr10 q (by omega))).kept (fun q h1 h2 => hEr10 q (by omega))
  have hfa : ∀ q : Nat, (q = 0 ∨ 44 ≤ q) → adN10 q = ad q := fun q hq => (hr10 q (by omega)).trans (hfa q hq)
  have hfr : ∀ q : Nat, 44 ≤ q → EN10 q = E q := fun q hq => (hEr10 q (by omega)).trans (hfr q hq)
  have hc_Tr : EN10 30 = .inr (1, [.null, .int 0, .int 0]) := hEk10
  have ha_Tr : adN10 30 = aN10 := hk10
  refine lv_dup hx hb dX3_init_30 rfl ?_
  refine f_callc (va_runI (As := []) (rest := [.ref aN10, .ref a]) ⟨hx, hb, hml, hown, hts⟩ (m_X1_init l (fb := 30) ha_Tr in_last (fun k h1 h2 => (nin_app (nin_app (nin_app (nin_app (nin_app (nin_app (nin_app (nin_app (nin_app (nin_app (nin_app (nin_app (nin_app (nin_app (nin_app (nin_app (nin_app (nin_app (nin_app (hN k (by omega) (by omega)) (by omega)) (by omega)) (by omega)) (by omega)) (by omega)) (by omega)) (by omega)) (by omega)) (by omega)) (by omega)) (by omega)) (by omega)) (by omega)) (by omega)) (by omega)) (by omega)) (by omega)) (by omega)) (by omega))) hc_Tr) ⟨callB_of 0 hts gX3_init_X1_init rfl rfl rfl (hts (.initialized RX1) (by decide +kernel)) (hts (.methodLink RX3 18 yX1_init) (by decide +kernel)) (by decide +kernel) ⟨(Nat.le_of_ble_eq_true rfl), (Nat.le_of_ble_eq_true rfl)⟩, rfl, (hts (.instanceMethod yX1_init) (by decide +kernel))⟩ (fPre_of hG hI) rfl rfl hl.1 rfl (lv_room (Nat.le_of_ble_eq_true rfl)) dX3_init_31 ⟨(Nat.le_of_ble_eq_true rfl), (Nat.le_of_ble_eq_true rfl)⟩) hI (fun adN11 EN11 H locs hp hI => ?_)
  obtain ⟨hA9, hE9, hF9⟩ := hp
  have ha_x0 : adN11 0 = a := (hA9 0 (by omega)).trans ha_x0
  have hc_x0 : EN11 0 = .inr (3, [.ref aN0, .ref aN5, .null]) := (hE9 0 (by omega)).trans hc_x0
  have ha_kr : adN11 1 = aN0 := (hA9 1 (by omega)).trans ha_kr
  have hc_kr : EN11 1 = .inr (2, [.ref (adN1 2), .ref (adN1 3), .ref (adN1 4), .int (nI 0)]) := (hE9 1 (by omega)).trans hc_kr
  have ha_kw : adN11 2 = (adN1 2) := (hA9 2 (by omega)).trans ha_kw
  have hc_kw : EN11 2 = .inl (cI, 5, .inl w_new) := (hE9 2 (by omega)).trans hc_kw
  have ha_kp : adN11 3 = (adN1 3) := (hA9 3 (by omega)).trans ha_kp
  have hc_kp : EN11 3 = .inl (cI, 6, .inl (fun _ => 0)) := (hE9 3 (by omega)).trans hc_kp
  have ha_kg : adN11 4 = (adN1 4) := (hA9 4 (by omega)).trans ha_kg
  have hc_kg : EN11 4 = .inl (cI, 6, .inl (fun _ => 0)) := (hE9 4 (by omega)).trans hc_kg
  have ha_F : adN11 10 = aN5 := (hA9 10 (by omega)).trans ha_F
  have hc_F : EN11 10 = .inr (1, [.ref (adN6 (10 + 1)), .int (nI 0), .int (nI 0)]) := (hE9 10 (by omega)).trans hc_F
  have hF10 := (hF10.ad (fun q h1 h2 => hA9 q (by omega))).kept (fun q h1 h2 => hE9 q (by omega))
  have hfa : ∀ q : Nat, (q = 0 ∨ 44 ≤ q) → adN11 q = ad q := fun q hq => (hA9 q (by omega)).trans (hfa q hq)
  have hfr : ∀ q : Nat, 44 ≤ q → EN11 q = E q := fun q hq => (hE9 q (by omega)).trans (hfr q hq)
  have hF30 := hF9
  have ha_Tr : adN11 30 = aN10 := (hA9 30 (by omega)).trans ha_Tr
  have hc_Tr : EN11 30 = .inr (1, [.ref (adN11 (30 + 1)), .int (nI 0), .int (nI 0)]) := hF9.1
  refine f_putF (ci := 3) (v := .ref aN10) (C := RX3) (T := TX3) (N := 3) hx hb hts (by decide +kernel) tyX3 tyX3_ok nmX3 hown hG.1 hI ha_x0 (List.mem_append_left _ (List.mem_append_left _ (List.mem_append_left _ (List.mem_append_left _ (List.mem_append_left _ (List.mem_append_left _ (List.mem_append_left _ (List.mem_append_left _ (List.mem_append_left _ (List.mem_append_left _ (List.mem_append_left _ (List.mem_append_left _ (List.mem_append_left _ (List.mem_append_left _ (List.mem_append_left _ (List.mem_append_left _ (List.mem_append_left _ (List.mem_append_left _ (List.mem_append_left _ (List.mem_append_left _ (List.mem_append_left _ (List.mem_append_left _ (List.mem_append_left _ (List.mem_append_left _ (List.mem_append_left _ (List.mem_append_left _ (List.mem_append_left _ (List.mem_append_left _ (List.mem_append_left _ (List.mem_append_left _ (List.mem_append_left _ (List.mem_append_left _ hk)))))))))))))))))))))))))))))))) hc_x0 rfl 2 (by decide) (hts (.fieldLink RX3 23 "CoracleRace" "trial" "LCoracleRace$Fleet;") (by decide +kernel)) rfl hin rfl rfl rfl (Nat.le_of_ble_eq_true rfl) dX3_init_34 (fun E13 H locs hE14 hn15 hI => ?_)
  have hc_x0 : E13 0 = .inr (3, [.ref aN0, .ref aN5, .ref aN10]) := hE14
  have hc_kr : E13 1 = .inr (2, [.ref (adN1 2), .ref (adN1 3), .ref (adN1 4), .int (nI 0)]) := (hn15 1 (by omega)).trans hc_kr
  have hc_kw : E13 2 = .inl (cI, 5, .inl w_new) := (hn15 2 (by omega)).trans hc_kw
  have hc_kp : E13 3 = .inl (cI, 6, .inl (fun _ => 0)) := (hn15 3 (by omega)).trans hc_kp
  have hc_kg : E13 4 = .inl (cI, 6, .inl (fun _ => 0)) := (hn15 4 (by omega)).trans hc_kg
  have hc_F : E13 10 = .inr (1, [.ref (adN6 (10 + 1)), .int (nI 0), .int (nI 0)]) := (hn15 10 (by omega)).trans hc_F
  have hc_Tr : E13 30 = .inr (1, [.ref (adN11 (30 + 1)), .int (nI 0), .int (nI 0)]) := (hn15 30 (by omega)).trans hc_Tr
  have hfr : ∀ q : Nat, 44 ≤ q → E13 q = E q := fun q hq => (hn15 q (by omega)).trans (hfr q hq)
  have hF10 := hF10.kept (fun q h1 h2 => hn15 q (by omega))
  have hF30 := hF30.kept (fun q h1 h2 => hn15 q (by omega))
  exact f_retv hQ hx hb hr hlocks hI.2.2 (by omega) (by omega) dX3_init_37 (adN11, E13) (fB_of hI) (⟨hfa, hfr, hc_x0.trans (by rw [← ha_kr, ← ha_F, ← ha_Tr]), ⟨hc_kr.trans (by rw [← ha_kw, ← ha_kp, ← ha_kg]), hc_kw, hc_kp, hc_kg⟩, hF10, 0, 0, _, _, by decide, hF30⟩)

