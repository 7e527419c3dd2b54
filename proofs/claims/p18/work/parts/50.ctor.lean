theorem nin_app {k j : Nat} {L : List Nat} (h : k ∉ L) (hne : k ≠ j) : k ∉ L ++ [j] := fun q => by
  rcases List.mem_append.mp q with q | q
  · exact h q
  · exact hne (List.mem_singleton.mp q)
theorem in_last {k : Nat} {L : List Nat} : k ∈ L ++ [k] := List.mem_append_right _ (List.mem_singleton.mpr rfl)
def b_new : Nat → Int32 := fun k => match k with
  | 1 => 1
  | 2 => 1
  | _ => 0
def w_new : Nat → Int32 := upd (upd (upd (upd (upd (fun _ => 0) 0 1) 1 2) 2 3) 3 2) 4 1
set_option maxHeartbeats 4000000 in
set_option maxRecDepth 100000 in
theorem m_X0_init (l : Launch) {D : va_G} {cI cJ cB : ClassId} {t0 z : Nat} {tx ad : Nat → Nat} {L : List Nat} {E : Nat → va_E} {kb a : Nat} (ha : ad kb = a) (hk : kb ∈ L) (hN : ∀ k, kb + 1 ≤ k → k < kb + 2 → k ∉ L) (hC : E kb = .inr (0, [.null, .int 0, .int 0, .int 0, .int 0, .int 0, .int 0, .int 0, .int 0, .int 0, .int 0, .int 0])) : Met l yX0_init wsX0_init ({ frames := 1, cells := 1, slots := 6, locals := 20 } : Room) (va_Pc [.ref a] (fPre D cI cJ cB t0 z tx ad L E)) (va_Qv (fun (u : (Nat → Nat) × (Nat → va_E)) => (∀ q : Nat, q ≠ kb + 1 → u.1 q = ad q) ∧ (∀ q : Nat, q ≠ kb ∧ q ≠ kb + 1 → u.2 q = E q) ∧ u.2 kb = bE u.1 kb b_new ∧ u.2 (kb + 1) = .inl (cI, 6, .inl (fun _ => 0))) (fun u t => fB D z u.1 (L ++ [kb + 1]) u.2 t) (fA z)) 1 6 (fA z) := by
  refine f_ofW (cc := cX0_init) (maxL := 1) (ret := none) (by decide) rfl (Nat.le_of_ble_eq_true rfl) ?_
  intro pr e s m args below meth c Q hx hb hr hml hts hown hlocks hin hG H locs hI hQ ls hl
  have hl : lv_has ls 1 [(0, .ref a)] := hl
  have hfr : ∀ q : Nat, q ≠ kb ∧ q ≠ kb + 1 → E q = E q := fun _ _ => rfl
  have hfa : ∀ q : Nat, q ≠ kb + 1 → ad q = ad q := fun _ _ => rfl
  have hC : E kb = .inr (0, [.null, .int 0, .int 0, .int 0, .int 0, .int 0, .int 0, .int 0, .int 0, .int 0, .int 0, .int 0]) := hC
  refine lv_aload_n hx hb dX0_init_0 rfl (lv_at hl 0 rfl) ?_
  refine W.objInit hx hb hown (hts (.methodLink RX0 1 objectInit) (by decide +kernel)) (hts (.instanceMethod objectInit) (by decide +kernel)) (hts (.code objectInit ⟨#[0xb1]⟩ 1 none) (by decide +kernel)) rfl (by rw [hml]; exact hl.1) rfl dX0_init_1 (Nat.le_of_ble_eq_true rfl) (Nat.le_of_ble_eq_true rfl) ?_
  refine W.eq (g2 := F0 m 4 ls []) rfl ?_
  refine lv_aload_n hx hb dX0_init_4 rfl (lv_at hl 0 rfl) ?_
  refine lv_bipush (v := 6) hx hb dX0_init_5 (by decide) ?_
  refine f_newi (k := kb + 1) (N := 6) hx hb (hts (.arrayClass .int) (by decide +kernel)) hG.1 hI (fG_A hG) (by decide) (by decide) (by decide) (hN (kb + 1) (by omega) (by omega)) (Nat.le_of_ble_eq_true rfl) (Nat.le_of_ble_eq_true rfl) dX0_init_7 (fun aN0 adN0 EN0 H hk0 hr0 hEk0 hEr0 hI => ?_)
  have ha_kb : adN0 kb = a := (hr0 kb (by omega)).trans ha
  have hc_kb : EN0 kb = .inr (0, [.null, .int 0, .int 0, .int 0, .int 0, .int 0, .int 0, .int 0, .int 0, .int 0, .int 0, .int 0]) := (hEr0 kb (by omega)).trans hC
  have hfa : ∀ q : Nat, q ≠ kb + 1 → adN0 q = ad q := fun q hq => (hr0 q (by omega)).trans (hfa q hq)
  have hfr : ∀ q : Nat, q ≠ kb ∧ q ≠ kb + 1 → EN0 q = E q := fun q hq => (hEr0 q (by omega)).trans (hfr q hq)
  have hc_sk : EN0 (kb + 1) = .inl (cI, 6, .inl (fun _ => 0)) := hEk0
  have ha_sk : adN0 (kb + 1) = aN0 := hk0
  refine f_putF (ci := 0) (v := .ref aN0) (C := RX0) (T := TX0) (N := 12) hx hb hts (by decide +kernel) tyX0 tyX0_ok nmX0 hown hG.1 hI ha_kb (List.mem_append_left _ hk) hc_kb rfl 0 (by decide) (hts (.fieldLink RX0 9 "CoracleRace$Boat" "strokes" "[I") (by decide +kernel)) rfl hin rfl rfl rfl (Nat.le_of_ble_eq_true rfl) dX0_init_9 (fun E2 H locs hE3 hn4 hI => ?_)
  have hc_kb : E2 kb = .inr (0, [.ref aN0, .int 0, .int 0, .int 0, .int 0, .int 0, .int 0, .int 0, .int 0, .int 0, .int 0, .int 0]) := hE3
  have hc_sk : E2 (kb + 1) = .inl (cI, 6, .inl (fun _ => 0)) := (hn4 (kb + 1) (by omega)).trans hc_sk
  have hfr : ∀ q : Nat, q ≠ kb ∧ q ≠ kb + 1 → E2 q = E q := fun q hq => (hn4 q (by omega)).trans (hfr q hq)
  refine lv_aload_n hx hb dX0_init_12 rfl (lv_at hl 0 rfl) ?_
  refine lv_iconst (v := 1) hx hb dX0_init_13 (by decide) ?_
  refine f_put (ci := 0) (v := .int 1) (C := RX0) (T := TX0) (N := 12) hx hb hts (by decide +kernel) tyX0 tyX0_ok nmX0 hown hG.1 hI ha_kb (List.mem_append_left _ hk) hc_kb rfl 1 (by decide) (hts (.fieldLink RX0 13 "CoracleRace$Boat" "length" "I") (by decide +kernel)) rfl rfl rfl (Nat.le_of_ble_eq_true rfl) dX0_init_14 (fun E5 H locs hE6 hn7 hI => ?_)
  have hc_kb : E5 kb = .inr (0, [.ref aN0, .int 1, .int 0, .int 0, .int 0, .int 0, .int 0, .int 0, .int 0, .int 0, .int 0, .int 0]) := hE6
  have hc_sk : E5 (kb + 1) = .inl (cI, 6, .inl (fun _ => 0)) := (hn7 (kb + 1) (by omega)).trans hc_sk
  have hfr : ∀ q : Nat, q ≠ kb ∧ q ≠ kb + 1 → E5 q = E q := fun q hq => (hn7 q (by omega)).trans (hfr q hq)
  refine lv_aload_n hx hb dX0_init_17 rfl (lv_at hl 0 rfl) ?_
  refine lv_iconst (v := 1) hx hb dX0_init_18 (by decide) ?_
  refine f_put (ci := 0) (v := .int 1) (C := RX0) (T := TX0) (N := 12) hx hb hts (by decide +kernel) tyX0 tyX0_ok nmX0 hown hG.1 hI ha_kb (List.mem_append_left _ hk) hc_kb rfl 2 (by decide) (hts (.fieldLink RX0 17 "CoracleRace$Boat" "strength" "I") (by decide +kernel)) rfl rfl rfl (Nat.le_of_ble_eq_true rfl) dX0_init_19 (fun E8 H locs hE9 hn10 hI => ?_)
  have hc_kb : E8 kb = .inr (0, [.ref aN0, .int 1, .int 1, .int 0, .int 0, .int 0, .int 0, .int 0, .int 0, .int 0, .int 0, .int 0]) := hE9
  have hc_sk : E8 (kb + 1) = .inl (cI, 6, .inl (fun _ => 0)) := (hn10 (kb + 1) (by omega)).trans hc_sk
  have hfr : ∀ q : Nat, q ≠ kb ∧ q ≠ kb + 1 → E8 q = E q := fun q hq => (hn10 q (by omega)).trans (hfr q hq)
  refine lv_aload_n hx hb dX0_init_22 rfl (lv_at hl 0 rfl) ?_
  refine lv_iconst (v := 0) hx hb dX0_init_23 (by decide) ?_
  refine f_put (ci := 0) (v := .int 0) (C := RX0) (T := TX0) (N := 12) hx hb hts (by decide +kernel) tyX0 tyX0_ok nmX0 hown hG.1 hI ha_kb (List.mem_append_left _ hk) hc_kb rfl 3 (by decide) (hts (.fieldLink RX0 20 "CoracleRace$Boat" "place" "I") (by decide +kernel)) rfl rfl rfl (Nat.le_of_ble_eq_true rfl) dX0_init_24 (fun E11 H locs hE12 hn13 hI => ?_)
  have hc_kb : E11 kb = .inr (0, [.ref aN0, .int 1, .int 1, .int 0, .int 0, .int 0, .int 0, .int 0, .int 0, .int 0, .int 0, .int 0]) := hE12
  have hc_sk : E11 (kb + 1) = .inl (cI, 6, .inl (fun _ => 0)) := (hn13 (kb + 1) (by omega)).trans hc_sk
  have hfr : ∀ q : Nat, q ≠ kb ∧ q ≠ kb + 1 → E11 q = E q := fun q hq => (hn13 q (by omega)).trans (hfr q hq)
  refine lv_aload_n hx hb dX0_init_27 rfl (lv_at hl 0 rfl) ?_
  refine lv_iconst (v := 0) hx hb dX0_init_28 (by decide) ?_
  refine f_put (ci := 0) (v := .int 0) (C := RX0) (T := TX0) (N := 12) hx hb hts (by decide +kernel) tyX0 tyX0_ok nmX0 hown hG.1 hI ha_kb (List.mem_append_left _ hk) hc_kb rfl 4 (by decide) (hts (.fieldLink RX0 23 "CoracleRace$Boat" "lane" "I") (by decide +kernel)) rfl rfl rfl (Nat.le_of_ble_eq_true rfl) dX0_init_29 (fun E14 H locs hE15 hn16 hI => ?_)
  have hc_kb : E14 kb = .inr (0, [.ref aN0, .int 1, .int 1, .int 0, .int 0, .int 0, .int 0, .int 0, .int 0, .int 0, .int 0, .int 0]) := hE15
  have hc_sk : E14 (kb + 1) = .inl (cI, 6, .inl (fun _ => 0)) := (hn16 (kb + 1) (by omega)).trans hc_sk
  have hfr : ∀ q : Nat, q ≠ kb ∧ q ≠ kb + 1 → E14 q = E q := fun q hq => (hn16 q (by omega)).trans (hfr q hq)
  refine lv_aload_n hx hb dX0_init_32 rfl (lv_at hl 0 rfl) ?_
  refine lv_iconst (v := 0) hx hb dX0_init_33 (by decide) ?_
  refine f_put (ci := 0) (v := .int 0) (C := RX0) (T := TX0) (N := 12) hx hb hts (by decide +kernel) tyX0 tyX0_ok nmX0 hown hG.1 hI ha_kb (List.mem_append_left _ hk) hc_kb rfl 5 (by decide) (hts (.fieldLink RX0 26 "CoracleRace$Boat" "heading" "I") (by decide +kernel)) rfl rfl rfl (Nat.le_of_ble_eq_true rfl) dX0_init_34 (fun E17 H locs hE18 hn19 hI => ?_)
  have hc_kb : E17 kb = .inr (0, [.ref aN0, .int 1, .int 1, .int 0, .int 0, .int 0, .int 0, .int 0, .int 0, .int 0, .int 0, .int 0]) := hE18
  have hc_sk : E17 (kb + 1) = .inl (cI, 6, .inl (fun _ => 0)) := (hn19 (kb + 1) (by omega)).trans hc_sk
  have hfr : ∀ q : Nat, q ≠ kb ∧ q ≠ kb + 1 → E17 q = E q := fun q hq => (hn19 q (by omega)).trans (hfr q hq)
  refine lv_aload_n hx hb dX0_init_37 rfl (lv_at hl 0 rfl) ?_
  refine lv_iconst (v := 0) hx hb dX0_init_38 (by decide) ?_
  refine f_put (ci := 0) (v := .int 0) (C := RX0) (T := TX0) (N := 12) hx hb hts (by decide +kernel) tyX0 tyX0_ok nmX0 hown hG.1 hI ha_kb (List.mem_append_left _ hk) hc_kb rfl 6 (by decide) (hts (.fieldLink RX0 29 "CoracleRace$Boat" "soaked" "I") (by decide +kernel)) rfl rfl rfl (Nat.le_of_ble_eq_true rfl) dX0_init_39 (fun E20 H locs hE21 hn22 hI => ?_)
  have hc_kb : E20 kb = .inr (0, [.ref aN0, .int 1, .int 1, .int 0, .int 0, .int 0, .int 0, .int 0, .int 0, .int 0, .int 0, .int 0]) := hE21
  have hc_sk : E20 (kb + 1) = .inl (cI, 6, .inl (fun _ => 0)) := (hn22 (kb + 1) (by omega)).trans hc_sk
  have hfr : ∀ q : Nat, q ≠ kb ∧ q ≠ kb + 1 → E20 q = E q := fun q hq => (hn22 q (by omega)).trans (hfr q hq)
  refine lv_aload_n hx hb dX0_init_42 rfl (lv_at hl 0 rfl) ?_
  refine lv_iconst (v := 0) hx hb dX0_init_43 (by decide) ?_
  refine f_put (ci := 0) (v := .int 0) (C := RX0) (T := TX0) (N := 12) hx hb hts (by decide +kernel) tyX0 tyX0_ok nmX0 hown hG.1 hI ha_kb (List.mem_append_left _ hk) hc_kb rfl 7 (by decide) (hts (.fieldLink RX0 32 "CoracleRace$Boat" "fouls" "I") (by decide +kernel)) rfl rfl rfl (Nat.le_of_ble_eq_true rfl) dX0_init_44 (fun E23 H locs hE24 hn25 hI => ?_)
  have hc_kb : E23 kb = .inr (0, [.ref aN0, .int 1, .int 1, .int 0, .int 0, .int 0, .int 0, .int 0, .int 0, .int 0, .int 0, .int 0]) := hE24
  have hc_sk : E23 (kb + 1) = .inl (cI, 6, .inl (fun _ => 0)) := (hn25 (kb + 1) (by omega)).trans hc_sk
  have hfr : ∀ q : Nat, q ≠ kb ∧ q ≠ kb + 1 → E23 q = E q := fun q hq => (hn25 q (by omega)).trans (hfr q hq)
  refine lv_aload_n hx hb dX0_init_47 rfl (lv_at hl 0 rfl) ?_
  refine lv_iconst (v := 0) hx hb dX0_init_48 (by decide) ?_
  refine f_put (ci := 0) (v := .int 0) (C := RX0) (T := TX0) (N := 12) hx hb hts (by decide +kernel) tyX0 tyX0_ok nmX0 hown hG.1 hI ha_kb (List.mem_append_left _ hk) hc_kb rfl 8 (by decide) (hts (.fieldLink RX0 35 "CoracleRace$Boat" "in" "Z") (by decide +kernel)) rfl rfl rfl (Nat.le_of_ble_eq_true rfl) dX0_init_49 (fun E26 H locs hE27 hn28 hI => ?_)
  have hc_kb : E26 kb = .inr (0, [.ref aN0, .int 1, .int 1, .int 0, .int 0, .int 0, .int 0, .int 0, .int 0, .int 0, .int 0, .int 0]) := hE27
  have hc_sk : E26 (kb + 1) = .inl (cI, 6, .inl (fun _ => 0)) := (hn28 (kb + 1) (by omega)).trans hc_sk
  have hfr : ∀ q : Nat, q ≠ kb ∧ q ≠ kb + 1 → E26 q = E q := fun q hq => (hn28 q (by omega)).trans (hfr q hq)
  refine lv_aload_n hx hb dX0_init_52 rfl (lv_at hl 0 rfl) ?_
  refine lv_iconst (v := 0) hx hb dX0_init_53 (by decide) ?_
  refine f_put (ci := 0) (v := .int 0) (C := RX0) (T := TX0) (N := 12) hx hb hts (by decide +kernel) tyX0 tyX0_ok nmX0 hown hG.1 hI ha_kb (List.mem_append_left _ hk) hc_kb rfl 9 (by decide) (hts (.fieldLink RX0 39 "CoracleRace$Boat" "tickIn" "I") (by decide +kernel)) rfl rfl rfl (Nat.le_of_ble_eq_true rfl) dX0_init_54 (fun E29 H locs hE30 hn31 hI => ?_)
  have hc_kb : E29 kb = .inr (0, [.ref aN0, .int 1, .int 1, .int 0, .int 0, .int 0, .int 0, .int 0, .int 0, .int 0, .int 0, .int 0]) := hE30
  have hc_sk : E29 (kb + 1) = .inl (cI, 6, .inl (fun _ => 0)) := (hn31 (kb + 1) (by omega)).trans hc_sk
  have hfr : ∀ q : Nat, q ≠ kb ∧ q ≠ kb + 1 → E29 q = E q := fun q hq => (hn31 q (by omega)).trans (hfr q hq)
  refine lv_aload_n hx hb dX0_init_57 rfl (lv_at hl 0 rfl) ?_
  refine lv_iconst (v := 0) hx hb dX0_init_58 (by decide) ?_
  refine f_put (ci := 0) (v := .int 0) (C := RX0) (T := TX0) (N := 12) hx hb hts (by decide +kernel) tyX0 tyX0_ok nmX0 hown hG.1 hI ha_kb (List.mem_append_left _ hk) hc_kb rfl 10 (by decide) (hts (.fieldLink RX0 42 "CoracleRace$Boat" "spins" "I") (by decide +kernel)) rfl rfl rfl (Nat.le_of_ble_eq_true rfl) dX0_init_59 (fun E32 H locs hE33 hn34 hI => ?_)
  have hc_kb : E32 kb = .inr (0, [.ref aN0, .int 1, .int 1, .int 0, .int 0, .int 0, .int 0, .int 0, .int 0, .int 0, .int 0, .int 0]) := hE33
  have hc_sk : E32 (kb + 1) = .inl (cI, 6, .inl (fun _ => 0)) := (hn34 (kb + 1) (by omega)).trans hc_sk
  have hfr : ∀ q : Nat, q ≠ kb ∧ q ≠ kb + 1 → E32 q = E q := fun q hq => (hn34 q (by omega)).trans (hfr q hq)
  refine lv_aload_n hx hb dX0_init_62 rfl (lv_at hl 0 rfl) ?_
  refine lv_iconst (v := 0) hx hb dX0_init_63 (by decide) ?_
  refine f_put (ci := 0) (v := .int 0) (C := RX0) (T := TX0) (N := 12) hx hb hts (by decide +kernel) tyX0 tyX0_ok nmX0 hown hG.1 hI ha_kb (List.mem_append_left _ hk) hc_kb rfl 11 (by decide) (hts (.fieldLink RX0 45 "CoracleRace$Boat" "stops" "I") (by decide +kernel)) rfl rfl rfl (Nat.le_of_ble_eq_true rfl) dX0_init_64 (fun E35 H locs hE36 hn37 hI => ?_)
  have hc_kb : E35 kb = .inr (0, [.ref aN0, .int 1, .int 1, .int 0, .int 0, .int 0, .int 0, .int 0, .int 0, .int 0, .int 0, .int 0]) := hE36
  have hc_sk : E35 (kb + 1) = .inl (cI, 6, .inl (fun _ => 0)) := (hn37 (kb + 1) (by omega)).trans hc_sk
  have hfr : ∀ q : Nat, q ≠ kb ∧ q ≠ kb + 1 → E35 q = E q := fun q hq => (hn37 q (by omega)).trans (hfr q hq)
  exact f_retv hQ hx hb hr hlocks hI.2.2 (by omega) (by omega) dX0_init_67 (adN0, E35) (fB_of hI) (⟨hfa, hfr, (hc_kb).trans (by rw [← ha_sk]; rfl), hc_sk⟩)

set_option maxHeartbeats 4000000 in
set_option maxRecDepth 100000 in
theorem m_X2_init (l : Launch) {D : va_G} {cI cJ cB : ClassId} {t0 z : Nat} {tx ad : Nat → Nat} {L : List Nat} {E : Nat → va_E} {a : Nat} (ha : ad 1 = a) (hk : 1 ∈ L) (hN : ∀ k, 2 ≤ k → k < 5 → k ∉ L) (hC : E 1 = .inr (2, [.null, .null, .null, .int 0])) : Met l yX2_init wsX2_init ({ frames := 1, cells := 3, slots := 17, locals := 20 } : Room) (va_Pc [.ref a] (fPre D cI cJ cB t0 z tx ad L E)) (va_Qv (fun (u : (Nat → Nat) × (Nat → va_E)) => (∀ q : Nat, (q < 2 ∨ 5 ≤ q) → u.1 q = ad q) ∧ (∀ q : Nat, (q = 0 ∨ 5 ≤ q) → u.2 q = E q) ∧ u.2 1 = rE u.1 0 ∧ u.2 2 = .inl (cI, 5, .inl w_new) ∧ u.2 3 = .inl (cI, 6, .inl (fun _ => 0)) ∧ u.2 4 = .inl (cI, 6, .inl (fun _ => 0))) (fun u t => fB D z u.1 (L ++ [2] ++ [3] ++ [4]) u.2 t) (fA z)) 3 17 (fA z) := by
  refine f_ofW (cc := cX2_init) (maxL := 1) (ret := none) (by decide) rfl (Nat.le_of_ble_eq_true rfl) ?_
  intro pr e s m args below meth c Q hx hb hr hml hts hown hlocks hin hG H locs hI hQ ls hl
  have hl : lv_has ls 1 [(0, .ref a)] := hl
  have hfr : ∀ q : Nat, (q = 0 ∨ 5 ≤ q) → E q = E q := fun _ _ => rfl
  have hfa : ∀ q : Nat, (q < 2 ∨ 5 ≤ q) → ad q = ad q := fun _ _ => rfl
  have hC : E 1 = .inr (2, [.null, .null, .null, .int 0]) := hC
  refine lv_aload_n hx hb dX2_init_0 rfl (lv_at hl 0 rfl) ?_
  refine W.objInit hx hb hown (hts (.methodLink RX2 1 objectInit) (by decide +kernel)) (hts (.instanceMethod objectInit) (by decide +kernel)) (hts (.code objectInit ⟨#[0xb1]⟩ 1 none) (by decide +kernel)) rfl (by rw [hml]; exact hl.1) rfl dX2_init_1 (Nat.le_of_ble_eq_true rfl) (Nat.le_of_ble_eq_true rfl) ?_
  refine W.eq (g2 := F0 m 4 ls []) rfl ?_
  refine lv_aload_n hx hb dX2_init_4 rfl (lv_at hl 0 rfl) ?_
  refine lv_iconst (v := 5) hx hb dX2_init_5 (by decide) ?_
  refine f_newi (k := 2) (N := 5) hx hb (hts (.arrayClass .int) (by decide +kernel)) hG.1 hI (fG_A hG) (by decide) (by decide) (by decide) (hN 2 (by omega) (by omega)) (Nat.le_of_ble_eq_true rfl) (Nat.le_of_ble_eq_true rfl) dX2_init_6 (fun aN0 adN0 EN0 H hk0 hr0 hEk0 hEr0 hI => ?_)
  have ha_kr : adN0 1 = a := (hr0 1 (by omega)).trans ha
  have hc_kr : EN0 1 = .inr (2, [.null, .null, .null, .int 0]) := (hEr0 1 (by omega)).trans hC
  have hfa : ∀ q : Nat, (q < 2 ∨ 5 ≤ q) → adN0 q = ad q := fun q hq => (hr0 q (by omega)).trans (hfa q hq)
  have hfr : ∀ q : Nat, (q = 0 ∨ 5 ≤ q) → EN0 q = E q := fun q hq => (hEr0 q (by omega)).trans (hfr q hq)
  have hc_kw : EN0 2 = .inl (cI, 5, .inl (fun _ => 0)) := hEk0
  have ha_kw : adN0 2 = aN0 := hk0
  refine lv_dup hx hb dX2_init_8 rfl ?_
  refine lv_iconst (v := 0) hx hb dX2_init_9 (by decide) ?_
  refine lv_iconst (v := 1) hx hb dX2_init_10 (by decide) ?_
  refine f_iast hx hb hG.1 hI ha_kw in_last hc_kw (vp_in_iff.mpr ⟨by decide, by decide⟩) dX2_init_11 (fun E2 H locs hE3 hn4 hI => ?_)
  have hc_kw : E2 2 = .inl (cI, 5, .inl (upd (fun _ => 0) 0 1)) := hE3
  have hc_kr : E2 1 = .inr (2, [.null, .null, .null, .int 0]) := (hn4 1 (by omega)).trans hc_kr
  have hfr : ∀ q : Nat, (q = 0 ∨ 5 ≤ q) → E2 q = E q := fun q hq => (hn4 q (by omega)).trans (hfr q hq)
  refine lv_dup hx hb dX2_init_12 rfl ?_
  refine lv_iconst (v := 1) hx hb dX2_init_13 (by decide) ?_
  refine lv_iconst (v := 2) hx hb dX2_init_14 (by decide) ?_
  refine f_iast hx hb hG.1 hI ha_kw in_last hc_kw (vp_in_iff.mpr ⟨by decide, by decide⟩) dX2_init_15 (fun E5 H locs hE6 hn7 hI => ?_)
  have hc_kw : E5 2 = .inl (cI, 5, .inl (upd (upd (fun _ => 0) 0 1) 1 2)) := hE6
  have hc_kr : E5 1 = .inr (2, [.null, .null, .null, .int 0]) := (hn7 1 (by omega)).trans hc_kr
  have hfr : ∀ q : Nat, (q = 0 ∨ 5 ≤ q) → E5 q = E q := fun q hq => (hn7 q (by omega)).trans (hfr q hq)
  refine lv_dup hx hb dX2_init_16 rfl ?_
  refine lv_iconst (v := 2) hx hb dX2_init_17 (by decide) ?_
  refine lv_iconst (v := 3) hx hb dX2_init_18 (by decide) ?_
  refine f_iast hx hb hG.1 hI ha_kw in_last hc_kw (vp_in_iff.mpr ⟨by decide, by decide⟩) dX2_init_19 (fun E8 H locs hE9 hn10 hI => ?_)
  have hc_kw : E8 2 = .inl (cI, 5, .inl (upd (upd (upd (fun _ => 0) 0 1) 1 2) 2 3)) := hE9
  have hc_kr : E8 1 = .inr (2, [.null, .null, .null, .int 0]) := (hn10 1 (by omega)).trans hc_kr
  have hfr : ∀ q : Nat, (q = 0 ∨ 5 ≤ q) → E8 q = E q := fun q hq => (hn10 q (by omega)).trans (hfr q hq)
  refine lv_dup hx hb dX2_init_20 rfl ?_
  refine lv_iconst (v := 3) hx hb dX2_init_21 (by decide) ?_
  refine lv_iconst (v := 2) hx hb dX2_init_22 (by decide) ?_
  refine f_iast hx hb hG.1 hI ha_kw in_last hc_kw (vp_in_iff.mpr ⟨by decide, by decide⟩) dX2_init_23 (fun E11 H locs hE12 hn13 hI => ?_)
  have hc_kw : E11 2 = .inl (cI, 5, .inl (upd (upd (upd (upd (fun _ => 0) 0 1) 1 2) 2 3) 3 2)) := hE12
  have hc_kr : E11 1 = .inr (2, [.null, .null, .null, .int 0]) := (hn13 1 (by omega)).trans hc_kr
  have hfr : ∀ q : Nat, (q = 0 ∨ 5 ≤ q) → E11 q = E q := fun q hq => (hn13 q (by omega)).trans (hfr q hq)
  refine lv_dup hx hb dX2_init_24 rfl ?_
  refine lv_iconst (v := 4) hx hb dX2_init_25 (by decide) ?_
  refine lv_iconst (v := 1) hx hb dX2_init_26 (by decide) ?_
  refine f_iast hx hb hG.1 hI ha_kw in_last hc_kw (vp_in_iff.mpr ⟨by decide, by decide⟩) dX2_init_27 (fun E14 H locs hE15 hn16 hI => ?_)
  have hc_kw : E14 2 = .inl (cI, 5, .inl (upd (upd (upd (upd (upd (fun _ => 0) 0 1) 1 2) 2 3) 3 2) 4 1)) := hE15
  have hc_kr : E14 1 = .inr (2, [.null, .null, .null, .int 0]) := (hn16 1 (by omega)).trans hc_kr
  have hfr : ∀ q : Nat, (q = 0 ∨ 5 ≤ q) → E14 q = E q := fun q hq => (hn16 q (by omega)).trans (hfr q hq)
  refine f_putF (ci := 2) (v := .ref aN0) (C := RX2) (T := TX2) (N := 4) hx hb hts (by decide +kernel) tyX2 tyX2_ok nmX2 hown hG.1 hI ha_kr (List.mem_append_left _ hk) hc_kr rfl 0 (by decide) (hts (.fieldLink RX2 7 "CoracleRace$River" "water" "[I") (by decide +kernel)) rfl hin rfl rfl rfl (Nat.le_of_ble_eq_true rfl) dX2_init_28 (fun E17 H locs hE18 hn19 hI => ?_)
  have hc_kr : E17 1 = .inr (2, [.ref aN0, .null, .null, .int 0]) := hE18
  have hc_kw : E17 2 = .inl (cI, 5, .inl (upd (upd (upd (upd (upd (fun _ => 0) 0 1) 1 2) 2 3) 3 2) 4 1)) := (hn19 2 (by omega)).trans hc_kw
  have hfr : ∀ q : Nat, (q = 0 ∨ 5 ≤ q) → E17 q = E q := fun q hq => (hn19 q (by omega)).trans (hfr q hq)
  refine lv_aload_n hx hb dX2_init_31 rfl (lv_at hl 0 rfl) ?_
  refine lv_bipush (v := 6) hx hb dX2_init_32 (by decide) ?_
  refine f_newi (k := 3) (N := 6) hx hb (hts (.arrayClass .int) (by decide +kernel)) hG.1 hI (fG_A hG) (by decide) (by decide) (by decide) (nin_app (hN 3 (by omega) (by omega)) (by omega)) (Nat.le_of_ble_eq_true rfl) (Nat.le_of_ble_eq_true rfl) dX2_init_34 (fun aN19 adN19 EN19 H hk19 hr19 hEk19 hEr19 hI => ?_)
  have ha_kr : adN19 1 = a := (hr19 1 (by omega)).trans ha_kr
  have hc_kr : EN19 1 = .inr (2, [.ref aN0, .null, .null, .int 0]) := (hEr19 1 (by omega)).trans hc_kr
  have ha_kw : adN19 2 = aN0 := (hr19 2 (by omega)).trans ha_kw
  have hc_kw : EN19 2 = .inl (cI, 5, .inl (upd (upd (upd (upd (upd (fun _ => 0) 0 1) 1 2) 2 3) 3 2) 4 1)) := (hEr19 2 (by omega)).trans hc_kw
  have hfa : ∀ q : Nat, (q < 2 ∨ 5 ≤ q) → adN19 q = ad q := fun q hq => (hr19 q (by omega)).trans (hfa q hq)
  have hfr : ∀ q : Nat, (q = 0 ∨ 5 ≤ q) → EN19 q = E q := fun q hq => (hEr19 q (by omega)).trans (hfr q hq)
  have hc_kp : EN19 3 = .inl (cI, 6, .inl (fun _ => 0)) := hEk19
  have ha_kp : adN19 3 = aN19 := hk19
  refine f_putF (ci := 2) (v := .ref aN19) (C := RX2) (T := TX2) (N := 4) hx hb hts (by decide +kernel) tyX2 tyX2_ok nmX2 hown hG.1 hI ha_kr (List.mem_append_left _ (List.mem_append_left _ hk)) hc_kr rfl 1 (by decide) (hts (.fieldLink RX2 13 "CoracleRace$River" "places" "[I") (by decide +kernel)) rfl hin rfl rfl rfl (Nat.le_of_ble_eq_true rfl) dX2_init_36 (fun E21 H locs hE22 hn23 hI => ?_)
  have hc_kr : E21 1 = .inr (2, [.ref aN0, .ref aN19, .null, .int 0]) := hE22
  have hc_kw : E21 2 = .inl (cI, 5, .inl (upd (upd (upd (upd (upd (fun _ => 0) 0 1) 1 2) 2 3) 3 2) 4 1)) := (hn23 2 (by omega)).trans hc_kw
  have hc_kp : E21 3 = .inl (cI, 6, .inl (fun _ => 0)) := (hn23 3 (by omega)).trans hc_kp
  have hfr : ∀ q : Nat, (q = 0 ∨ 5 ≤ q) → E21 q = E q := fun q hq => (hn23 q (by omega)).trans (hfr q hq)
  refine lv_aload_n hx hb dX2_init_39 rfl (lv_at hl 0 rfl) ?_
  refine lv_bipush (v := 6) hx hb dX2_init_40 (by decide) ?_
  refine f_newi (k := 4) (N := 6) hx hb (hts (.arrayClass .int) (by decide +kernel)) hG.1 hI (fG_A hG) (by decide) (by decide) (by decide) (nin_app (nin_app (hN 4 (by omega) (by omega)) (by omega)) (by omega)) (Nat.le_of_ble_eq_true rfl) (Nat.le_of_ble_eq_true rfl) dX2_init_42 (fun aN23 adN23 EN23 H hk23 hr23 hEk23 hEr23 hI => ?_)
  have ha_kr : adN23 1 = a := (hr23 1 (by omega)).trans ha_kr
  have hc_kr : EN23 1 = .inr (2, [.ref aN0, .ref aN19, .null, .int 0]) := (hEr23 1 (by omega)).trans hc_kr
  have ha_kw : adN23 2 = aN0 := (hr23 2 (by omega)).trans ha_kw
  have hc_kw : EN23 2 = .inl (cI, 5, .inl (upd (upd (upd (upd (upd (fun _ => 0) 0 1) 1 2) 2 3) 3 2) 4 1)) := (hEr23 2 (by omega)).trans hc_kw
  have ha_kp : adN23 3 = aN19 := (hr23 3 (by omega)).trans ha_kp
  have hc_kp : EN23 3 = .inl (cI, 6, .inl (fun _ => 0)) := (hEr23 3 (by omega)).trans hc_kp
  have hfa : ∀ q : Nat, (q < 2 ∨ 5 ≤ q) → adN23 q = ad q := fun q hq => (hr23 q (by omega)).trans (hfa q hq)
  have hfr : ∀ q : Nat, (q = 0 ∨ 5 ≤ q) → EN23 q = E q := fun q hq => (hEr23 q (by omega)).trans (hfr q hq)
  have hc_kg : EN23 4 = .inl (cI, 6, .inl (fun _ => 0)) := hEk23
  have ha_kg : adN23 4 = aN23 := hk23
  refine f_putF (ci := 2) (v := .ref aN23) (C := RX2) (T := TX2) (N := 4) hx hb hts (by decide +kernel) tyX2 tyX2_ok nmX2 hown hG.1 hI ha_kr (List.mem_append_left _ (List.mem_append_left _ (List.mem_append_left _ hk))) hc_kr rfl 2 (by decide) (hts (.fieldLink RX2 16 "CoracleRace$River" "gaps" "[I") (by decide +kernel)) rfl hin rfl rfl rfl (Nat.le_of_ble_eq_true rfl) dX2_init_44 (fun E25 H locs hE26 hn27 hI => ?_)
  have hc_kr : E25 1 = .inr (2, [.ref aN0, .ref aN19, .ref aN23, .int 0]) := hE26
  have hc_kw : E25 2 = .inl (cI, 5, .inl (upd (upd (upd (upd (upd (fun _ => 0) 0 1) 1 2) 2 3) 3 2) 4 1)) := (hn27 2 (by omega)).trans hc_kw
  have hc_kp : E25 3 = .inl (cI, 6, .inl (fun _ => 0)) := (hn27 3 (by omega)).trans hc_kp
  have hc_kg : E25 4 = .inl (cI, 6, .inl (fun _ => 0)) := (hn27 4 (by omega)).trans hc_kg
  have hfr : ∀ q : Nat, (q = 0 ∨ 5 ≤ q) → E25 q = E q := fun q hq => (hn27 q (by omega)).trans (hfr q hq)
  refine lv_aload_n hx hb dX2_init_47 rfl (lv_at hl 0 rfl) ?_
  refine lv_iconst (v := 0) hx hb dX2_init_48 (by decide) ?_
  refine f_put (ci := 2) (v := .int 0) (C := RX2) (T := TX2) (N := 4) hx hb hts (by decide +kernel) tyX2 tyX2_ok nmX2 hown hG.1 hI ha_kr (List.mem_append_left _ (List.mem_append_left _ (List.mem_append_left _ hk))) hc_kr rfl 3 (by decide) (hts (.fieldLink RX2 19 "CoracleRace$River" "weirs" "I") (by decide +kernel)) rfl rfl rfl (Nat.le_of_ble_eq_true rfl) dX2_init_49 (fun E28 H locs hE29 hn30 hI => ?_)
  have hc_kr : E28 1 = .inr (2, [.ref aN0, .ref aN19, .ref aN23, .int 0]) := hE29
  have hc_kw : E28 2 = .inl (cI, 5, .inl (upd (upd (upd (upd (upd (fun _ => 0) 0 1) 1 2) 2 3) 3 2) 4 1)) := (hn30 2 (by omega)).trans hc_kw
  have hc_kp : E28 3 = .inl (cI, 6, .inl (fun _ => 0)) := (hn30 3 (by omega)).trans hc_kp
  have hc_kg : E28 4 = .inl (cI, 6, .inl (fun _ => 0)) := (hn30 4 (by omega)).trans hc_kg
  have hfr : ∀ q : Nat, (q = 0 ∨ 5 ≤ q) → E28 q = E q := fun q hq => (hn30 q (by omega)).trans (hfr q hq)
  exact f_retv hQ hx hb hr hlocks hI.2.2 (by omega) (by omega) dX2_init_52 (adN23, E28) (fB_of hI) (⟨hfa, hfr, (hc_kr).trans (by rw [← ha_kw, ← ha_kp, ← ha_kg]; rfl), hc_kw, hc_kp, hc_kg⟩)

theorem fI_row {D : va_G} {A : Nat → Prop} {H0 H : Heap} {locs : List Loc} {ad : Nat → Nat} {L : List Nat} {E : Nat → va_E} {k n : Nat} {cB : ClassId} {f g : Nat → Option Nat} (hI : fI D A H0 ad L E H locs) (hk : k ∈ L) (he : E k = .inl (cB, n, .inr (.inr (.inr (.inr f))))) (hfg : ∀ j, j < n → f j = g j) : fI D A H0 ad L (va_up E k (.inl (cB, n, .inr (.inr (.inr (.inr g)))))) H locs := by
  obtain ⟨i, hi⟩ := fW_get (ad := ad) (E := E) hk
  have h1 := hI.1 i _ hi
  rw [he] at h1
  have hc : vp_cell cB (n, .inr (.inr (.inr (.inr f)))) = vp_cell cB (n, .inr (.inr (.inr (.inr g)))) := by
    show arrV cB n (fun j => va_rf (f j)) = arrV cB n (fun j => va_rf (g j))
    unfold arrV
    congr 1
    congr 1
    funext j
    exact congrArg va_rf (hfg j.val j.isLt)
  have h2 : va_at D vwCl (ad k, .inl (cB, n, .inr (.inr (.inr (.inr g))))) H := by
    show H[ad k]? = some (vp_cell cB (n, .inr (.inr (.inr (.inr g)))))
    rw [← hc]
    exact h1
  exact ⟨by rw [← fW_set hI.2.1 hk hi]; exact hI.1.set hI.2.1 hi h2 (fun _ _ => rfl), by rw [← fW_set hI.2.1 hk hi]; exact hI.2.1.set hi, hI.2.2⟩
set_option maxHeartbeats 4000000 in
set_option maxRecDepth 100000 in
theorem m_X1_init (l : Launch) {D : va_G} {cI cJ cB : ClassId} {t0 z : Nat} {tx ad : Nat → Nat} {L : List Nat} {E : Nat → va_E} {fb a : Nat} (ha : ad fb = a) (hk : fb ∈ L) (hN : ∀ k, fb + 1 ≤ k → k < fb + 14 → k ∉ L) (hC : E fb = .inr (1, [.null, .int 0, .int 0])) : Met l yX1_init wsX1_init ({ frames := 2, cells := 13, slots := 114, locals := 40 } : Room) (va_Pc [.ref a] (fPre D cI cJ cB t0 z tx ad L E)) (va_Qv (fun (u : (Nat → Nat) × (Nat → va_E)) => (∀ q : Nat, (q < fb + 1 ∨ fb + 14 ≤ q) → u.1 q = ad q) ∧ (∀ q : Nat, (q < fb ∨ fb + 14 ≤ q) → u.2 q = E q) ∧ fl_at cI cB u.1 u.2 fb 0 0 (fun _ => b_new) (fun _ _ => 0)) (fun u t => fB D z u.1 (L ++ [fb + 1] ++ [fb + 2 + 2 * 0] ++ [fb + 2 + 2 * 0 + 1] ++ [fb + 2 + 2 * 1] ++ [fb + 2 + 2 * 1 + 1] ++ [fb + 2 + 2 * 2] ++ [fb + 2 + 2 * 2 + 1] ++ [fb + 2 + 2 * 3] ++ [fb + 2 + 2 * 3 + 1] ++ [fb + 2 + 2 * 4] ++ [fb + 2 + 2 * 4 + 1] ++ [fb + 2 + 2 * 5] ++ [fb + 2 + 2 * 5 + 1]) u.2 t) (fA z)) 13 114 (fA z) := by
  refine f_ofW (cc := cX1_init) (maxL := 2) (ret := none) (by decide) rfl (Nat.le_of_ble_eq_true rfl) ?_
  intro pr e s m args below meth c Q hx hb hr hml hts hown hlocks hin hG H locs hI hQ ls hl
  have hl : lv_has ls 2 [(0, .ref a)] := hl
  have hfr : ∀ q : Nat, (q < fb ∨ fb + 14 ≤ q) → E q = E q := fun _ _ => rfl
  have hfa : ∀ q : Nat, (q < fb + 1 ∨ fb + 14 ≤ q) → ad q = ad q := fun _ _ => rfl
  have hC : E fb = .inr (1, [.null, .int 0, .int 0]) := hC
  refine lv_aload_n hx hb dX1_init_0 rfl (lv_at hl 0 rfl) ?_
  refine W.objInit hx hb hown (hts (.methodLink RX1 1 objectInit) (by decide +kernel)) (hts (.instanceMethod objectInit) (by decide +kernel)) (hts (.code objectInit ⟨#[0xb1]⟩ 1 none) (by decide +kernel)) rfl (by rw [hml]; exact hl.1) rfl dX1_init_1 (Nat.le_of_ble_eq_true rfl) (Nat.le_of_ble_eq_true rfl) ?_
  refine W.eq (g2 := F0 m 4 ls []) rfl ?_
  refine lv_aload_n hx hb dX1_init_4 rfl (lv_at hl 0 rfl) ?_
  refine lv_bipush (v := 6) hx hb dX1_init_5 (by decide) ?_
  refine f_newq (k := fb + 1) (N := 6) hx hb hown (hts (.classLink RX1 9 RX0) (by decide +kernel)) (va_AO.of (hG.2.1 (.arrayOver (.object RX0)) (by simp [fNest]))) hG.1 hI (fG_A hG) (by decide) (by decide) (by decide) (hN (fb + 1) (by omega) (by omega)) (Nat.le_of_ble_eq_true rfl) (Nat.le_of_ble_eq_true rfl) dX1_init_7 (fun aN0 adN0 EN0 H hk0 hr0 hEk0 hEr0 hI => ?_)
  have ha_fl : adN0 fb = a := (hr0 fb (by omega)).trans ha
  have hc_fl : EN0 fb = .inr (1, [.null, .int 0, .int 0]) := (hEr0 fb (by omega)).trans hC
  have hfa : ∀ q : Nat, (q < fb + 1 ∨ fb + 14 ≤ q) → adN0 q = ad q := fun q hq => (hr0 q (by omega)).trans (hfa q hq)
  have hfr : ∀ q : Nat, (q < fb ∨ fb + 14 ≤ q) → EN0 q = E q := fun q hq => (hEr0 q (by omega)).trans (hfr q hq)
  have hc_fr : EN0 (fb + 1) = .inl (cB, 6, .inr (.inr (.inr (.inr (fun _ => none))))) := hEk0
  have ha_fr : adN0 (fb + 1) = aN0 := hk0
  refine f_putF (ci := 1) (v := .ref aN0) (C := RX1) (T := TX1) (N := 3) hx hb hts (by decide +kernel) tyX1 tyX1_ok nmX1 hown hG.1 hI ha_fl (List.mem_append_left _ hk) hc_fl rfl 0 (by decide) (hts (.fieldLink RX1 11 "CoracleRace$Fleet" "boats" "[LCoracleRace$Boat;") (by decide +kernel)) rfl hin rfl rfl rfl (Nat.le_of_ble_eq_true rfl) dX1_init_10 (fun E2 H locs hE3 hn4 hI => ?_)
  have hc_fl : E2 fb = .inr (1, [.ref aN0, .int 0, .int 0]) := hE3
  have hc_fr : E2 (fb + 1) = .inl (cB, 6, .inr (.inr (.inr (.inr (fun _ => none))))) := (hn4 (fb + 1) (by omega)).trans hc_fr
  have hfr : ∀ q : Nat, (q < fb ∨ fb + 14 ≤ q) → E2 q = E q := fun q hq => (hn4 q (by omega)).trans (hfr q hq)
  refine lv_aload_n hx hb dX1_init_13 rfl (lv_at hl 0 rfl) ?_
  refine lv_iconst (v := 0) hx hb dX1_init_14 (by decide) ?_
  refine f_put (ci := 1) (v := .int 0) (C := RX1) (T := TX1) (N := 3) hx hb hts (by decide +kernel) tyX1 tyX1_ok nmX1 hown hG.1 hI ha_fl (List.mem_append_left _ hk) hc_fl rfl 1 (by decide) (hts (.fieldLink RX1 15 "CoracleRace$Fleet" "size" "I") (by decide +kernel)) rfl rfl rfl (Nat.le_of_ble_eq_true rfl) dX1_init_15 (fun E5 H locs hE6 hn7 hI => ?_)
  have hc_fl : E5 fb = .inr (1, [.ref aN0, .int 0, .int 0]) := hE6
  have hc_fr : E5 (fb + 1) = .inl (cB, 6, .inr (.inr (.inr (.inr (fun _ => none))))) := (hn7 (fb + 1) (by omega)).trans hc_fr
  have hfr : ∀ q : Nat, (q < fb ∨ fb + 14 ≤ q) → E5 q = E q := fun q hq => (hn7 q (by omega)).trans (hfr q hq)
  refine lv_aload_n hx hb dX1_init_18 rfl (lv_at hl 0 rfl) ?_
  refine lv_iconst (v := 0) hx hb dX1_init_19 (by decide) ?_
  refine f_put (ci := 1) (v := .int 0) (C := RX1) (T := TX1) (N := 3) hx hb hts (by decide +kernel) tyX1 tyX1_ok nmX1 hown hG.1 hI ha_fl (List.mem_append_left _ hk) hc_fl rfl 2 (by decide) (hts (.fieldLink RX1 19 "CoracleRace$Fleet" "tick" "I") (by decide +kernel)) rfl rfl rfl (Nat.le_of_ble_eq_true rfl) dX1_init_20 (fun E8 H locs hE9 hn10 hI => ?_)
  have hc_fl : E8 fb = .inr (1, [.ref aN0, .int 0, .int 0]) := hE9
  have hc_fr : E8 (fb + 1) = .inl (cB, 6, .inr (.inr (.inr (.inr (fun _ => none))))) := (hn10 (fb + 1) (by omega)).trans hc_fr
  have hfr : ∀ q : Nat, (q < fb ∨ fb + 14 ≤ q) → E8 q = E q := fun q hq => (hn10 q (by omega)).trans (hfr q hq)
  refine lv_iconst (v := 0) hx hb dX1_init_23 (by decide) ?_
  refine lv_istore_n (lv' := [(1, .int 0), (0, .ref a)]) hx hb dX1_init_24 rfl hl (by decide) rfl (fun ls hl => ?_)
  refine lv_iload_n hx hb dX1_init_25 rfl (lv_at hl 0 rfl) ?_
  refine lv_bipush (v := 6) hx hb dX1_init_26 (by decide) ?_
  refine lv_icmp_ge (tgt := 50) hx hb dX1_init_28 (by decide) (fun c_28 => ?_) (fun c_28 => ?_)
  · exact absurd c_28 (by decide)
  · have n_28 := c_28
    have c_28 := i_nle.mp n_28
    refine lv_aload_n hx hb dX1_init_31 rfl (lv_at hl 1 rfl) ?_
    refine f_get (ci := 1) (v := .ref aN0) (C := RX1) (T := TX1) (N := 3) hx hb hts (by decide +kernel) hown hG.1 hI ha_fl (List.mem_append_left _ hk) hc_fl rfl 0 (by decide) (hts (.fieldLink RX1 11 "CoracleRace$Fleet" "boats" "[LCoracleRace$Boat;") (by decide +kernel)) rfl dX1_init_32 ?_
    refine lv_iload_n hx hb dX1_init_35 rfl (lv_at hl 0 rfl) ?_
    refine f_new (ci := 0) (C := RX0) (T := TX0) (N := 12) (k := fb + 2 + 2 * 0) (fs := [.null, .int 0, .int 0, .int 0, .int 0, .int 0, .int 0, .int 0, .int 0, .int 0, .int 0, .int 0]) hx hb hts (by decide +kernel) tyX0 tyX0_ok hown (hts (.classLink RX1 9 RX0) (by decide +kernel)) (hts (.instantiable RX0 12) (by decide +kernel)) (hts (.initialized RX0) (by decide +kernel)) hG.1 hI (fG_A hG) rfl (by decide) (nin_app (hN (fb + 2 + 2 * 0) (by omega) (by omega)) (by omega)) (Nat.le_of_ble_eq_true rfl) (Nat.le_of_ble_eq_true rfl) dX1_init_36 (fun aN10 adN10 EN10 H hk10 hr10 hEk10 hEr10 hI => ?_)
    have ha_fl : adN10 fb = a := (hr10 fb (by omega)).trans ha_fl
    have hc_fl : EN10 fb = .inr (1, [.ref aN0, .int 0, .int 0]) := (hEr10 fb (by omega)).trans hc_fl
    have ha_fr : adN10 (fb + 1) = aN0 := (hr10 (fb + 1) (by omega)).trans ha_fr
    have hc_fr : EN10 (fb + 1) = .inl (cB, 6, .inr (.inr (.inr (.inr (fun _ => none))))) := (hEr10 (fb + 1) (by omega)).trans hc_fr
    have hfa : ∀ q : Nat, (q < fb + 1 ∨ fb + 14 ≤ q) → adN10 q = ad q := fun q hq => (hr10 q (by omega)).trans (hfa q hq)
    have hfr : ∀ q : Nat, (q < fb ∨ fb + 14 ≤ q) → EN10 q = E q := fun q hq => (hEr10 q (by omega)).trans (hfr q hq)
    have hc_b0 : EN10 (fb + 2 + 2 * 0) = .inr (0, [.null, .int 0, .int 0, .int 0, .int 0, .int 0, .int 0, .int 0, .int 0, .int 0, .int 0, .int 0]) := hEk10
    have ha_b0 : adN10 (fb + 2 + 2 * 0) = aN10 := hk10
    refine lv_dup hx hb dX1_init_39 rfl ?_
    refine f_callc (va_runIN (As := []) (rest := [.ref aN10, .int 0, .ref aN0]) ⟨hx, hb, hml, hown, hts⟩ (m_X0_init l (kb := (fb + 2 + 2 * 0)) ha_b0 in_last (fun k h1 h2 => (nin_app (nin_app (hN k (by omega) (by omega)) (by omega)) (by omega))) hc_b0) ⟨va_cnB 0 hts gX1_init_X0_init_n22 rfl rfl rfl (hG.2.1 (.methodLinkNest RX1 22 yX0_init RX3) (by simp [fNest])) (hts (.initialized RX0) (by decide +kernel)) (by decide +kernel) ⟨(Nat.le_of_ble_eq_true rfl), (Nat.le_of_ble_eq_true rfl)⟩, rfl, (hts (.instanceMethod yX0_init) (by decide +kernel))⟩ (fPre_of hG hI) rfl rfl hl.1 rfl (lv_room (Nat.le_of_ble_eq_true rfl)) dX1_init_40 ⟨(Nat.le_of_ble_eq_true rfl), (Nat.le_of_ble_eq_true rfl)⟩) hI (fun adN11 EN11 H locs hp hI => ?_)
    obtain ⟨hA9, hE9, hB9_0, hS9_0⟩ := hp
    have ha_fl : adN11 fb = a := (hA9 fb (by omega)).trans ha_fl
    have hc_fl : EN11 fb = .inr (1, [.ref aN0, .int 0, .int 0]) := (hE9 fb (by omega)).trans hc_fl
    have ha_fr : adN11 (fb + 1) = aN0 := (hA9 (fb + 1) (by omega)).trans ha_fr
    have hc_fr : EN11 (fb + 1) = .inl (cB, 6, .inr (.inr (.inr (.inr (fun _ => none))))) := (hE9 (fb + 1) (by omega)).trans hc_fr
    have hfa : ∀ q : Nat, (q < fb + 1 ∨ fb + 14 ≤ q) → adN11 q = ad q := fun q hq => (hA9 q (by omega)).trans (hfa q hq)
    have hfr : ∀ q : Nat, (q < fb ∨ fb + 14 ≤ q) → EN11 q = E q := fun q hq => (hE9 q (by omega)).trans (hfr q hq)
    have ha_b0 : adN11 (fb + 2 + 2 * 0) = aN10 := (hA9 (fb + 2 + 2 * 0) (by omega)).trans ha_b0
    refine f_astq hx hb hG.1 hI ha_fr (List.mem_append_left _ (List.mem_append_left _ in_last)) hc_fr ha_b0 (List.mem_append_left _ in_last) hB9_0 (vp_in_iff.mpr ⟨by decide, by decide⟩) dX1_init_43 (fun E13 H locs hE14 hn15 hI => ?_)
    have hc_fr : E13 (fb + 1) = .inl (cB, 6, .inr (.inr (.inr (.inr (va_up (fun _ => none) 0 (some aN10)))))) := hE14
    have hc_fl : E13 fb = .inr (1, [.ref aN0, .int 0, .int 0]) := (hn15 fb (by omega)).trans hc_fl
    have hB9_0 : E13 (fb + 2 + 2 * 0) = .inr (0, [.ref (adN11 ((fb + 2 + 2 * 0) + 1)), .int (b_new 1), .int (b_new 2), .int (b_new 3), .int (b_new 4), .int (b_new 5), .int (b_new 6), .int (b_new 7), .int (b_new 8), .int (b_new 9), .int (b_new 10), .int (b_new 11)]) := (hn15 (fb + 2 + 2 * 0) (by omega)).trans hB9_0
    have hS9_0 : E13 ((fb + 2 + 2 * 0) + 1) = .inl (cI, 6, .inl (fun _ => 0)) := (hn15 ((fb + 2 + 2 * 0) + 1) (by omega)).trans hS9_0
    have hfr : ∀ q : Nat, (q < fb ∨ fb + 14 ≤ q) → E13 q = E q := fun q hq => (hn15 q (by omega)).trans (hfr q hq)
    refine lv_iinc (v := 1) (lv' := [(1, .int 1), (0, .ref a)]) hx hb dX1_init_44 hl (k := 0) rfl (by decide) (by decide) rfl (fun ls hl => ?_)
    refine lv_goto (tgt := 25) hx hb dX1_init_47 (by decide) ?_
    refine lv_iload_n hx hb dX1_init_25 rfl (lv_at hl 0 rfl) ?_
    refine lv_bipush (v := 6) hx hb dX1_init_26 (by decide) ?_
    refine lv_icmp_ge (tgt := 50) hx hb dX1_init_28 (by decide) (fun c_28 => ?_) (fun c_28 => ?_)
    · exact absurd c_28 (by decide)
    · have n_28 := c_28
      have c_28 := i_nle.mp n_28
      refine lv_aload_n hx hb dX1_init_31 rfl (lv_at hl 1 rfl) ?_
      refine f_get (ci := 1) (v := .ref aN0) (C := RX1) (T := TX1) (N := 3) hx hb hts (by decide +kernel) hown hG.1 hI ha_fl (List.mem_append_left _ (List.mem_append_left _ (List.mem_append_left _ hk))) hc_fl rfl 0 (by decide) (hts (.fieldLink RX1 11 "CoracleRace$Fleet" "boats" "[LCoracleRace$Boat;") (by decide +kernel)) rfl dX1_init_32 ?_
      refine lv_iload_n hx hb dX1_init_35 rfl (lv_at hl 0 rfl) ?_
      refine f_new (ci := 0) (C := RX0) (T := TX0) (N := 12) (k := fb + 2 + 2 * 1) (fs := [.null, .int 0, .int 0, .int 0, .int 0, .int 0, .int 0, .int 0, .int 0, .int 0, .int 0, .int 0]) hx hb hts (by decide +kernel) tyX0 tyX0_ok hown (hts (.classLink RX1 9 RX0) (by decide +kernel)) (hts (.instantiable RX0 12) (by decide +kernel)) (hts (.initialized RX0) (by decide +kernel)) hG.1 hI (fG_A hG) rfl (by decide) (nin_app (nin_app (nin_app (hN (fb + 2 + 2 * 1) (by omega) (by omega)) (by omega)) (by omega)) (by omega)) (Nat.le_of_ble_eq_true rfl) (Nat.le_of_ble_eq_true rfl) dX1_init_36 (fun aN15 adN15 EN15 H hk15 hr15 hEk15 hEr15 hI => ?_)
      have ha_fl : adN15 fb = a := (hr15 fb (by omega)).trans ha_fl
      have hc_fl : EN15 fb = .inr (1, [.ref aN0, .int 0, .int 0]) := (hEr15 fb (by omega)).trans hc_fl
      have ha_fr : adN15 (fb + 1) = aN0 := (hr15 (fb + 1) (by omega)).trans ha_fr
      have hc_fr : EN15 (fb + 1) = .inl (cB, 6, .inr (.inr (.inr (.inr (va_up (fun _ => none) 0 (some aN10)))))) := (hEr15 (fb + 1) (by omega)).trans hc_fr
      have ha_b0 : adN15 (fb + 2 + 2 * 0) = aN10 := (hr15 (fb + 2 + 2 * 0) (by omega)).trans ha_b0
      have hc_b0 : EN15 (fb + 2 + 2 * 0) = .inr (0, [.ref (adN11 ((fb + 2 + 2 * 0) + 1)), .int (b_new 1), .int (b_new 2), .int (b_new 3), .int (b_new 4), .int (b_new 5), .int (b_new 6), .int (b_new 7), .int (b_new 8), .int (b_new 9), .int (b_new 10), .int (b_new 11)]) := (hEr15 (fb + 2 + 2 * 0) (by omega)).trans hB9_0
      have ha_s0 : adN15 ((fb + 2 + 2 * 0) + 1) = (adN11 ((fb + 2 + 2 * 0) + 1)) := (hr15 ((fb + 2 + 2 * 0) + 1) (by omega)).trans (rfl : adN11 ((fb + 2 + 2 * 0) + 1) = adN11 ((fb + 2 + 2 * 0) + 1))
      have hc_s0 : EN15 ((fb + 2 + 2 * 0) + 1) = .inl (cI, 6, .inl (fun _ => 0)) := (hEr15 ((fb + 2 + 2 * 0) + 1) (by omega)).trans hS9_0
      have hfa : ∀ q : Nat, (q < fb + 1 ∨ fb + 14 ≤ q) → adN15 q = ad q := fun q hq => (hr15 q (by omega)).trans (hfa q hq)
      have hfr : ∀ q : Nat, (q < fb ∨ fb + 14 ≤ q) → EN15 q = E q := fun q hq => (hEr15 q (by omega)).trans (hfr q hq)
      have hc_b1 : EN15 (fb + 2 + 2 * 1) = .inr (0, [.null, .int 0, .int 0, .int 0, .int 0, .int 0, .int 0, .int 0, .int 0, .int 0, .int 0, .int 0]) := hEk15
      have ha_b1 : adN15 (fb + 2 + 2 * 1) = aN15 := hk15
      refine lv_dup hx hb dX1_init_39 rfl ?_
      refine f_callc (va_runIN (As := []) (rest := [.ref aN15, .int 1, .ref aN0]) ⟨hx, hb, hml, hown, hts⟩ (m_X0_init l (kb := (fb + 2 + 2 * 1)) ha_b1 in_last (fun k h1 h2 => (nin_app (nin_app (nin_app (nin_app (hN k (by omega) (by omega)) (by omega)) (by omega)) (by omega)) (by omega))) hc_b1) ⟨va_cnB 0 hts gX1_init_X0_init_n22 rfl rfl rfl (hG.2.1 (.methodLinkNest RX1 22 yX0_init RX3) (by simp [fNest])) (hts (.initialized RX0) (by decide +kernel)) (by decide +kernel) ⟨(Nat.le_of_ble_eq_true rfl), (Nat.le_of_ble_eq_true rfl)⟩, rfl, (hts (.instanceMethod yX0_init) (by decide +kernel))⟩ (fPre_of hG hI) rfl rfl hl.1 rfl (lv_room (Nat.le_of_ble_eq_true rfl)) dX1_init_40 ⟨(Nat.le_of_ble_eq_true rfl), (Nat.le_of_ble_eq_true rfl)⟩) hI (fun adN16 EN16 H locs hp hI => ?_)
      obtain ⟨hA9, hE9, hB9_1, hS9_1⟩ := hp
      have ha_fl : adN16 fb = a := (hA9 fb (by omega)).trans ha_fl
      have hc_fl : EN16 fb = .inr (1, [.ref aN0, .int 0, .int 0]) := (hE9 fb (by omega)).trans hc_fl
      have ha_fr : adN16 (fb + 1) = aN0 := (hA9 (fb + 1) (by omega)).trans ha_fr
      have hc_fr : EN16 (fb + 1) = .inl (cB, 6, .inr (.inr (.inr (.inr (va_up (fun _ => none) 0 (some aN10)))))) := (hE9 (fb + 1) (by omega)).trans hc_fr
      have ha_b0 : adN16 (fb + 2 + 2 * 0) = aN10 := (hA9 (fb + 2 + 2 * 0) (by omega)).trans ha_b0
      have hc_b0 : EN16 (fb + 2 + 2 * 0) = .inr (0, [.ref (adN11 ((fb + 2 + 2 * 0) + 1)), .int (b_new 1), .int (b_new 2), .int (b_new 3), .int (b_new 4), .int (b_new 5), .int (b_new 6), .int (b_new 7), .int (b_new 8), .int (b_new 9), .int (b_new 10), .int (b_new 11)]) := (hE9 (fb + 2 + 2 * 0) (by omega)).trans hc_b0
      have ha_s0 : adN16 ((fb + 2 + 2 * 0) + 1) = (adN11 ((fb + 2 + 2 * 0) + 1)) := (hA9 ((fb + 2 + 2 * 0) + 1) (by omega)).trans ha_s0
      have hc_s0 : EN16 ((fb + 2 + 2 * 0) + 1) = .inl (cI, 6, .inl (fun _ => 0)) := (hE9 ((fb + 2 + 2 * 0) + 1) (by omega)).trans hc_s0
      have hfa : ∀ q : Nat, (q < fb + 1 ∨ fb + 14 ≤ q) → adN16 q = ad q := fun q hq => (hA9 q (by omega)).trans (hfa q hq)
      have hfr : ∀ q : Nat, (q < fb ∨ fb + 14 ≤ q) → EN16 q = E q := fun q hq => (hE9 q (by omega)).trans (hfr q hq)
      have ha_b1 : adN16 (fb + 2 + 2 * 1) = aN15 := (hA9 (fb + 2 + 2 * 1) (by omega)).trans ha_b1
      refine f_astq hx hb hG.1 hI ha_fr (List.mem_append_left _ (List.mem_append_left _ (List.mem_append_left _ (List.mem_append_left _ in_last)))) hc_fr ha_b1 (List.mem_append_left _ in_last) hB9_1 (vp_in_iff.mpr ⟨by decide, by decide⟩) dX1_init_43 (fun E18 H locs hE19 hn20 hI => ?_)
      have hc_fr : E18 (fb + 1) = .inl (cB, 6, .inr (.inr (.inr (.inr (va_up (va_up (fun _ => none) 0 (some aN10)) 1 (some aN15)))))) := hE19
      have hc_fl : E18 fb = .inr (1, [.ref aN0, .int 0, .int 0]) := (hn20 fb (by omega)).trans hc_fl
      have hc_b0 : E18 (fb + 2 + 2 * 0) = .inr (0, [.ref (adN11 ((fb + 2 + 2 * 0) + 1)), .int (b_new 1), .int (b_new 2), .int (b_new 3), .int (b_new 4), .int (b_new 5), .int (b_new 6), .int (b_new 7), .int (b_new 8), .int (b_new 9), .int (b_new 10), .int (b_new 11)]) := (hn20 (fb + 2 + 2 * 0) (by omega)).trans hc_b0
      have hc_s0 : E18 ((fb + 2 + 2 * 0) + 1) = .inl (cI, 6, .inl (fun _ => 0)) := (hn20 ((fb + 2 + 2 * 0) + 1) (by omega)).trans hc_s0
      have hB9_1 : E18 (fb + 2 + 2 * 1) = .inr (0, [.ref (adN16 ((fb + 2 + 2 * 1) + 1)), .int (b_new 1), .int (b_new 2), .int (b_new 3), .int (b_new 4), .int (b_new 5), .int (b_new 6), .int (b_new 7), .int (b_new 8), .int (b_new 9), .int (b_new 10), .int (b_new 11)]) := (hn20 (fb + 2 + 2 * 1) (by omega)).trans hB9_1
      have hS9_1 : E18 ((fb + 2 + 2 * 1) + 1) = .inl (cI, 6, .inl (fun _ => 0)) := (hn20 ((fb + 2 + 2 * 1) + 1) (by omega)).trans hS9_1
      have hfr : ∀ q : Nat, (q < fb ∨ fb + 14 ≤ q) → E18 q = E q := fun q hq => (hn20 q (by omega)).trans (hfr q hq)
      refine lv_iinc (v := 2) (lv' := [(1, .int 2), (0, .ref a)]) hx hb dX1_init_44 hl (k := 0) rfl (by decide) (by decide) rfl (fun ls hl => ?_)
      refine lv_goto (tgt := 25) hx hb dX1_init_47 (by decide) ?_
      refine lv_iload_n hx hb dX1_init_25 rfl (lv_at hl 0 rfl) ?_
      refine lv_bipush (v := 6) hx hb dX1_init_26 (by decide) ?_
      refine lv_icmp_ge (tgt := 50) hx hb dX1_init_28 (by decide) (fun c_28 => ?_) (fun c_28 => ?_)
      · exact absurd c_28 (by decide)
      · have n_28 := c_28
        have c_28 := i_nle.mp n_28
        refine lv_aload_n hx hb dX1_init_31 rfl (lv_at hl 1 rfl) ?_
        refine f_get (ci := 1) (v := .ref aN0) (C := RX1) (T := TX1) (N := 3) hx hb hts (by decide +kernel) hown hG.1 hI ha_fl (List.mem_append_left _ (List.mem_append_left _ (List.mem_append_left _ (List.mem_append_left _ (List.mem_append_left _ hk))))) hc_fl rfl 0 (by decide) (hts (.fieldLink RX1 11 "CoracleRace$Fleet" "boats" "[LCoracleRace$Boat;") (by decide +kernel)) rfl dX1_init_32 ?_
        refine lv_iload_n hx hb dX1_init_35 rfl (lv_at hl 0 rfl) ?_
        refine f_new (ci := 0) (C := RX0) (T := TX0) (N := 12) (k := fb + 2 + 2 * 2) (fs := [.null, .int 0, .int 0, .int 0, .int 0, .int 0, .int 0, .int 0, .int 0, .int 0, .int 0, .int 0]) hx hb hts (by decide +kernel) tyX0 tyX0_ok hown (hts (.classLink RX1 9 RX0) (by decide +kernel)) (hts (.instantiable RX0 12) (by decide +kernel)) (hts (.initialized RX0) (by decide +kernel)) hG.1 hI (fG_A hG) rfl (by decide) (nin_app (nin_app (nin_app (nin_app (nin_app (hN (fb + 2 + 2 * 2) (by omega) (by omega)) (by omega)) (by omega)) (by omega)) (by omega)) (by omega)) (Nat.le_of_ble_eq_true rfl) (Nat.le_of_ble_eq_true rfl) dX1_init_36 (fun aN20 adN20 EN20 H hk20 hr20 hEk20 hEr20 hI => ?_)
        have ha_fl : adN20 fb = a := (hr20 fb (by omega)).trans ha_fl
        have hc_fl : EN20 fb = .inr (1, [.ref aN0, .int 0, .int 0]) := (hEr20 fb (by omega)).trans hc_fl
        have ha_fr : adN20 (fb + 1) = aN0 := (hr20 (fb + 1) (by omega)).trans ha_fr
        have hc_fr : EN20 (fb + 1) = .inl (cB, 6, .inr (.inr (.inr (.inr (va_up (va_up (fun _ => none) 0 (some aN10)) 1 (some aN15)))))) := (hEr20 (fb + 1) (by omega)).trans hc_fr
        have ha_b0 : adN20 (fb + 2 + 2 * 0) = aN10 := (hr20 (fb + 2 + 2 * 0) (by omega)).trans ha_b0
        have hc_b0 : EN20 (fb + 2 + 2 * 0) = .inr (0, [.ref (adN11 ((fb + 2 + 2 * 0) + 1)), .int (b_new 1), .int (b_new 2), .int (b_new 3), .int (b_new 4), .int (b_new 5), .int (b_new 6), .int (b_new 7), .int (b_new 8), .int (b_new 9), .int (b_new 10), .int (b_new 11)]) := (hEr20 (fb + 2 + 2 * 0) (by omega)).trans hc_b0
        have ha_s0 : adN20 ((fb + 2 + 2 * 0) + 1) = (adN11 ((fb + 2 + 2 * 0) + 1)) := (hr20 ((fb + 2 + 2 * 0) + 1) (by omega)).trans ha_s0
        have hc_s0 : EN20 ((fb + 2 + 2 * 0) + 1) = .inl (cI, 6, .inl (fun _ => 0)) := (hEr20 ((fb + 2 + 2 * 0) + 1) (by omega)).trans hc_s0
        have ha_b1 : adN20 (fb + 2 + 2 * 1) = aN15 := (hr20 (fb + 2 + 2 * 1) (by omega)).trans ha_b1
        have hc_b1 : EN20 (fb + 2 + 2 * 1) = .inr (0, [.ref (adN16 ((fb + 2 + 2 * 1) + 1)), .int (b_new 1), .int (b_new 2), .int (b_new 3), .int (b_new 4), .int (b_new 5), .int (b_new 6), .int (b_new 7), .int (b_new 8), .int (b_new 9), .int (b_new 10), .int (b_new 11)]) := (hEr20 (fb + 2 + 2 * 1) (by omega)).trans hB9_1
        have ha_s1 : adN20 ((fb + 2 + 2 * 1) + 1) = (adN16 ((fb + 2 + 2 * 1) + 1)) := (hr20 ((fb + 2 + 2 * 1) + 1) (by omega)).trans (rfl : adN16 ((fb + 2 + 2 * 1) + 1) = adN16 ((fb + 2 + 2 * 1) + 1))
        have hc_s1 : EN20 ((fb + 2 + 2 * 1) + 1) = .inl (cI, 6, .inl (fun _ => 0)) := (hEr20 ((fb + 2 + 2 * 1) + 1) (by omega)).trans hS9_1
        have hfa : ∀ q : Nat, (q < fb + 1 ∨ fb + 14 ≤ q) → adN20 q = ad q := fun q hq => (hr20 q (by omega)).trans (hfa q hq)
        have hfr : ∀ q : Nat, (q < fb ∨ fb + 14 ≤ q) → EN20 q = E q := fun q hq => (hEr20 q (by omega)).trans (hfr q hq)
        have hc_b2 : EN20 (fb + 2 + 2 * 2) = .inr (0, [.null, .int 0, .int 0, .int 0, .int 0, .int 0, .int 0, .int 0, .int 0, .int 0, .int 0, .int 0]) := hEk20
        have ha_b2 : adN20 (fb + 2 + 2 * 2) = aN20 := hk20
        refine lv_dup hx hb dX1_init_39 rfl ?_
        refine f_callc (va_runIN (As := []) (rest := [.ref aN20, .int 2, .ref aN0]) ⟨hx, hb, hml, hown, hts⟩ (m_X0_init l (kb := (fb + 2 + 2 * 2)) ha_b2 in_last (fun k h1 h2 => (nin_app (nin_app (nin_app (nin_app (nin_app (nin_app (hN k (by omega) (by omega)) (by omega)) (by omega)) (by omega)) (by omega)) (by omega)) (by omega))) hc_b2) ⟨va_cnB 0 hts gX1_init_X0_init_n22 rfl rfl rfl (hG.2.1 (.methodLinkNest RX1 22 yX0_init RX3) (by simp [fNest])) (hts (.initialized RX0) (by decide +kernel)) (by decide +kernel) ⟨(Nat.le_of_ble_eq_true rfl), (Nat.le_of_ble_eq_true rfl)⟩, rfl, (hts (.instanceMethod yX0_init) (by decide +kernel))⟩ (fPre_of hG hI) rfl rfl hl.1 rfl (lv_room (Nat.le_of_ble_eq_true rfl)) dX1_init_40 ⟨(Nat.le_of_ble_eq_true rfl), (Nat.le_of_ble_eq_true rfl)⟩) hI (fun adN21 EN21 H locs hp hI => ?_)
        obtain ⟨hA9, hE9, hB9_2, hS9_2⟩ := hp
        have ha_fl : adN21 fb = a := (hA9 fb (by omega)).trans ha_fl
        have hc_fl : EN21 fb = .inr (1, [.ref aN0, .int 0, .int 0]) := (hE9 fb (by omega)).trans hc_fl
        have ha_fr : adN21 (fb + 1) = aN0 := (hA9 (fb + 1) (by omega)).trans ha_fr
        have hc_fr : EN21 (fb + 1) = .inl (cB, 6, .inr (.inr (.inr (.inr (va_up (va_up (fun _ => none) 0 (some aN10)) 1 (some aN15)))))) := (hE9 (fb + 1) (by omega)).trans hc_fr
        have ha_b0 : adN21 (fb + 2 + 2 * 0) = aN10 := (hA9 (fb + 2 + 2 * 0) (by omega)).trans ha_b0
        have hc_b0 : EN21 (fb + 2 + 2 * 0) = .inr (0, [.ref (adN11 ((fb + 2 + 2 * 0) + 1)), .int (b_new 1), .int (b_new 2), .int (b_new 3), .int (b_new 4), .int (b_new 5), .int (b_new 6), .int (b_new 7), .int (b_new 8), .int (b_new 9), .int (b_new 10), .int (b_new 11)]) := (hE9 (fb + 2 + 2 * 0) (by omega)).trans hc_b0
        have ha_s0 : adN21 ((fb + 2 + 2 * 0) + 1) = (adN11 ((fb + 2 + 2 * 0) + 1)) := (hA9 ((fb + 2 + 2 * 0) + 1) (by omega)).trans ha_s0
        have hc_s0 : EN21 ((fb + 2 + 2 * 0) + 1) = .inl (cI, 6, .inl (fun _ => 0)) := (hE9 ((fb + 2 + 2 * 0) + 1) (by omega)).trans hc_s0
        have ha_b1 : adN21 (fb + 2 + 2 * 1) = aN15 := (hA9 (fb + 2 + 2 * 1) (by omega)).trans ha_b1
        have hc_b1 : EN21 (fb + 2 + 2 * 1) = .inr (0, [.ref (adN16 ((fb + 2 + 2 * 1) + 1)), .int (b_new 1), .int (b_new 2), .int (b_new 3), .int (b_new 4), .int (b_new 5), .int (b_new 6), .int (b_new 7), .int (b_new 8), .int (b_new 9), .int (b_new 10), .int (b_new 11)]) := (hE9 (fb + 2 + 2 * 1) (by omega)).trans hc_b1
        have ha_s1 : adN21 ((fb + 2 + 2 * 1) + 1) = (adN16 ((fb + 2 + 2 * 1) + 1)) := (hA9 ((fb + 2 + 2 * 1) + 1) (by omega)).trans ha_s1
        have hc_s1 : EN21 ((fb + 2 + 2 * 1) + 1) = .inl (cI, 6, .inl (fun _ => 0)) := (hE9 ((fb + 2 + 2 * 1) + 1) (by omega)).trans hc_s1
        have hfa : ∀ q : Nat, (q < fb + 1 ∨ fb + 14 ≤ q) → adN21 q = ad q := fun q hq => (hA9 q (by omega)).trans (hfa q hq)
        have hfr : ∀ q : Nat, (q < fb ∨ fb + 14 ≤ q) → EN21 q = E q := fun q hq => (hE9 q (by omega)).trans (hfr q hq)
        have ha_b2 : adN21 (fb + 2 + 2 * 2) = aN20 := (hA9 (fb + 2 + 2 * 2) (by omega)).trans ha_b2
        refine f_astq hx hb hG.1 hI ha_fr (List.mem_append_left _ (List.mem_append_left _ (List.mem_append_left _ (List.mem_append_left _ (List.mem_append_left _ (List.mem_append_left _ in_last)))))) hc_fr ha_b2 (List.mem_append_left _ in_last) hB9_2 (vp_in_iff.mpr ⟨by decide, by decide⟩) dX1_init_43 (fun E23 H locs hE24 hn25 hI => ?_)
        have hc_fr : E23 (fb + 1) = .inl (cB, 6, .inr (.inr (.inr (.inr (va_up (va_up (va_up (fun _ => none) 0 (some aN10)) 1 (some aN15)) 2 (some aN20)))))) := hE24
        have hc_fl : E23 fb = .inr (1, [.ref aN0, .int 0, .int 0]) := (hn25 fb (by omega)).trans hc_fl
        have hc_b0 : E23 (fb + 2 + 2 * 0) = .inr (0, [.ref (adN11 ((fb + 2 + 2 * 0) + 1)), .int (b_new 1), .int (b_new 2), .int (b_new 3), .int (b_new 4), .int (b_new 5), .int (b_new 6), .int (b_new 7), .int (b_new 8), .int (b_new 9), .int (b_new 10), .int (b_new 11)]) := (hn25 (fb + 2 + 2 * 0) (by omega)).trans hc_b0
        have hc_s0 : E23 ((fb + 2 + 2 * 0) + 1) = .inl (cI, 6, .inl (fun _ => 0)) := (hn25 ((fb + 2 + 2 * 0) + 1) (by omega)).trans hc_s0
        have hc_b1 : E23 (fb + 2 + 2 * 1) = .inr (0, [.ref (adN16 ((fb + 2 + 2 * 1) + 1)), .int (b_new 1), .int (b_new 2), .int (b_new 3), .int (b_new 4), .int (b_new 5), .int (b_new 6), .int (b_new 7), .int (b_new 8), .int (b_new 9), .int (b_new 10), .int (b_new 11)]) := (hn25 (fb + 2 + 2 * 1) (by omega)).trans hc_b1
        have hc_s1 : E23 ((fb + 2 + 2 * 1) + 1) = .inl (cI, 6, .inl (fun _ => 0)) := (hn25 ((fb + 2 + 2 * 1) + 1) (by omega)).trans hc_s1
        have hB9_2 : E23 (fb + 2 + 2 * 2) = .inr (0, [.ref (adN21 ((fb + 2 + 2 * 2) + 1)), .int (b_new 1), .int (b_new 2), .int (b_new 3), .int (b_new 4), .int (b_new 5), .int (b_new 6), .int (b_new 7), .int (b_new 8), .int (b_new 9), .int (b_new 10), .int (b_new 11)]) := (hn25 (fb + 2 + 2 * 2) (by omega)).trans hB9_2
        have hS9_2 : E23 ((fb + 2 + 2 * 2) + 1) = .inl (cI, 6, .inl (fun _ => 0)) := (hn25 ((fb + 2 + 2 * 2) + 1) (by omega)).trans hS9_2
        have hfr : ∀ q : Nat, (q < fb ∨ fb + 14 ≤ q) → E23 q = E q := fun q hq => (hn25 q (by omega)).trans (hfr q hq)
        refine lv_iinc (v := 3) (lv' := [(1, .int 3), (0, .ref a)]) hx hb dX1_init_44 hl (k := 0) rfl (by decide) (by decide) rfl (fun ls hl => ?_)
        refine lv_goto (tgt := 25) hx hb dX1_init_47 (by decide) ?_
        refine lv_iload_n hx hb dX1_init_25 rfl (lv_at hl 0 rfl) ?_
        refine lv_bipush (v := 6) hx hb dX1_init_26 (by decide) ?_
        refine lv_icmp_ge (tgt := 50) hx hb dX1_init_28 (by decide) (fun c_28 => ?_) (fun c_28 => ?_)
        · exact absurd c_28 (by decide)
        · have n_28 := c_28
          have c_28 := i_nle.mp n_28
          refine lv_aload_n hx hb dX1_init_31 rfl (lv_at hl 1 rfl) ?_
          refine f_get (ci := 1) (v := .ref aN0) (C := RX1) (T := TX1) (N := 3) hx hb hts (by decide +kernel) hown hG.1 hI ha_fl (List.mem_append_left _ (List.mem_append_left _ (List.mem_append_left _ (List.mem_append_left _ (List.mem_append_left _ (List.mem_append_left _ (List.mem_append_left _ hk))))))) hc_fl rfl 0 (by decide) (hts (.fieldLink RX1 11 "CoracleRace$Fleet" "boats" "[LCoracleRace$Boat;") (by decide +kernel)) rfl dX1_init_32 ?_
          refine lv_iload_n hx hb dX1_init_35 rfl (lv_at hl 0 rfl) ?_
          refine f_new (ci := 0) (C := RX0) (T := TX0) (N := 12) (k := fb + 2 + 2 * 3) (fs := [.null, .int 0, .int 0, .int 0, .int 0, .int 0, .int 0, .int 0, .int 0, .int 0, .int 0, .int 0]) hx hb hts (by decide +kernel) tyX0 tyX0_ok hown (hts (.classLink RX1 9 RX0) (by decide +kernel)) (hts (.instantiable RX0 12) (by decide +kernel)) (hts (.initialized RX0) (by decide +kernel)) hG.1 hI (fG_A hG) rfl (by decide) (nin_app (nin_app (nin_app (nin_app (nin_app (nin_app (nin_app (hN (fb + 2 + 2 * 3) (by omega) (by omega)) (by omega)) (by omega)) (by omega)) (by omega)) (by omega)) (by omega)) (by omega)) (Nat.le_of_ble_eq_true rfl) (Nat.le_of_ble_eq_true rfl) dX1_init_36 (fun aN25 adN25 EN25 H hk25 hr25 hEk25 hEr25 hI => ?_)
          have ha_fl : adN25 fb = a := (hr25 fb (by omega)).trans ha_fl
          have hc_fl : EN25 fb = .inr (1, [.ref aN0, .int 0, .int 0]) := (hEr25 fb (by omega)).trans hc_fl
          have ha_fr : adN25 (fb + 1) = aN0 := (hr25 (fb + 1) (by omega)).trans ha_fr
          have hc_fr : EN25 (fb + 1) = .inl (cB, 6, .inr (.inr (.inr (.inr (va_up (va_up (va_up (fun _ => none) 0 (some aN10)) 1 (some aN15)) 2 (some aN20)))))) := (hEr25 (fb + 1) (by omega)).trans hc_fr
          have ha_b0 : adN25 (fb + 2 + 2 * 0) = aN10 := (hr25 (fb + 2 + 2 * 0) (by omega)).trans ha_b0
          have hc_b0 : EN25 (fb + 2 + 2 * 0) = .inr (0, [.ref (adN11 ((fb + 2 + 2 * 0) + 1)), .int (b_new 1), .int (b_new 2), .int (b_new 3), .int (b_new 4), .int (b_new 5), .int (b_new 6), .int (b_new 7), .int (b_new 8), .int (b_new 9), .int (b_new 10), .int (b_new 11)]) := (hEr25 (fb + 2 + 2 * 0) (by omega)).trans hc_b0
          have ha_s0 : adN25 ((fb + 2 + 2 * 0) + 1) = (adN11 ((fb + 2 + 2 * 0) + 1)) := (hr25 ((fb + 2 + 2 * 0) + 1) (by omega)).trans ha_s0
          have hc_s0 : EN25 ((fb + 2 + 2 * 0) + 1) = .inl (cI, 6, .inl (fun _ => 0)) := (hEr25 ((fb + 2 + 2 * 0) + 1) (by omega)).trans hc_s0
          have ha_b1 : adN25 (fb + 2 + 2 * 1) = aN15 := (hr25 (fb + 2 + 2 * 1) (by omega)).trans ha_b1
          have hc_b1 : EN25 (fb + 2 + 2 * 1) = .inr (0, [.ref (adN16 ((fb + 2 + 2 * 1) + 1)), .int (b_new 1), .int (b_new 2), .int (b_new 3), .int (b_new 4), .int (b_new 5), .int (b_new 6), .int (b_new 7), .int (b_new 8), .int (b_new 9), .int (b_new 10), .int (b_new 11)]) := (hEr25 (fb + 2 + 2 * 1) (by omega)).trans hc_b1
          have ha_s1 : adN25 ((fb + 2 + 2 * 1) + 1) = (adN16 ((fb + 2 + 2 * 1) + 1)) := (hr25 ((fb + 2 + 2 * 1) + 1) (by omega)).trans ha_s1
          have hc_s1 : EN25 ((fb + 2 + 2 * 1) + 1) = .inl (cI, 6, .inl (fun _ => 0)) := (hEr25 ((fb + 2 + 2 * 1) + 1) (by omega)).trans hc_s1
          have ha_b2 : adN25 (fb + 2 + 2 * 2) = aN20 := (hr25 (fb + 2 + 2 * 2) (by omega)).trans ha_b2
          have hc_b2 : EN25 (fb + 2 + 2 * 2) = .inr (0, [.ref (adN21 ((fb + 2 + 2 * 2) + 1)), .int (b_new 1), .int (b_new 2), .int (b_new 3), .int (b_new 4), .int (b_new 5), .int (b_new 6), .int (b_new 7), .int (b_new 8), .int (b_new 9), .int (b_new 10), .int (b_new 11)]) := (hEr25 (fb + 2 + 2 * 2) (by omega)).trans hB9_2
          have ha_s2 : adN25 ((fb + 2 + 2 * 2) + 1) = (adN21 ((fb + 2 + 2 * 2) + 1)) := (hr25 ((fb + 2 + 2 * 2) + 1) (by omega)).trans (rfl : adN21 ((fb + 2 + 2 * 2) + 1) = adN21 ((fb + 2 + 2 * 2) + 1))
          have hc_s2 : EN25 ((fb + 2 + 2 * 2) + 1) = .inl (cI, 6, .inl (fun _ => 0)) := (hEr25 ((fb + 2 + 2 * 2) + 1) (by omega)).trans hS9_2
          have hfa : ∀ q : Nat, (q < fb + 1 ∨ fb + 14 ≤ q) → adN25 q = ad q := fun q hq => (hr25 q (by omega)).trans (hfa q hq)
          have hfr : ∀ q : Nat, (q < fb ∨ fb + 14 ≤ q) → EN25 q = E q := fun q hq => (hEr25 q (by omega)).trans (hfr q hq)
          have hc_b3 : EN25 (fb + 2 + 2 * 3) = .inr (0, [.null, .int 0, .int 0, .int 0, .int 0, .int 0, .int 0, .int 0, .int 0, .int 0, .int 0, .int 0]) := hEk25
          have ha_b3 : adN25 (fb + 2 + 2 * 3) = aN25 := hk25
          refine lv_dup hx hb dX1_init_39 rfl ?_
          refine f_callc (va_runIN (As := []) (rest := [.ref aN25, .int 3, .ref aN0]) ⟨hx, hb, hml, hown, hts⟩ (m_X0_init l (kb := (fb + 2 + 2 * 3)) ha_b3 in_last (fun k h1 h2 => (nin_app (nin_app (nin_app (nin_app (nin_app (nin_app (nin_app (nin_app (hN k (by omega) (by omega)) (by omega)) (by omega)) (by omega)) (by omega)) (by omega)) (by omega)) (by omega)) (by omega))) hc_b3) ⟨va_cnB 0 hts gX1_init_X0_init_n22 rfl rfl rfl (hG.2.1 (.methodLinkNest RX1 22 yX0_init RX3) (by simp [fNest])) (hts (.initialized RX0) (by decide +kernel)) (by decide +kernel) ⟨(Nat.le_of_ble_eq_true rfl), (Nat.le_of_ble_eq_true rfl)⟩, rfl, (hts (.instanceMethod yX0_init) (by decide +kernel))⟩ (fPre_of hG hI) rfl rfl hl.1 rfl (lv_room (Nat.le_of_ble_eq_true rfl)) dX1_init_40 ⟨(Nat.le_of_ble_eq_true rfl), (Nat.le_of_ble_eq_true rfl)⟩) hI (fun adN26 EN26 H locs hp hI => ?_)
          obtain ⟨hA9, hE9, hB9_3, hS9_3⟩ := hp
          have ha_fl : adN26 fb = a := (hA9 fb (by omega)).trans ha_fl
          have hc_fl : EN26 fb = .inr (1, [.ref aN0, .int 0, .int 0]) := (hE9 fb (by omega)).trans hc_fl
          have ha_fr : adN26 (fb + 1) = aN0 := (hA9 (fb + 1) (by omega)).trans ha_fr
          have hc_fr : EN26 (fb + 1) = .inl (cB, 6, .inr (.inr (.inr (.inr (va_up (va_up (va_up (fun _ => none) 0 (some aN10)) 1 (some aN15)) 2 (some aN20)))))) := (hE9 (fb + 1) (by omega)).trans hc_fr
          have ha_b0 : adN26 (fb + 2 + 2 * 0) = aN10 := (hA9 (fb + 2 + 2 * 0) (by omega)).trans ha_b0
          have hc_b0 : EN26 (fb + 2 + 2 * 0) = .inr (0, [.ref (adN11 ((fb + 2 + 2 * 0) + 1)), .int (b_new 1), .int (b_new 2), .int (b_new 3), .int (b_new 4), .int (b_new 5), .int (b_new 6), .int (b_new 7), .int (b_new 8), .int (b_new 9), .int (b_new 10), .int (b_new 11)]) := (hE9 (fb + 2 + 2 * 0) (by omega)).trans hc_b0
          have ha_s0 : adN26 ((fb + 2 + 2 * 0) + 1) = (adN11 ((fb + 2 + 2 * 0) + 1)) := (hA9 ((fb + 2 + 2 * 0) + 1) (by omega)).trans ha_s0
          have hc_s0 : EN26 ((fb + 2 + 2 * 0) + 1) = .inl (cI, 6, .inl (fun _ => 0)) := (hE9 ((fb + 2 + 2 * 0) + 1) (by omega)).trans hc_s0
          have ha_b1 : adN26 (fb + 2 + 2 * 1) = aN15 := (hA9 (fb + 2 + 2 * 1) (by omega)).trans ha_b1
          have hc_b1 : EN26 (fb + 2 + 2 * 1) = .inr (0, [.ref (adN16 ((fb + 2 + 2 * 1) + 1)), .int (b_new 1), .int (b_new 2), .int (b_new 3), .int (b_new 4), .int (b_new 5), .int (b_new 6), .int (b_new 7), .int (b_new 8), .int (b_new 9), .int (b_new 10), .int (b_new 11)]) := (hE9 (fb + 2 + 2 * 1) (by omega)).trans hc_b1
          have ha_s1 : adN26 ((fb + 2 + 2 * 1) + 1) = (adN16 ((fb + 2 + 2 * 1) + 1)) := (hA9 ((fb + 2 + 2 * 1) + 1) (by omega)).trans ha_s1
          have hc_s1 : EN26 ((fb + 2 + 2 * 1) + 1) = .inl (cI, 6, .inl (fun _ => 0)) := (hE9 ((fb + 2 + 2 * 1) + 1) (by omega)).trans hc_s1
          have ha_b2 : adN26 (fb + 2 + 2 * 2) = aN20 := (hA9 (fb + 2 + 2 * 2) (by omega)).trans ha_b2
          have hc_b2 : EN26 (fb + 2 + 2 * 2) = .inr (0, [.ref (adN21 ((fb + 2 + 2 * 2) + 1)), .int (b_new 1), .int (b_new 2), .int (b_new 3), .int (b_new 4), .int (b_new 5), .int (b_new 6), .int (b_new 7), .int (b_new 8), .int (b_new 9), .int (b_new 10), .int (b_new 11)]) := (hE9 (fb + 2 + 2 * 2) (by omega)).trans hc_b2
          have ha_s2 : adN26 ((fb + 2 + 2 * 2) + 1) = (adN21 ((fb + 2 + 2 * 2) + 1)) := (hA9 ((fb + 2 + 2 * 2) + 1) (by omega)).trans ha_s2
          have hc_s2 : EN26 ((fb + 2 + 2 * 2) + 1) = .inl (cI, 6, .inl (fun _ => 0)) := (hE9 ((fb + 2 + 2 * 2) + 1) (by omega)).trans hc_s2
          have hfa : ∀ q : Nat, (q < fb + 1 ∨ fb + 14 ≤ q) → adN26 q = ad q := fun q hq => (hA9 q (by omega)).trans (hfa q hq)
          have hfr : ∀ q : Nat, (q < fb ∨ fb + 14 ≤ q) → EN26 q = E q := fun q hq => (hE9 q (by omega)).trans (hfr q hq)
          have ha_b3 : adN26 (fb + 2 + 2 * 3) = aN25 := (hA9 (fb + 2 + 2 * 3) (by omega)).trans ha_b3
          refine f_astq hx hb hG.1 hI ha_fr (List.mem_append_left _ (List.mem_append_left _ (List.mem_append_left _ (List.mem_append_left _ (List.mem_append_left _ (List.mem_append_left _ (List.mem_append_left _ (List.mem_append_left _ in_last)))))))) hc_fr ha_b3 (List.mem_append_left _ in_last) hB9_3 (vp_in_iff.mpr ⟨by decide, by decide⟩) dX1_init_43 (fun E28 H locs hE29 hn30 hI => ?_)
          have hc_fr : E28 (fb + 1) = .inl (cB, 6, .inr (.inr (.inr (.inr (va_up (va_up (va_up (va_up (fun _ => none) 0 (some aN10)) 1 (some aN15)) 2 (some aN20)) 3 (some aN25)))))) := hE29
          have hc_fl : E28 fb = .inr (1, [.ref aN0, .int 0, .int 0]) := (hn30 fb (by omega)).trans hc_fl
          have hc_b0 : E28 (fb + 2 + 2 * 0) = .inr (0, [.ref (adN11 ((fb + 2 + 2 * 0) + 1)), .int (b_new 1), .int (b_new 2), .int (b_new 3), .int (b_new 4), .int (b_new 5), .int (b_new 6), .int (b_new 7), .int (b_new 8), .int (b_new 9), .int (b_new 10), .int (b_new 11)]) := (hn30 (fb + 2 + 2 * 0) (by omega)).trans hc_b0
          have hc_s0 : E28 ((fb + 2 + 2 * 0) + 1) = .inl (cI, 6, .inl (fun _ => 0)) := (hn30 ((fb + 2 + 2 * 0) + 1) (by omega)).trans hc_s0
          have hc_b1 : E28 (fb + 2 + 2 * 1) = .inr (0, [.ref (adN16 ((fb + 2 + 2 * 1) + 1)), .int (b_new 1), .int (b_new 2), .int (b_new 3), .int (b_new 4), .int (b_new 5), .int (b_new 6), .int (b_new 7), .int (b_new 8), .int (b_new 9), .int (b_new 10), .int (b_new 11)]) := (hn30 (fb + 2 + 2 * 1) (by omega)).trans hc_b1
          have hc_s1 : E28 ((fb + 2 + 2 * 1) + 1) = .inl (cI, 6, .inl (fun _ => 0)) := (hn30 ((fb + 2 + 2 * 1) + 1) (by omega)).trans hc_s1
          have hc_b2 : E28 (fb + 2 + 2 * 2) = .inr (0, [.ref (adN21 ((fb + 2 + 2 * 2) + 1)), .int (b_new 1), .int (b_new 2), .int (b_new 3), .int (b_new 4), .int (b_new 5), .int (b_new 6), .int (b_new 7), .int (b_new 8), .int (b_new 9), .int (b_new 10), .int (b_new 11)]) := (hn30 (fb + 2 + 2 * 2) (by omega)).trans hc_b2
          have hc_s2 : E28 ((fb + 2 + 2 * 2) + 1) = .inl (cI, 6, .inl (fun _ => 0)) := (hn30 ((fb + 2 + 2 * 2) + 1) (by omega)).trans hc_s2
          have hB9_3 : E28 (fb + 2 + 2 * 3) = .inr (0, [.ref (adN26 ((fb + 2 + 2 * 3) + 1)), .int (b_new 1), .int (b_new 2), .int (b_new 3), .int (b_new 4), .int (b_new 5), .int (b_new 6), .int (b_new 7), .int (b_new 8), .int (b_new 9), .int (b_new 10), .int (b_new 11)]) := (hn30 (fb + 2 + 2 * 3) (by omega)).trans hB9_3
          have hS9_3 : E28 ((fb + 2 + 2 * 3) + 1) = .inl (cI, 6, .inl (fun _ => 0)) := (hn30 ((fb + 2 + 2 * 3) + 1) (by omega)).trans hS9_3
          have hfr : ∀ q : Nat, (q < fb ∨ fb + 14 ≤ q) → E28 q = E q := fun q hq => (hn30 q (by omega)).trans (hfr q hq)
          refine lv_iinc (v := 4) (lv' := [(1, .int 4), (0, .ref a)]) hx hb dX1_init_44 hl (k := 0) rfl (by decide) (by decide) rfl (fun ls hl => ?_)
          refine lv_goto (tgt := 25) hx hb dX1_init_47 (by decide) ?_
          refine lv_iload_n hx hb dX1_init_25 rfl (lv_at hl 0 rfl) ?_
          refine lv_bipush (v := 6) hx hb dX1_init_26 (by decide) ?_
          refine lv_icmp_ge (tgt := 50) hx hb dX1_init_28 (by decide) (fun c_28 => ?_) (fun c_28 => ?_)
          · exact absurd c_28 (by decide)
          · have n_28 := c_28
            have c_28 := i_nle.mp n_28
            refine lv_aload_n hx hb dX1_init_31 rfl (lv_at hl 1 rfl) ?_
            refine f_get (ci := 1) (v := .ref aN0) (C := RX1) (T := TX1) (N := 3) hx hb hts (by decide +kernel) hown hG.1 hI ha_fl (List.mem_append_left _ (List.mem_append_left _ (List.mem_append_left _ (List.mem_append_left _ (List.mem_append_left _ (List.mem_append_left _ (List.mem_append_left _ (List.mem_append_left _ (List.mem_append_left _ hk))))))))) hc_fl rfl 0 (by decide) (hts (.fieldLink RX1 11 "CoracleRace$Fleet" "boats" "[LCoracleRace$Boat;") (by decide +kernel)) rfl dX1_init_32 ?_
            refine lv_iload_n hx hb dX1_init_35 rfl (lv_at hl 0 rfl) ?_
            refine f_new (ci := 0) (C := RX0) (T := TX0) (N := 12) (k := fb + 2 + 2 * 4) (fs := [.null, .int 0, .int 0, .int 0, .int 0, .int 0, .int 0, .int 0, .int 0, .int 0, .int 0, .int 0]) hx hb hts (by decide +kernel) tyX0 tyX0_ok hown (hts (.classLink RX1 9 RX0) (by decide +kernel)) (hts (.instantiable RX0 12) (by decide +kernel)) (hts (.initialized RX0) (by decide +kernel)) hG.1 hI (fG_A hG) rfl (by decide) (nin_app (nin_app (nin_app (nin_app (nin_app (nin_app (nin_app (nin_app (nin_app (hN (fb + 2 + 2 * 4) (by omega) (by omega)) (by omega)) (by omega)) (by omega)) (by omega)) (by omega)) (by omega)) (by omega)) (by omega)) (by omega)) (Nat.le_of_ble_eq_true rfl) (Nat.le_of_ble_eq_true rfl) dX1_init_36 (fun aN30 adN30 EN30 H hk30 hr30 hEk30 hEr30 hI => ?_)
            have ha_fl : adN30 fb = a := (hr30 fb (by omega)).trans ha_fl
            have hc_fl : EN30 fb = .inr (1, [.ref aN0, .int 0, .int 0]) := (hEr30 fb (by omega)).trans hc_fl
            have ha_fr : adN30 (fb + 1) = aN0 := (hr30 (fb + 1) (by omega)).trans ha_fr
            have hc_fr : EN30 (fb + 1) = .inl (cB, 6, .inr (.inr (.inr (.inr (va_up (va_up (va_up (va_up (fun _ => none) 0 (some aN10)) 1 (some aN15)) 2 (some aN20)) 3 (some aN25)))))) := (hEr30 (fb + 1) (by omega)).trans hc_fr
            have ha_b0 : adN30 (fb + 2 + 2 * 0) = aN10 := (hr30 (fb + 2 + 2 * 0) (by omega)).trans ha_b0
            have hc_b0 : EN30 (fb + 2 + 2 * 0) = .inr (0, [.ref (adN11 ((fb + 2 + 2 * 0) + 1)), .int (b_new 1), .int (b_new 2), .int (b_new 3), .int (b_new 4), .int (b_new 5), .int (b_new 6), .int (b_new 7), .int (b_new 8), .int (b_new 9), .int (b_new 10), .int (b_new 11)]) := (hEr30 (fb + 2 + 2 * 0) (by omega)).trans hc_b0
            have ha_s0 : adN30 ((fb + 2 + 2 * 0) + 1) = (adN11 ((fb + 2 + 2 * 0) + 1)) := (hr30 ((fb + 2 + 2 * 0) + 1) (by omega)).trans ha_s0
            have hc_s0 : EN30 ((fb + 2 + 2 * 0) + 1) = .inl (cI, 6, .inl (fun _ => 0)) := (hEr30 ((fb + 2 + 2 * 0) + 1) (by omega)).trans hc_s0
            have ha_b1 : adN30 (fb + 2 + 2 * 1) = aN15 := (hr30 (fb + 2 + 2 * 1) (by omega)).trans ha_b1
            have hc_b1 : EN30 (fb + 2 + 2 * 1) = .inr (0, [.ref (adN16 ((fb + 2 + 2 * 1) + 1)), .int (b_new 1), .int (b_new 2), .int (b_new 3), .int (b_new 4), .int (b_new 5), .int (b_new 6), .int (b_new 7), .int (b_new 8), .int (b_new 9), .int (b_new 10), .int (b_new 11)]) := (hEr30 (fb + 2 + 2 * 1) (by omega)).trans hc_b1
            have ha_s1 : adN30 ((fb + 2 + 2 * 1) + 1) = (adN16 ((fb + 2 + 2 * 1) + 1)) := (hr30 ((fb + 2 + 2 * 1) + 1) (by omega)).trans ha_s1
            have hc_s1 : EN30 ((fb + 2 + 2 * 1) + 1) = .inl (cI, 6, .inl (fun _ => 0)) := (hEr30 ((fb + 2 + 2 * 1) + 1) (by omega)).trans hc_s1
            have ha_b2 : adN30 (fb + 2 + 2 * 2) = aN20 := (hr30 (fb + 2 + 2 * 2) (by omega)).trans ha_b2
            have hc_b2 : EN30 (fb + 2 + 2 * 2) = .inr (0, [.ref (adN21 ((fb + 2 + 2 * 2) + 1)), .int (b_new 1), .int (b_new 2), .int (b_new 3), .int (b_new 4), .int (b_new 5), .int (b_new 6), .int (b_new 7), .int (b_new 8), .int (b_new 9), .int (b_new 10), .int (b_new 11)]) := (hEr30 (fb + 2 + 2 * 2) (by omega)).trans hc_b2
            have ha_s2 : adN30 ((fb + 2 + 2 * 2) + 1) = (adN21 ((fb + 2 + 2 * 2) + 1)) := (hr30 ((fb + 2 + 2 * 2) + 1) (by omega)).trans ha_s2
            have hc_s2 : EN30 ((fb + 2 + 2 * 2) + 1) = .inl (cI, 6, .inl (fun _ => 0)) := (hEr30 ((fb + 2 + 2 * 2) + 1) (by omega)).trans hc_s2
            have ha_b3 : adN30 (fb + 2 + 2 * 3) = aN25 := (hr30 (fb + 2 + 2 * 3) (by omega)).trans ha_b3
            have hc_b3 : EN30 (fb + 2 + 2 * 3) = .inr (0, [.ref (adN26 ((fb + 2 + 2 * 3) + 1)), .int (b_new 1), .int (b_new 2), .int (b_new 3), .int (b_new 4), .int (b_new 5), .int (b_new 6), .int (b_new 7), .int (b_new 8), .int (b_new 9), .int (b_new 10), .int (b_new 11)]) := (hEr30 (fb + 2 + 2 * 3) (by omega)).trans hB9_3
            have ha_s3 : adN30 ((fb + 2 + 2 * 3) + 1) = (adN26 ((fb + 2 + 2 * 3) + 1)) := (hr30 ((fb + 2 + 2 * 3) + 1) (by omega)).trans (rfl : adN26 ((fb + 2 + 2 * 3) + 1) = adN26 ((fb + 2 + 2 * 3) + 1))
            have hc_s3 : EN30 ((fb + 2 + 2 * 3) + 1) = .inl (cI, 6, .inl (fun _ => 0)) := (hEr30 ((fb + 2 + 2 * 3) + 1) (by omega)).trans hS9_3
            have hfa : ∀ q : Nat, (q < fb + 1 ∨ fb + 14 ≤ q) → adN30 q = ad q := fun q hq => (hr30 q (by omega)).trans (hfa q hq)
            have hfr : ∀ q : Nat, (q < fb ∨ fb + 14 ≤ q) → EN30 q = E q := fun q hq => (hEr30 q (by omega)).trans (hfr q hq)
            have hc_b4 : EN30 (fb + 2 + 2 * 4) = .inr (0, [.null, .int 0, .int 0, .int 0, .int 0, .int 0, .int 0, .int 0, .int 0, .int 0, .int 0, .int 0]) := hEk30
            have ha_b4 : adN30 (fb + 2 + 2 * 4) = aN30 := hk30
            refine lv_dup hx hb dX1_init_39 rfl ?_
            refine f_callc (va_runIN (As := []) (rest := [.ref aN30, .int 4, .ref aN0]) ⟨hx, hb, hml, hown, hts⟩ (m_X0_init l (kb := (fb + 2 + 2 * 4)) ha_b4 in_last (fun k h1 h2 => (nin_app (nin_app (nin_app (nin_app (nin_app (nin_app (nin_app (nin_app (nin_app (nin_app (hN k (by omega) (by omega)) (by omega)) (by omega)) (by omega)) (by omega)) (by omega)) (by omega)) (by omega)) (by omega)) (by omega)) (by omega))) hc_b4) ⟨va_cnB 0 hts gX1_init_X0_init_n22 rfl rfl rfl (hG.2.1 (.methodLinkNest RX1 22 yX0_init RX3) (by simp [fNest])) (hts (.initialized RX0) (by decide +kernel)) (by decide +kernel) ⟨(Nat.le_of_ble_eq_true rfl), (Nat.le_of_ble_eq_true rfl)⟩, rfl, (hts (.instanceMethod yX0_init) (by decide +kernel))⟩ (fPre_of hG hI) rfl rfl hl.1 rfl (lv_room (Nat.le_of_ble_eq_true rfl)) dX1_init_40 ⟨(Nat.le_of_ble_eq_true rfl), (Nat.le_of_ble_eq_true rfl)⟩) hI (fun adN31 EN31 H locs hp hI => ?_)
            obtain ⟨hA9, hE9, hB9_4, hS9_4⟩ := hp
            have ha_fl : adN31 fb = a := (hA9 fb (by omega)).trans ha_fl
            have hc_fl : EN31 fb = .inr (1, [.ref aN0, .int 0, .int 0]) := (hE9 fb (by omega)).trans hc_fl
            have ha_fr : adN31 (fb + 1) = aN0 := (hA9 (fb + 1) (by omega)).trans ha_fr
            have hc_fr : EN31 (fb + 1) = .inl (cB, 6, .inr (.inr (.inr (.inr (va_up (va_up (va_up (va_up (fun _ => none) 0 (some aN10)) 1 (some aN15)) 2 (some aN20)) 3 (some aN25)))))) := (hE9 (fb + 1) (by omega)).trans hc_fr
            have ha_b0 : adN31 (fb + 2 + 2 * 0) = aN10 := (hA9 (fb + 2 + 2 * 0) (by omega)).trans ha_b0
            have hc_b0 : EN31 (fb + 2 + 2 * 0) = .inr (0, [.ref (adN11 ((fb + 2 + 2 * 0) + 1)), .int (b_new 1), .int (b_new 2), .int (b_new 3), .int (b_new 4), .int (b_new 5), .int (b_new 6), .int (b_new 7), .int (b_new 8), .int (b_new 9), .int (b_new 10), .int (b_new 11)]) := (hE9 (fb + 2 + 2 * 0) (by omega)).trans hc_b0
            have ha_s0 : adN31 ((fb + 2 + 2 * 0) + 1) = (adN11 ((fb + 2 + 2 * 0) + 1)) := (hA9 ((fb + 2 + 2 * 0) + 1) (by omega)).trans ha_s0
            have hc_s0 : EN31 ((fb + 2 + 2 * 0) + 1) = .inl (cI, 6, .inl (fun _ => 0)) := (hE9 ((fb + 2 + 2 * 0) + 1) (by omega)).trans hc_s0
            have ha_b1 : adN31 (fb + 2 + 2 * 1) = aN15 := (hA9 (fb + 2 + 2 * 1) (by omega)).trans ha_b1
            have hc_b1 : EN31 (fb + 2 + 2 * 1) = .inr (0, [.ref (adN16 ((fb + 2 + 2 * 1) + 1)), .int (b_new 1), .int (b_new 2), .int (b_new 3), .int (b_new 4), .int (b_new 5), .int (b_new 6), .int (b_new 7), .int (b_new 8), .int (b_new 9), .int (b_new 10), .int (b_new 11)]) := (hE9 (fb + 2 + 2 * 1) (by omega)).trans hc_b1
            have ha_s1 : adN31 ((fb + 2 + 2 * 1) + 1) = (adN16 ((fb + 2 + 2 * 1) + 1)) := (hA9 ((fb + 2 + 2 * 1) + 1) (by omega)).trans ha_s1
            have hc_s1 : EN31 ((fb + 2 + 2 * 1) + 1) = .inl (cI, 6, .inl (fun _ => 0)) := (hE9 ((fb + 2 + 2 * 1) + 1) (by omega)).trans hc_s1
            have ha_b2 : adN31 (fb + 2 + 2 * 2) = aN20 := (hA9 (fb + 2 + 2 * 2) (by omega)).trans ha_b2
            have hc_b2 : EN31 (fb + 2 + 2 * 2) = .inr (0, [.ref (adN21 ((fb + 2 + 2 * 2) + 1)), .int (b_new 1), .int (b_new 2), .int (b_new 3), .int (b_new 4), .int (b_new 5), .int (b_new 6), .int (b_new 7), .int (b_new 8), .int (b_new 9), .int (b_new 10), .int (b_new 11)]) := (hE9 (fb + 2 + 2 * 2) (by omega)).trans hc_b2
            have ha_s2 : adN31 ((fb + 2 + 2 * 2) + 1) = (adN21 ((fb + 2 + 2 * 2) + 1)) := (hA9 ((fb + 2 + 2 * 2) + 1) (by omega)).trans ha_s2
            have hc_s2 : EN31 ((fb + 2 + 2 * 2) + 1) = .inl (cI, 6, .inl (fun _ => 0)) := (hE9 ((fb + 2 + 2 * 2) + 1) (by omega)).trans hc_s2
            have ha_b3 : adN31 (fb + 2 + 2 * 3) = aN25 := (hA9 (fb + 2 + 2 * 3) (by omega)).trans ha_b3
            have hc_b3 : EN31 (fb + 2 + 2 * 3) = .inr (0, [.ref (adN26 ((fb + 2 + 2 * 3) + 1)), .int (b_new 1), .int (b_new 2), .int (b_new 3), .int (b_new 4), .int (b_new 5), .int (b_new 6), .int (b_new 7), .int (b_new 8), .int (b_new 9), .int (b_new 10), .int (b_new 11)]) := (hE9 (fb + 2 + 2 * 3) (by omega)).trans hc_b3
            have ha_s3 : adN31 ((fb + 2 + 2 * 3) + 1) = (adN26 ((fb + 2 + 2 * 3) + 1)) := (hA9 ((fb + 2 + 2 * 3) + 1) (by omega)).trans ha_s3
            have hc_s3 : EN31 ((fb + 2 + 2 * 3) + 1) = .inl (cI, 6, .inl (fun _ => 0)) := (hE9 ((fb + 2 + 2 * 3) + 1) (by omega)).trans hc_s3
            have hfa : ∀ q : Nat, (q < fb + 1 ∨ fb + 14 ≤ q) → adN31 q = ad q := fun q hq => (hA9 q (by omega)).trans (hfa q hq)
            have hfr : ∀ q : Nat, (q < fb ∨ fb + 14 ≤ q) → EN31 q = E q := fun q hq => (hE9 q (by omega)).trans (hfr q hq)
            have ha_b4 : adN31 (fb + 2 + 2 * 4) = aN30 := (hA9 (fb + 2 + 2 * 4) (by omega)).trans ha_b4
            refine f_astq hx hb hG.1 hI ha_fr (List.mem_append_left _ (List.mem_append_left _ (List.mem_append_left _ (List.mem_append_left _ (List.mem_append_left _ (List.mem_append_left _ (List.mem_append_left _ (List.mem_append_left _ (List.mem_append_left _ (List.mem_append_left _ in_last)))))))))) hc_fr ha_b4 (List.mem_append_left _ in_last) hB9_4 (vp_in_iff.mpr ⟨by decide, by decide⟩) dX1_init_43 (fun E33 H locs hE34 hn35 hI => ?_)
            have hc_fr : E33 (fb + 1) = .inl (cB, 6, .inr (.inr (.inr (.inr (va_up (va_up (va_up (va_up (va_up (fun _ => none) 0 (some aN10)) 1 (some aN15)) 2 (some aN20)) 3 (some aN25)) 4 (some aN30)))))) := hE34
            have hc_fl : E33 fb = .inr (1, [.ref aN0, .int 0, .int 0]) := (hn35 fb (by omega)).trans hc_fl
            have hc_b0 : E33 (fb + 2 + 2 * 0) = .inr (0, [.ref (adN11 ((fb + 2 + 2 * 0) + 1)), .int (b_new 1), .int (b_new 2), .int (b_new 3), .int (b_new 4), .int (b_new 5), .int (b_new 6), .int (b_new 7), .int (b_new 8), .int (b_new 9), .int (b_new 10), .int (b_new 11)]) := (hn35 (fb + 2 + 2 * 0) (by omega)).trans hc_b0
            have hc_s0 : E33 ((fb + 2 + 2 * 0) + 1) = .inl (cI, 6, .inl (fun _ => 0)) := (hn35 ((fb + 2 + 2 * 0) + 1) (by omega)).trans hc_s0
            have hc_b1 : E33 (fb + 2 + 2 * 1) = .inr (0, [.ref (adN16 ((fb + 2 + 2 * 1) + 1)), .int (b_new 1), .int (b_new 2), .int (b_new 3), .int (b_new 4), .int (b_new 5), .int (b_new 6), .int (b_new 7), .int (b_new 8), .int (b_new 9), .int (b_new 10), .int (b_new 11)]) := (hn35 (fb + 2 + 2 * 1) (by omega)).trans hc_b1
            have hc_s1 : E33 ((fb + 2 + 2 * 1) + 1) = .inl (cI, 6, .inl (fun _ => 0)) := (hn35 ((fb + 2 + 2 * 1) + 1) (by omega)).trans hc_s1
            have hc_b2 : E33 (fb + 2 + 2 * 2) = .inr (0, [.ref (adN21 ((fb + 2 + 2 * 2) + 1)), .int (b_new 1), .int (b_new 2), .int (b_new 3), .int (b_new 4), .int (b_new 5), .int (b_new 6), .int (b_new 7), .int (b_new 8), .int (b_new 9), .int (b_new 10), .int (b_new 11)]) := (hn35 (fb + 2 + 2 * 2) (by omega)).trans hc_b2
            have hc_s2 : E33 ((fb + 2 + 2 * 2) + 1) = .inl (cI, 6, .inl (fun _ => 0)) := (hn35 ((fb + 2 + 2 * 2) + 1) (by omega)).trans hc_s2
            have hc_b3 : E33 (fb + 2 + 2 * 3) = .inr (0, [.ref (adN26 ((fb + 2 + 2 * 3) + 1)), .int (b_new 1), .int (b_new 2), .int (b_new 3), .int (b_new 4), .int (b_new 5), .int (b_new 6), .int (b_new 7), .int (b_new 8), .int (b_new 9), .int (b_new 10), .int (b_new 11)]) := (hn35 (fb + 2 + 2 * 3) (by omega)).trans hc_b3
            have hc_s3 : E33 ((fb + 2 + 2 * 3) + 1) = .inl (cI, 6, .inl (fun _ => 0)) := (hn35 ((fb + 2 + 2 * 3) + 1) (by omega)).trans hc_s3
            have hB9_4 : E33 (fb + 2 + 2 * 4) = .inr (0, [.ref (adN31 ((fb + 2 + 2 * 4) + 1)), .int (b_new 1), .int (b_new 2), .int (b_new 3), .int (b_new 4), .int (b_new 5), .int (b_new 6), .int (b_new 7), .int (b_new 8), .int (b_new 9), .int (b_new 10), .int (b_new 11)]) := (hn35 (fb + 2 + 2 * 4) (by omega)).trans hB9_4
            have hS9_4 : E33 ((fb + 2 + 2 * 4) + 1) = .inl (cI, 6, .inl (fun _ => 0)) := (hn35 ((fb + 2 + 2 * 4) + 1) (by omega)).trans hS9_4
            have hfr : ∀ q : Nat, (q < fb ∨ fb + 14 ≤ q) → E33 q = E q := fun q hq => (hn35 q (by omega)).trans (hfr q hq)
            refine lv_iinc (v := 5) (lv' := [(1, .int 5), (0, .ref a)]) hx hb dX1_init_44 hl (k := 0) rfl (by decide) (by decide) rfl (fun ls hl => ?_)
            refine lv_goto (tgt := 25) hx hb dX1_init_47 (by decide) ?_
            refine lv_iload_n hx hb dX1_init_25 rfl (lv_at hl 0 rfl) ?_
            refine lv_bipush (v := 6) hx hb dX1_init_26 (by decide) ?_
            refine lv_icmp_ge (tgt := 50) hx hb dX1_init_28 (by decide) (fun c_28 => ?_) (fun c_28 => ?_)
            · exact absurd c_28 (by decide)
            · have n_28 := c_28
              have c_28 := i_nle.mp n_28
              refine lv_aload_n hx hb dX1_init_31 rfl (lv_at hl 1 rfl) ?_
              refine f_get (ci := 1) (v := .ref aN0) (C := RX1) (T := TX1) (N := 3) hx hb hts (by decide +kernel) hown hG.1 hI ha_fl (List.mem_append_left _ (List.mem_append_left _ (List.mem_append_left _ (List.mem_append_left _ (List.mem_append_left _ (List.mem_append_left _ (List.mem_append_left _ (List.mem_append_left _ (List.mem_append_left _ (List.mem_append_left _ (List.mem_append_left _ hk))))))))))) hc_fl rfl 0 (by decide) (hts (.fieldLink RX1 11 "CoracleRace$Fleet" "boats" "[LCoracleRace$Boat;") (by decide +kernel)) rfl dX1_init_32 ?_
              refine lv_iload_n hx hb dX1_init_35 rfl (lv_at hl 0 rfl) ?_
              refine f_new (ci := 0) (C := RX0) (T := TX0) (N := 12) (k := fb + 2 + 2 * 5) (fs := [.null, .int 0, .int 0, .int 0, .int 0, .int 0, .int 0, .int 0, .int 0, .int 0, .int 0, .int 0]) hx hb hts (by decide +kernel) tyX0 tyX0_ok hown (hts (.classLink RX1 9 RX0) (by decide +kernel)) (hts (.instantiable RX0 12) (by decide +kernel)) (hts (.initialized RX0) (by decide +kernel)) hG.1 hI (fG_A hG) rfl (by decide) (nin_app (nin_app (nin_app (nin_app (nin_app (nin_app (nin_app (nin_app (nin_app (nin_app (nin_app (hN (fb + 2 + 2 * 5) (by omega) (by omega)) (by omega)) (by omega)) (by omega)) (by omega)) (by omega)) (by omega)) (by omega)) (by omega)) (by omega)) (by omega)) (by omega)) (Nat.le_of_ble_eq_true rfl) (Nat.le_of_ble_eq_true rfl) dX1_init_36 (fun aN35 adN35 EN35 H hk35 hr35 hEk35 hEr35 hI => ?_)
              have ha_fl : adN35 fb = a := (hr35 fb (by omega)).trans ha_fl
              have hc_fl : EN35 fb = .inr (1, [.ref aN0, .int 0, .int 0]) := (hEr35 fb (by omega)).trans hc_fl
              have ha_fr : adN35 (fb + 1) = aN0 := (hr35 (fb + 1) (by omega)).trans ha_fr
              have hc_fr : EN35 (fb + 1) = .inl (cB, 6, .inr (.inr (.inr (.inr (va_up (va_up (va_up (va_up (va_up (fun _ => none) 0 (some aN10)) 1 (some aN15)) 2 (some aN20)) 3 (some aN25)) 4 (some aN30)))))) := (hEr35 (fb + 1) (by omega)).trans hc_fr
              have ha_b0 : adN35 (fb + 2 + 2 * 0) = aN10 := (hr35 (fb + 2 + 2 * 0) (by omega)).trans ha_b0
              have hc_b0 : EN35 (fb + 2 + 2 * 0) = .inr (0, [.ref (adN11 ((fb + 2 + 2 * 0) + 1)), .int (b_new 1), .int (b_new 2), .int (b_new 3), .int (b_new 4), .int (b_new 5), .int (b_new 6), .int (b_new 7), .int (b_new 8), .int (b_new 9), .int (b_new 10), .int (b_new 11)]) := (hEr35 (fb + 2 + 2 * 0) (by omega)).trans hc_b0
              have ha_s0 : adN35 ((fb + 2 + 2 * 0) + 1) = (adN11 ((fb + 2 + 2 * 0) + 1)) := (hr35 ((fb + 2 + 2 * 0) + 1) (by omega)).trans ha_s0
              have hc_s0 : EN35 ((fb + 2 + 2 * 0) + 1) = .inl (cI, 6, .inl (fun _ => 0)) := (hEr35 ((fb + 2 + 2 * 0) + 1) (by omega)).trans hc_s0
              have ha_b1 : adN35 (fb + 2 + 2 * 1) = aN15 := (hr35 (fb + 2 + 2 * 1) (by omega)).trans ha_b1
              have hc_b1 : EN35 (fb + 2 + 2 * 1) = .inr (0, [.ref (adN16 ((fb + 2 + 2 * 1) + 1)), .int (b_new 1), .int (b_new 2), .int (b_new 3), .int (b_new 4), .int (b_new 5), .int (b_new 6), .int (b_new 7), .int (b_new 8), .int (b_new 9), .int (b_new 10), .int (b_new 11)]) := (hEr35 (fb + 2 + 2 * 1) (by omega)).trans hc_b1
              have ha_s1 : adN35 ((fb + 2 + 2 * 1) + 1) = (adN16 ((fb + 2 + 2 * 1) + 1)) := (hr35 ((fb + 2 + 2 * 1) + 1) (by omega)).trans ha_s1
              have hc_s1 : EN35 ((fb + 2 + 2 * 1) + 1) = .inl (cI, 6, .inl (fun _ => 0)) := (hEr35 ((fb + 2 + 2 * 1) + 1) (by omega)).trans hc_s1
              have ha_b2 : adN35 (fb + 2 + 2 * 2) = aN20 := (hr35 (fb + 2 + 2 * 2) (by omega)).trans ha_b2
              have hc_b2 : EN35 (fb + 2 + 2 * 2) = .inr (0, [.ref (adN21 ((fb + 2 + 2 * 2) + 1)), .int (b_new 1), .int (b_new 2), .int (b_new 3), .int (b_new 4), .int (b_new 5), .int (b_new 6), .int (b_new 7), .int (b_new 8), .int (b_new 9), .int (b_new 10), .int (b_new 11)]) := (hEr35 (fb + 2 + 2 * 2) (by omega)).trans hc_b2
              have ha_s2 : adN35 ((fb + 2 + 2 * 2) + 1) = (adN21 ((fb + 2 + 2 * 2) + 1)) := (hr35 ((fb + 2 + 2 * 2) + 1) (by omega)).trans ha_s2
              have hc_s2 : EN35 ((fb + 2 + 2 * 2) + 1) = .inl (cI, 6, .inl (fun _ => 0)) := (hEr35 ((fb + 2 + 2 * 2) + 1) (by omega)).trans hc_s2
              have ha_b3 : adN35 (fb + 2 + 2 * 3) = aN25 := (hr35 (fb + 2 + 2 * 3) (by omega)).trans ha_b3
              have hc_b3 : EN35 (fb + 2 + 2 * 3) = .inr (0, [.ref (adN26 ((fb + 2 + 2 * 3) + 1)), .int (b_new 1), .int (b_new 2), .int (b_new 3), .int (b_new 4), .int (b_new 5), .int (b_new 6), .int (b_new 7), .int (b_new 8), .int (b_new 9), .int (b_new 10), .int (b_new 11)]) := (hEr35 (fb + 2 + 2 * 3) (by omega)).trans hc_b3
              have ha_s3 : adN35 ((fb + 2 + 2 * 3) + 1) = (adN26 ((fb + 2 + 2 * 3) + 1)) := (hr35 ((fb + 2 + 2 * 3) + 1) (by omega)).trans ha_s3
              have hc_s3 : EN35 ((fb + 2 + 2 * 3) + 1) = .inl (cI, 6, .inl (fun _ => 0)) := (hEr35 ((fb + 2 + 2 * 3) + 1) (by omega)).trans hc_s3
              have ha_b4 : adN35 (fb + 2 + 2 * 4) = aN30 := (hr35 (fb + 2 + 2 * 4) (by omega)).trans ha_b4
              have hc_b4 : EN35 (fb + 2 + 2 * 4) = .inr (0, [.ref (adN31 ((fb + 2 + 2 * 4) + 1)), .int (b_new 1), .int (b_new 2), .int (b_new 3), .int (b_new 4), .int (b_new 5), .int (b_new 6), .int (b_new 7), .int (b_new 8), .int (b_new 9), .int (b_new 10), .int (b_new 11)]) := (hEr35 (fb + 2 + 2 * 4) (by omega)).trans hB9_4
              have ha_s4 : adN35 ((fb + 2 + 2 * 4) + 1) = (adN31 ((fb + 2 + 2 * 4) + 1)) := (hr35 ((fb + 2 + 2 * 4) + 1) (by omega)).trans (rfl : adN31 ((fb + 2 + 2 * 4) + 1) = adN31 ((fb + 2 + 2 * 4) + 1))
              have hc_s4 : EN35 ((fb + 2 + 2 * 4) + 1) = .inl (cI, 6, .inl (fun _ => 0)) := (hEr35 ((fb + 2 + 2 * 4) + 1) (by omega)).trans hS9_4
              have hfa : ∀ q : Nat, (q < fb + 1 ∨ fb + 14 ≤ q) → adN35 q = ad q := fun q hq => (hr35 q (by omega)).trans (hfa q hq)
              have hfr : ∀ q : Nat, (q < fb ∨ fb + 14 ≤ q) → EN35 q = E q := fun q hq => (hEr35 q (by omega)).trans (hfr q hq)
              have hc_b5 : EN35 (fb + 2 + 2 * 5) = .inr (0, [.null, .int 0, .int 0, .int 0, .int 0, .int 0, .int 0, .int 0, .int 0, .int 0, .int 0, .int 0]) := hEk35
              have ha_b5 : adN35 (fb + 2 + 2 * 5) = aN35 := hk35
              refine lv_dup hx hb dX1_init_39 rfl ?_
              refine f_callc (va_runIN (As := []) (rest := [.ref aN35, .int 5, .ref aN0]) ⟨hx, hb, hml, hown, hts⟩ (m_X0_init l (kb := (fb + 2 + 2 * 5)) ha_b5 in_last (fun k h1 h2 => (nin_app (nin_app (nin_app (nin_app (nin_app (nin_app (nin_app (nin_app (nin_app (nin_app (nin_app (nin_app (hN k (by omega) (by omega)) (by omega)) (by omega)) (by omega)) (by omega)) (by omega)) (by omega)) (by omega)) (by omega)) (by omega)) (by omega)) (by omega)) (by omega))) hc_b5) ⟨va_cnB 0 hts gX1_init_X0_init_n22 rfl rfl rfl (hG.2.1 (.methodLinkNest RX1 22 yX0_init RX3) (by simp [fNest])) (hts (.initialized RX0) (by decide +kernel)) (by decide +kernel) ⟨(Nat.le_of_ble_eq_true rfl), (Nat.le_of_ble_eq_true rfl)⟩, rfl, (hts (.instanceMethod yX0_init) (by decide +kernel))⟩ (fPre_of hG hI) rfl rfl hl.1 rfl (lv_room (Nat.le_of_ble_eq_true rfl)) dX1_init_40 ⟨(Nat.le_of_ble_eq_true rfl), (Nat.le_of_ble_eq_true rfl)⟩) hI (fun adN36 EN36 H locs hp hI => ?_)
              obtain ⟨hA9, hE9, hB9_5, hS9_5⟩ := hp
              have ha_fl : adN36 fb = a := (hA9 fb (by omega)).trans ha_fl
              have hc_fl : EN36 fb = .inr (1, [.ref aN0, .int 0, .int 0]) := (hE9 fb (by omega)).trans hc_fl
              have ha_fr : adN36 (fb + 1) = aN0 := (hA9 (fb + 1) (by omega)).trans ha_fr
              have hc_fr : EN36 (fb + 1) = .inl (cB, 6, .inr (.inr (.inr (.inr (va_up (va_up (va_up (va_up (va_up (fun _ => none) 0 (some aN10)) 1 (some aN15)) 2 (some aN20)) 3 (some aN25)) 4 (some aN30)))))) := (hE9 (fb + 1) (by omega)).trans hc_fr
              have ha_b0 : adN36 (fb + 2 + 2 * 0) = aN10 := (hA9 (fb + 2 + 2 * 0) (by omega)).trans ha_b0
              have hc_b0 : EN36 (fb + 2 + 2 * 0) = .inr (0, [.ref (adN11 ((fb + 2 + 2 * 0) + 1)), .int (b_new 1), .int (b_new 2), .int (b_new 3), .int (b_new 4), .int (b_new 5), .int (b_new 6), .int (b_new 7), .int (b_new 8), .int (b_new 9), .int (b_new 10), .int (b_new 11)]) := (hE9 (fb + 2 + 2 * 0) (by omega)).trans hc_b0
              have ha_s0 : adN36 ((fb + 2 + 2 * 0) + 1) = (adN11 ((fb + 2 + 2 * 0) + 1)) := (hA9 ((fb + 2 + 2 * 0) + 1) (by omega)).trans ha_s0
              have hc_s0 : EN36 ((fb + 2 + 2 * 0) + 1) = .inl (cI, 6, .inl (fun _ => 0)) := (hE9 ((fb + 2 + 2 * 0) + 1) (by omega)).trans hc_s0
              have ha_b1 : adN36 (fb + 2 + 2 * 1) = aN15 := (hA9 (fb + 2 + 2 * 1) (by omega)).trans ha_b1
              have hc_b1 : EN36 (fb + 2 + 2 * 1) = .inr (0, [.ref (adN16 ((fb + 2 + 2 * 1) + 1)), .int (b_new 1), .int (b_new 2), .int (b_new 3), .int (b_new 4), .int (b_new 5), .int (b_new 6), .int (b_new 7), .int (b_new 8), .int (b_new 9), .int (b_new 10), .int (b_new 11)]) := (hE9 (fb + 2 + 2 * 1) (by omega)).trans hc_b1
              have ha_s1 : adN36 ((fb + 2 + 2 * 1) + 1) = (adN16 ((fb + 2 + 2 * 1) + 1)) := (hA9 ((fb + 2 + 2 * 1) + 1) (by omega)).trans ha_s1
              have hc_s1 : EN36 ((fb + 2 + 2 * 1) + 1) = .inl (cI, 6, .inl (fun _ => 0)) := (hE9 ((fb + 2 + 2 * 1) + 1) (by omega)).trans hc_s1
              have ha_b2 : adN36 (fb + 2 + 2 * 2) = aN20 := (hA9 (fb + 2 + 2 * 2) (by omega)).trans ha_b2
              have hc_b2 : EN36 (fb + 2 + 2 * 2) = .inr (0, [.ref (adN21 ((fb + 2 + 2 * 2) + 1)), .int (b_new 1), .int (b_new 2), .int (b_new 3), .int (b_new 4), .int (b_new 5), .int (b_new 6), .int (b_new 7), .int (b_new 8), .int (b_new 9), .int (b_new 10), .int (b_new 11)]) := (hE9 (fb + 2 + 2 * 2) (by omega)).trans hc_b2
              have ha_s2 : adN36 ((fb + 2 + 2 * 2) + 1) = (adN21 ((fb + 2 + 2 * 2) + 1)) := (hA9 ((fb + 2 + 2 * 2) + 1) (by omega)).trans ha_s2
              have hc_s2 : EN36 ((fb + 2 + 2 * 2) + 1) = .inl (cI, 6, .inl (fun _ => 0)) := (hE9 ((fb + 2 + 2 * 2) + 1) (by omega)).trans hc_s2
              have ha_b3 : adN36 (fb + 2 + 2 * 3) = aN25 := (hA9 (fb + 2 + 2 * 3) (by omega)).trans ha_b3
              have hc_b3 : EN36 (fb + 2 + 2 * 3) = .inr (0, [.ref (adN26 ((fb + 2 + 2 * 3) + 1)), .int (b_new 1), .int (b_new 2), .int (b_new 3), .int (b_new 4), .int (b_new 5), .int (b_new 6), .int (b_new 7), .int (b_new 8), .int (b_new 9), .int (b_new 10), .int (b_new 11)]) := (hE9 (fb + 2 + 2 * 3) (by omega)).trans hc_b3
              have ha_s3 : adN36 ((fb + 2 + 2 * 3) + 1) = (adN26 ((fb + 2 + 2 * 3) + 1)) := (hA9 ((fb + 2 + 2 * 3) + 1) (by omega)).trans ha_s3
              have hc_s3 : EN36 ((fb + 2 + 2 * 3) + 1) = .inl (cI, 6, .inl (fun _ => 0)) := (hE9 ((fb + 2 + 2 * 3) + 1) (by omega)).trans hc_s3
              have ha_b4 : adN36 (fb + 2 + 2 * 4) = aN30 := (hA9 (fb + 2 + 2 * 4) (by omega)).trans ha_b4
              have hc_b4 : EN36 (fb + 2 + 2 * 4) = .inr (0, [.ref (adN31 ((fb + 2 + 2 * 4) + 1)), .int (b_new 1), .int (b_new 2), .int (b_new 3), .int (b_new 4), .int (b_new 5), .int (b_new 6), .int (b_new 7), .int (b_new 8), .int (b_new 9), .int (b_new 10), .int (b_new 11)]) := (hE9 (fb + 2 + 2 * 4) (by omega)).trans hc_b4
              have ha_s4 : adN36 ((fb + 2 + 2 * 4) + 1) = (adN31 ((fb + 2 + 2 * 4) + 1)) := (hA9 ((fb + 2 + 2 * 4) + 1) (by omega)).trans ha_s4
              have hc_s4 : EN36 ((fb + 2 + 2 * 4) + 1) = .inl (cI, 6, .inl (fun _ => 0)) := (hE9 ((fb + 2 + 2 * 4) + 1) (by omega)).trans hc_s4
              have hfa : ∀ q : Nat, (q < fb + 1 ∨ fb + 14 ≤ q) → adN36 q = ad q := fun q hq => (hA9 q (by omega)).trans (hfa q hq)
              have hfr : ∀ q : Nat, (q < fb ∨ fb + 14 ≤ q) → EN36 q = E q := fun q hq => (hE9 q (by omega)).trans (hfr q hq)
              have ha_b5 : adN36 (fb + 2 + 2 * 5) = aN35 := (hA9 (fb + 2 + 2 * 5) (by omega)).trans ha_b5
              refine f_astq hx hb hG.1 hI ha_fr (List.mem_append_left _ (List.mem_append_left _ (List.mem_append_left _ (List.mem_append_left _ (List.mem_append_left _ (List.mem_append_left _ (List.mem_append_left _ (List.mem_append_left _ (List.mem_append_left _ (List.mem_append_left _ (List.mem_append_left _ (List.mem_append_left _ in_last)))))))))))) hc_fr ha_b5 (List.mem_append_left _ in_last) hB9_5 (vp_in_iff.mpr ⟨by decide, by decide⟩) dX1_init_43 (fun E38 H locs hE39 hn40 hI => ?_)
              have hc_fr : E38 (fb + 1) = .inl (cB, 6, .inr (.inr (.inr (.inr (va_up (va_up (va_up (va_up (va_up (va_up (fun _ => none) 0 (some aN10)) 1 (some aN15)) 2 (some aN20)) 3 (some aN25)) 4 (some aN30)) 5 (some aN35)))))) := hE39
              have hc_fl : E38 fb = .inr (1, [.ref aN0, .int 0, .int 0]) := (hn40 fb (by omega)).trans hc_fl
              have hc_b0 : E38 (fb + 2 + 2 * 0) = .inr (0, [.ref (adN11 ((fb + 2 + 2 * 0) + 1)), .int (b_new 1), .int (b_new 2), .int (b_new 3), .int (b_new 4), .int (b_new 5), .int (b_new 6), .int (b_new 7), .int (b_new 8), .int (b_new 9), .int (b_new 10), .int (b_new 11)]) := (hn40 (fb + 2 + 2 * 0) (by omega)).trans hc_b0
              have hc_s0 : E38 ((fb + 2 + 2 * 0) + 1) = .inl (cI, 6, .inl (fun _ => 0)) := (hn40 ((fb + 2 + 2 * 0) + 1) (by omega)).trans hc_s0
              have hc_b1 : E38 (fb + 2 + 2 * 1) = .inr (0, [.ref (adN16 ((fb + 2 + 2 * 1) + 1)), .int (b_new 1), .int (b_new 2), .int (b_new 3), .int (b_new 4), .int (b_new 5), .int (b_new 6), .int (b_new 7), .int (b_new 8), .int (b_new 9), .int (b_new 10), .int (b_new 11)]) := (hn40 (fb + 2 + 2 * 1) (by omega)).trans hc_b1
              have hc_s1 : E38 ((fb + 2 + 2 * 1) + 1) = .inl (cI, 6, .inl (fun _ => 0)) := (hn40 ((fb + 2 + 2 * 1) + 1) (by omega)).trans hc_s1
              have hc_b2 : E38 (fb + 2 + 2 * 2) = .inr (0, [.ref (adN21 ((fb + 2 + 2 * 2) + 1)), .int (b_new 1), .int (b_new 2), .int (b_new 3), .int (b_new 4), .int (b_new 5), .int (b_new 6), .int (b_new 7), .int (b_new 8), .int (b_new 9), .int (b_new 10), .int (b_new 11)]) := (hn40 (fb + 2 + 2 * 2) (by omega)).trans hc_b2
              have hc_s2 : E38 ((fb + 2 + 2 * 2) + 1) = .inl (cI, 6, .inl (fun _ => 0)) := (hn40 ((fb + 2 + 2 * 2) + 1) (by omega)).trans hc_s2
              have hc_b3 : E38 (fb + 2 + 2 * 3) = .inr (0, [.ref (adN26 ((fb + 2 + 2 * 3) + 1)), .int (b_new 1), .int (b_new 2), .int (b_new 3), .int (b_new 4), .int (b_new 5), .int (b_new 6), .int (b_new 7), .int (b_new 8), .int (b_new 9), .int (b_new 10), .int (b_new 11)]) := (hn40 (fb + 2 + 2 * 3) (by omega)).trans hc_b3
              have hc_s3 : E38 ((fb + 2 + 2 * 3) + 1) = .inl (cI, 6, .inl (fun _ => 0)) := (hn40 ((fb + 2 + 2 * 3) + 1) (by omega)).trans hc_s3
              have hc_b4 : E38 (fb + 2 + 2 * 4) = .inr (0, [.ref (adN31 ((fb + 2 + 2 * 4) + 1)), .int (b_new 1), .int (b_new 2), .int (b_new 3), .int (b_new 4), .int (b_new 5), .int (b_new 6), .int (b_new 7), .int (b_new 8), .int (b_new 9), .int (b_new 10), .int (b_new 11)]) := (hn40 (fb + 2 + 2 * 4) (by omega)).trans hc_b4
              have hc_s4 : E38 ((fb + 2 + 2 * 4) + 1) = .inl (cI, 6, .inl (fun _ => 0)) := (hn40 ((fb + 2 + 2 * 4) + 1) (by omega)).trans hc_s4
              have hB9_5 : E38 (fb + 2 + 2 * 5) = .inr (0, [.ref (adN36 ((fb + 2 + 2 * 5) + 1)), .int (b_new 1), .int (b_new 2), .int (b_new 3), .int (b_new 4), .int (b_new 5), .int (b_new 6), .int (b_new 7), .int (b_new 8), .int (b_new 9), .int (b_new 10), .int (b_new 11)]) := (hn40 (fb + 2 + 2 * 5) (by omega)).trans hB9_5
              have hS9_5 : E38 ((fb + 2 + 2 * 5) + 1) = .inl (cI, 6, .inl (fun _ => 0)) := (hn40 ((fb + 2 + 2 * 5) + 1) (by omega)).trans hS9_5
              have hfr : ∀ q : Nat, (q < fb ∨ fb + 14 ≤ q) → E38 q = E q := fun q hq => (hn40 q (by omega)).trans (hfr q hq)
              refine lv_iinc (v := 6) (lv' := [(1, .int 6), (0, .ref a)]) hx hb dX1_init_44 hl (k := 0) rfl (by decide) (by decide) rfl (fun ls hl => ?_)
              refine lv_goto (tgt := 25) hx hb dX1_init_47 (by decide) ?_
              refine lv_iload_n hx hb dX1_init_25 rfl (lv_at hl 0 rfl) ?_
              refine lv_bipush (v := 6) hx hb dX1_init_26 (by decide) ?_
              refine lv_icmp_ge (tgt := 50) hx hb dX1_init_28 (by decide) (fun c_28 => ?_) (fun c_28 => ?_)
              · have n_28 := i_nlt.mpr c_28
                have hq0 : aN10 = adN36 (fb + 2 + 2 * 0) := ha_b0.symm
                have hq1 : aN15 = adN36 (fb + 2 + 2 * 1) := ha_b1.symm
                have hq2 : aN20 = adN36 (fb + 2 + 2 * 2) := ha_b2.symm
                have hq3 : aN25 = adN36 (fb + 2 + 2 * 3) := ha_b3.symm
                have hq4 : aN30 = adN36 (fb + 2 + 2 * 4) := ha_b4.symm
                have hq5 : aN35 = adN36 (fb + 2 + 2 * 5) := ha_b5.symm
                have hI := fI_row (g := fl_row adN36 fb) hI (List.mem_append_left _ (List.mem_append_left _ (List.mem_append_left _ (List.mem_append_left _ (List.mem_append_left _ (List.mem_append_left _ (List.mem_append_left _ (List.mem_append_left _ (List.mem_append_left _ (List.mem_append_left _ (List.mem_append_left _ (List.mem_append_left _ in_last)))))))))))) hc_fr (fun j hj => by rcases (show j = 0 ∨ j = 1 ∨ j = 2 ∨ j = 3 ∨ j = 4 ∨ j = 5 by omega) with rfl | rfl | rfl | rfl | rfl | rfl; exact congrArg some hq0; exact congrArg some hq1; exact congrArg some hq2; exact congrArg some hq3; exact congrArg some hq4; exact congrArg some hq5)
                have hFl : fl_at cI cB adN36 (va_up E38 (fb + 1) (.inl (cB, 6, .inr (.inr (.inr (.inr (fl_row adN36 fb))))))) fb 0 0 (fun _ => b_new) (fun _ _ => 0) := by
                  refine ⟨(va_up_ne _ _ (by omega)).trans (hc_fl.trans (by rw [← ha_fr]; rfl)), va_up_self _ _ _, fun i hi => ?_⟩
                  rcases (show i = 0 ∨ i = 1 ∨ i = 2 ∨ i = 3 ∨ i = 4 ∨ i = 5 by omega) with rfl | rfl | rfl | rfl | rfl | rfl
                  · exact ⟨(va_up_ne _ _ (by omega)).trans (hc_b0.trans (by rw [← ha_s0])), (va_up_ne _ _ (by omega)).trans hc_s0⟩
                  · exact ⟨(va_up_ne _ _ (by omega)).trans (hc_b1.trans (by rw [← ha_s1])), (va_up_ne _ _ (by omega)).trans hc_s1⟩
                  · exact ⟨(va_up_ne _ _ (by omega)).trans (hc_b2.trans (by rw [← ha_s2])), (va_up_ne _ _ (by omega)).trans hc_s2⟩
                  · exact ⟨(va_up_ne _ _ (by omega)).trans (hc_b3.trans (by rw [← ha_s3])), (va_up_ne _ _ (by omega)).trans hc_s3⟩
                  · exact ⟨(va_up_ne _ _ (by omega)).trans (hc_b4.trans (by rw [← ha_s4])), (va_up_ne _ _ (by omega)).trans hc_s4⟩
                  · exact ⟨(va_up_ne _ _ (by omega)).trans (hB9_5.trans (by rw [← (rfl : adN36 ((fb + 2 + 2 * 5) + 1) = adN36 ((fb + 2 + 2 * 5) + 1))])), (va_up_ne _ _ (by omega)).trans hS9_5⟩
                exact f_retv hQ hx hb hr hlocks hI.2.2 (by omega) (by omega) dX1_init_50 (adN36, (va_up E38 (fb + 1) (.inl (cB, 6, .inr (.inr (.inr (.inr (fl_row adN36 fb)))))))) (fB_of hI) (⟨hfa, fun q hq => (va_up_ne _ _ (by omega)).trans (hfr q hq), hFl⟩)
              · exact absurd c_28 (by decide)
