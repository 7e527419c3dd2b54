theorem nin_app {k j : Nat} {L : List Nat} (h : k ∉ L) (hne : k ≠ j) : k ∉ L ++ [j] := fun q => by
  rcases List.mem_append.mp q with q | q
  · exact h q
  · exact hne (List.mem_singleton.mp q)
theorem in_last {k : Nat} {L : List Nat} : k ∈ L ++ [k] := List.mem_append_right _ (List.mem_singleton.mpr rfl)
def b_new : Nat → Int32 := fun k => match k with
  | 1 => 1
  | 2 => 1
  | _ => 0
def w_new : Nat → Int32 := upd (upd (upd (upd (upd (fun _ => 0) 0 1) 1 2) 2 3) 3 2) 4 1
set_option maxHeartbeats 4000000 in
set_option maxRecDepth 100000 in
theorem m_X0_init (l : Launch) {D : va_G} {cI cJ cB : ClassId} {t0 z : Nat} {tx ad : Nat → Nat} {L : List Nat} {E : Nat → va_E} {kb a : Nat} (ha : ad kb = a) (hk : kb ∈ L) (hN : ∀ k, kb + 1 ≤ k → k < kb + 2 → k ∉ L) (hC : E kb = .inr (0, [.null, .int 0, .int 0, .int 0, .int 0, .int 0, .int 0, .int 0, .int 0, .int 0, .int 0, .int 0])) : Met l yX0_init wsX0_init ({ frames := 1, cells := 1, slots := 6, locals := 20 } : Room) (va_Pc [.ref a] (fPre D cI cJ cB t0 z tx ad L E)) (va_Qv (fun (u : (Nat → Nat) × (Nat → va_E)) => (∀ q : Nat, q ≠ kb + 1 → u.1 q = ad q) ∧ (∀ q : Nat, q ≠ kb ∧ q ≠ kb + 1 → u.2 q = E q) ∧ u.2 kb = bE u.1 kb b_new ∧ u.2 (kb + 1) = .inl (cI, 6, .inl (fun _ => 0))) (fun u t => fB D z u.1 (L ++ [kb + 1]) u.2 t) (fA z)) 1 6 (fA z) := by
  refine f_ofW (cc := cX0_init) (maxL := 1) (ret := none) (by decide) rfl (Nat.le_of_ble_eq_true rfl) ?_
  intro pr e s m args below meth c Q hx hb hr hml hts hown hlocks hin hG H locs hI hQ ls hl
  have hl : lv_has ls 1 [(0, .ref a)] := hl
  have hfr : ∀ q : Nat, q ≠ kb ∧ q ≠ kb + 1 → E q = E q := fun _ _ => rfl
  have hfa : ∀ q : Nat, q ≠ kb + 1 → ad q = ad q := fun _ _ => rfl
  have hC : E kb = .inr (0, [.null, .int 0, .int 0, .int 0, .int 0, .int 0, .int 0, .int 0, .int 0, .int 0, .int 0, .int 0]) := hC
  refine lv_aload_n hx hb dX0_init_0 rfl (lv_at hl 0 rfl) ?_
  refine W.objInit hx hb hown (hts (.methodLink RX0 1 objectInit) (by decide +kernel)) (hts (.instanceMethod objectInit) (by decide +kernel)) (hts (.code objectInit ⟨#[0xb1]⟩ 1 none) (by decide +kernel)) rfl (by rw [hml]; exact hl.1) rfl dX0_init_1 (Nat.le_of_ble_eq_true rfl) (Nat.le_of_ble_eq_true rfl) ?_
  refine W.eq (g2 := F0 m 4 ls []) rfl ?_
  refine lv_aload_n hx hb dX0_init_4 rfl (lv_at hl 0 rfl) ?_
  refine lv_bipush (v := 6) hx hb dX0_init_5 (by decide) ?_
  refine f_newi (k := kb + 1) (N := 6) hx hb (hts (.arrayClass .int) (by decide +kernel)) hG.1 hI (fG_A hG) (by decide) (by decide) (by decide) (hN (kb + 1) (by omega) (by omega)) (Nat.le_of_ble_eq_true rfl) (Nat.le_of_ble_eq_true rfl) dX0_init_7 (fun aN0 adN0 EN0 H hk0 hr0 hEk0 hEr0 hI => ?_)
  have ha_kb : adN0 kb = a := (hr0 kb (by omega)).trans ha
  have hc_kb : EN0 kb = .inr (0, [.null, .int 0, .int 0, .int 0, .int 0, .int 0, .int 0, .int 0, .int 0, .int 0, .int 0, .int 0]) := (hEr0 kb (by omega)).trans hC
  have hfa : ∀ q : Nat, q ≠ kb + 1 → adN0 q = ad q := fun q hq => (hr0 q (by omega)).trans (hfa q hq)
  have hfr : ∀ q : Nat, q ≠ kb ∧ q ≠ kb + 1 → EN0 q = E q := fun q hq => (hEr0 q (by omega)).trans (hfr q hq)
  have hc_sk : EN0 (kb + 1) = .inl (cI, 6, .inl (fun _ => 0)) := hEk0
  have ha_sk : adN0 (kb + 1) = aN0 := hk0
  refine f_putF (ci := 0) (v := .ref aN0) (C := RX0) (T := TX0) (N := 12) hx hb hts (by decide +kernel) tyX0 tyX0_ok nmX0 hown hG.1 hI ha_kb (List.mem_append_left _ hk) hc_kb rfl 0 (by decide) (hts (.fieldLink RX0 9 "CoracleRace$Boat" "strokes" "[I") (by decide +kernel)) rfl hin rfl rfl rfl (Nat.le_of_ble_eq_true rfl) dX0_init_9 (fun E2 H locs hE3 hn4 hI => ?_)
  have hc_kb : E2 kb = .inr (0, [.ref aN0, .int 0, .int 0, .int 0, .int 0, .int 0, .int 0, .int 0, .int 0, .int 0, .int 0, .int 0]) := hE3
  have hc_sk : E2 (kb + 1) = .inl (cI, 6, .inl (fun _ => 0)) := (hn4 (kb + 1) (by omega)).trans hc_sk
  have hfr : ∀ q : Nat, q ≠ kb ∧ q ≠ kb + 1 → E2 q = E q := fun q hq => (hn4 q (by omega)).trans (hfr q hq)
  refine lv_aload_n hx hb dX0_init_12 rfl (lv_at hl 0 rfl) ?_
  refine lv_iconst (v := 1) hx hb dX0_init_13 (by decide) ?_
  refine f_put (ci := 0) (v := .int 1) (C := RX0) (T := TX0) (N := 12) hx hb hts (by decide +kernel) tyX0 tyX0_ok nmX0 hown hG.1 hI ha_kb (List.mem_append_left _ hk) hc_kb rfl 1 (by decide) (hts (.fieldLink RX0 13 "CoracleRace$Boat" "length" "I") (by decide +kernel)) rfl rfl rfl (Nat.le_of_ble_eq_true rfl) dX0_init_14 (fun E5 H locs hE6 hn7 hI => ?_)
  have hc_kb : E5 kb = .inr (0, [.ref aN0, .int 1, .int 0, .int 0, .int 0, .int 0, .int 0, .int 0, .int 0, .int 0, .int 0, .int 0]) := hE6
  have hc_sk : E5 (kb + 1) = .inl (cI, 6, .inl (fun _ => 0)) := (hn7 (kb + 1) (by omega)).trans hc_sk
  have hfr : ∀ q : Nat, q ≠ kb ∧ q ≠ kb + 1 → E5 q = E q := fun q hq => (hn7 q (by omega)).trans (hfr q hq)
  refine lv_aload_n hx hb dX0_init_17 rfl (lv_at hl 0 rfl) ?_
  refine lv_iconst (v := 1) hx hb dX0_init_18 (by decide) ?_
  refine f_put (ci := 0) (v := .int 1) (C := RX0) (T := TX0) (N := 12) hx hb hts (by decide +kernel) tyX0 tyX0_ok nmX0 hown hG.1 hI ha_kb (List.mem_append_left _ hk) hc_kb rfl 2 (by decide) (hts (.fieldLink RX0 17 "CoracleRace$Boat" "strength" "I") (by decide +kernel)) rfl rfl rfl (Nat.le_of_ble_eq_true rfl) dX0_init_19 (fun E8 H locs hE9 hn10 hI => ?_)
  have hc_kb : E8 kb = .inr (0, [.ref aN0, .int 1, .int 1, .int 0, .int 0, .int 0, .int 0, .int 0, .int 0, .int 0, .int 0, .int 0]) := hE9
  have hc_sk : E8 (kb + 1) = .inl (cI, 6, .inl (fun _ => 0)) := (hn10 (kb + 1) (by omega)).trans hc_sk
  have hfr : ∀ q : Nat, q ≠ kb ∧ q ≠ kb + 1 → E8 q = E q := fun q hq => (hn10 q (by omega)).trans (hfr q hq)
  refine lv_aload_n hx hb dX0_init_22 rfl (lv_at hl 0 rfl) ?_
  refine lv_iconst (v := 0) hx hb dX0_init_23 (by decide) ?_
  refine f_put (ci := 0) (v := .int 0) (C := RX0) (T := TX0) (N := 12) hx hb hts (by decide +kernel) tyX0 tyX0_ok nmX0 hown hG.1 hI ha_kb (List.mem_append_left _ hk) hc_kb rfl 3 (by decide) (hts (.fieldLink RX0 20 "CoracleRace$Boat" "place" "I") (by decide +kernel)) rfl rfl rfl (Nat.le_of_ble_eq_true rfl) dX0_init_24 (fun E11 H locs hE12 hn13 hI => ?_)
  have hc_kb : E11 kb = .inr (0, [.ref aN0, .int 1, .int 1, .int 0, .int 0, .int 0, .int 0, .int 0, .int 0, .int 0, .int 0, .int 0]) := hE12
  have hc_sk : E11 (kb + 1) = .inl (cI, 6, .inl (fun _ => 0)) := (hn13 (kb + 1) (by omega)).trans hc_sk
  have hfr : ∀ q : Nat, q ≠ kb ∧ q ≠ kb + 1 → E11 q = E q := fun q hq => (hn13 q (by omega)).trans (hfr q hq)
  refine lv_aload_n hx hb dX0_init_27 rfl (lv_at hl 0 rfl) ?_
  refine lv_iconst (v := 0) hx hb dX0_init_28 (by decide) ?_
  refine f_put (ci := 0) (v := .int 0) (C := RX0) (T := TX0) (N := 12) hx hb hts (by decide +kernel) tyX0 tyX0_ok nmX0 hown hG.1 hI ha_kb (List.mem_append_left _ hk) hc_kb rfl 4 (by decide) (hts (.fieldLink RX0 23 "CoracleRace$Boat" "lane" "I") (by decide +kernel)) rfl rfl rfl (Nat.le_of_ble_eq_true rfl) dX0_init_29 (fun E14 H locs hE15 hn16 hI => ?_)
  have hc_kb : E14 kb = .inr (0, [.ref aN0, .int 1, .int 1, .int 0, .int 0, .int 0, .int 0, .int 0, .int 0, .int 0, .int 0, .int 0]) := hE15
  have hc_sk : E14 (kb + 1) = .inl (cI, 6, .inl (fun _ => 0)) := (hn16 (kb + 1) (by omega)).trans hc_sk
  have hfr : ∀ q : Nat, q ≠ kb ∧ q ≠ kb + 1 → E14 q = E q := fun q hq => (hn16 q (by omega)).trans (hfr q hq)
  refine lv_aload_n hx hb dX0_init_32 rfl (lv_at hl 0 rfl) ?_
  refine lv_iconst (v := 0) hx hb dX0_init_33 (by decide) ?_
  refine f_put (ci := 0) (v := .int 0) (C := RX0) (T := TX0) (N := 12) hx hb hts (by decide +kernel) tyX0 tyX0_ok nmX0 hown hG.1 hI ha_kb (List.mem_append_left _ hk) hc_kb rfl 5 (by decide) (hts (.fieldLink RX0 26 "CoracleRace$Boat" "heading" "I") (by decide +kernel)) rfl rfl rfl (Nat.le_of_ble_eq_true rfl) dX0_init_34 (fun E17 H locs hE18 hn19 hI => ?_)
  have hc_kb : E17 kb = .inr (0, [.ref aN0, .int 1, .int 1, .int 0, .int 0, .int 0, .int 0, .int 0, .int 0, .int 0, .int 0, .int 0]) := hE18
  have hc_sk : E17 (kb + 1) = .inl (cI, 6, .inl (fun _ => 0)) := (hn19 (kb + 1) (by omega)).trans hc_sk
  have hfr : ∀ q : Nat, q ≠ kb ∧ q ≠ kb + 1 → E17 q = E q := fun q hq => (hn19 q (by omega)).trans (hfr q hq)
  refine lv_aload_n hx hb dX0_init_37 rfl (lv_at hl 0 rfl) ?_
  refine lv_iconst (v := 0) hx hb dX0_init_38 (by decide) ?_
  refine f_put (ci := 0) (v := .int 0) (C := RX0) (T := TX0) (N := 12) hx hb hts (by decide +kernel) tyX0 tyX0_ok nmX0 hown hG.1 hI ha_kb (List.mem_append_left _ hk) hc_kb rfl 6 (by decide) (hts (.fieldLink RX0 29 "CoracleRace$Boat" "soaked" "I") (by decide +kernel)) rfl rfl rfl (Nat.le_of_ble_eq_true rfl) dX0_init_39 (fun E20 H locs hE21 hn22 hI => ?_)
  have hc_kb : E20 kb = .inr (0, [.ref aN0, .int 1, .int 1, .int 0, .int 0, .int 0, .int 0, .int 0, .int 0, .int 0, .int 0, .int 0]) := hE21
  have hc_sk : E20 (kb + 1) = .inl (cI, 6, .inl (fun _ => 0)) := (hn22 (kb + 1) (by omega)).trans hc_sk
  have hfr : ∀ q : Nat, q ≠ kb ∧ q ≠ kb + 1 → E20 q = E q := fun q hq => (hn22 q (by omega)).trans (hfr q hq)
  refine lv_aload_n hx hb dX0_init_42 rfl (lv_at hl 0 rfl) ?_
  refine lv_iconst (v := 0) hx hb dX0_init_43 (by decide) ?_
  refine f_put (ci := 0) (v := .int 0) (C := RX0) (T := TX0) (N := 12) hx hb hts (by decide +kernel) tyX0 tyX0_ok nmX0 hown hG.1 hI ha_kb (List.mem_append_left _ hk) hc_kb rfl 7 (by decide) (hts (.fieldLink RX0 32 "CoracleRace$Boat" "fouls" "I") (by decide +kernel)) rfl rfl rfl (Nat.le_of_ble_eq_true rfl) dX0_init_44 (fun E23 H locs hE24 hn25 hI => ?_)
  have hc_kb : E23 kb = .inr (0, [.ref aN0, .int 1, .int 1, .int 0, .int 0, .int 0, .int 0, .int 0, .int 0, .int 0, .int 0, .int 0]) := hE24
  have hc_sk : E23 (kb + 1) = .inl (cI, 6, .inl (fun _ => 0)) := (hn25 (kb + 1) (by omega)).trans hc_sk
  have hfr : ∀ q : Nat, q ≠ kb ∧ q ≠ kb + 1 → E23 q = E q := fun q hq => (hn25 q (by omega)).trans (hfr q hq)
  refine lv_aload_n hx hb dX0_init_47 rfl (lv_at hl 0 rfl) ?_
  refine lv_iconst (v := 0) hx hb dX0_init_48 (by decide) ?_
  refine f_put (ci := 0) (v := .int 0) (C := RX0) (T := TX0) (N := 12) hx hb hts (by decide +kernel) tyX0 tyX0_ok nmX0 hown hG.1 hI ha_kb (List.mem_append_left _ hk) hc_kb rfl 8 (by decide) (hts (.fieldLink RX0 35 "CoracleRace$Boat" "in" "Z") (by decide +kernel)) rfl rfl rfl (Nat.le_of_ble_eq_true rfl) dX0_init_49 (fun E26 H locs hE27 hn28 hI => ?_)
  have hc_kb : E26 kb = .inr (0, [.ref aN0, .int 1, .int 1, .int 0, .int 0, .int 0, .int 0, .int 0, .int 0, .int 0, .int 0, .int 0]) := hE27
  have hc_sk : E26 (kb + 1) = .inl (cI, 6, .inl (fun _ => 0)) := (hn28 (kb + 1) (by omega)).trans hc_sk
  have hfr : ∀ q : Nat, q ≠ kb ∧ q ≠ kb + 1 → E26 q = E q := fun q hq => (hn28 q (by omega)).trans (hfr q hq)
  refine lv_aload_n hx hb dX0_init_52 rfl (lv_at hl 0 rfl) ?_
  refine lv_iconst (v := 0) hx hb dX0_init_53 (by decide) ?_
  refine f_put (ci := 0) (v := .int 0) (C := RX0) (T := TX0) (N := 12) hx hb hts (by decide +kernel) tyX0 tyX0_ok nmX0 hown hG.1 hI ha_kb (List.mem_append_left _ hk) hc_kb rfl 9 (by decide) (hts (.fieldLink RX0 39 "CoracleRace$Boat" "tickIn" "I") (by decide +kernel)) rfl rfl rfl (Nat.le_of_ble_eq_true rfl) dX0_init_54 (fun E29 H locs hE30 hn31 hI => ?_)
  have hc_kb : E29 kb = .inr (0, [.ref aN0, .int 1, .int 1, .int 0, .int 0, .int 0, .int 0, .int 0, .int 0, .int 0, .int 0, .int 0]) := hE30
  have hc_sk : E29 (kb + 1) = .inl (cI, 6, .inl (fun _ => 0)) := (hn31 (kb + 1) (by omega)).trans hc_sk
  have hfr : ∀ q : Nat, q ≠ kb ∧ q ≠ kb + 1 → E29 q = E q := fun q hq => (hn31 q (by omega)).trans (hfr q hq)
  refine lv_aload_n hx hb dX0_init_57 rfl (lv_at hl 0 rfl) ?_
  refine lv_iconst (v := 0) hx hb dX0_init_58 (by decide) ?_
  refine f_put (ci := 0) (v := .int 0) (C := RX0) (T := TX0) (N := 12) hx hb hts (by decide +kernel) tyX0 tyX0_ok nmX0 hown hG.1 hI ha_kb (List.mem_append_left _ hk) hc_kb rfl 10 (by decide) (hts (.fieldLink RX0 42 "CoracleRace$Boat" "spins" "I") (by decide +kernel)) rfl rfl rfl (Nat.le_of_ble_eq_true rfl) dX0_init_59 (fun E32 H locs hE33 hn34 hI => ?_)
  have hc_kb : E32 kb = .inr (0, [.ref aN0, .int 1, .int 1, .int 0, .int 0, .int 0, .int 0, .int 0, .int 0, .int 0, .int 0, .int 0]) := hE33
  have hc_sk : E32 (kb + 1) = .inl (cI, 6, .inl (fun _ => 0)) := (hn34 (kb + 1) (by omega)).trans hc_sk
  have hfr : ∀ q : Nat, q ≠ kb ∧ q ≠ kb + 1 → E32 q = E q := fun q hq => (hn34 q (by omega)).trans (hfr q hq)
  refine lv_aload_n hx hb dX0_init_62 rfl (lv_at hl 0 rfl) ?_
  refine lv_iconst (v := 0) hx hb dX0_init_63 (by decide) ?_
  refine f_put (ci := 0) (v := .int 0) (C := RX0) (T := TX0) (N := 12) hx hb hts (by decide +kernel) tyX0 tyX0_ok nmX0 hown hG.1 hI ha_kb (List.mem_append_left _ hk) hc_kb rfl 11 (by decide) (hts (.fieldLink RX0 45 "CoracleRace$Boat" "stops" "I") (by decide +kernel)) rfl rfl rfl (Nat.le_of_ble_eq_true rfl) dX0_init_64 (fun E35 H locs hE36 hn37 hI => ?_)
  have hc_kb : E35 kb = .inr (0, [.ref aN0, .int 1, .int 1, .int 0, .int 0, .int 0, .int 0, .int 0, .int 0, .int 0, .int 0, .int 0]) := hE36
  have hc_sk : E35 (kb + 1) = .inl (cI, 6, .inl (fun _ => 0)) := (hn37 (kb + 1) (by omega)).trans hc_sk
  have hfr : ∀ q : Nat, q ≠ kb ∧ q ≠ kb + 1 → E35 q = E q := fun q hq => (hn37 q (by omega)).trans (hfr q hq)
  exact f_retv hQ hx hb hr hlocks hI.2.2 (by omega) (by omega) dX0_init_67 (adN0, E35) (fB_of hI) (⟨hfa, hfr, (hc_kb).trans (by rw [← ha_sk]; rfl), hc_sk⟩)
