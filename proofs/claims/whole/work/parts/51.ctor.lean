theorem fl_at.ad {cI cB : ClassId} {ad ad1 : Nat → Nat} {E : Nat → va_E} {fb n T : Nat} {B F : Nat → Nat → Int32} (h : fl_at cI cB ad E fb n T B F) (h1 : ∀ q, fb ≤ q → q < fb + 14 → ad1 q = ad q) : fl_at cI cB ad1 E fb n T B F := by
  obtain ⟨a, b, c⟩ := h
  have hr : fl_row ad1 fb = fl_row ad fb := by
    funext i
    unfold fl_row
    by_cases h : i < 6
    · rw [if_pos h, if_pos h, h1 (fb + 2 + 2 * i) (by omega) (by omega)]
    · rw [if_neg h, if_neg h]
  refine ⟨by rw [h1 (fb + 1) (by omega) (by omega)]; exact a, by rw [hr]; exact b, fun i hi => ⟨?_, (c i hi).2⟩⟩
  have := (c i hi).1
  rw [this]
  unfold bE
  rw [h1 (fb + 2 + 2 * i + 1) (by omega) (by omega)]
theorem st_at.ad2 {cI : ClassId} {ad ad1 : Nat → Nat} {E : Nat → va_E} {sb T : Nat} {S : Nat → Nat → Int32} (h : st_at cI ad E sb T S) (h1 : ∀ q, (sb ≤ q ∧ q < sb + 11) ∨ q = 50 → ad1 q = ad q) : st_at cI ad1 E sb T S := by
  refine ⟨h.1.trans ?_, h.2⟩
  unfold sE
  rw [h1 (sb + 1 + 0) (by omega), h1 (sb + 1 + 1) (by omega), h1 (sb + 1 + 2) (by omega), h1 (sb + 1 + 3) (by omega), h1 (sb + 1 + 4) (by omega), h1 (sb + 1 + 5) (by omega), h1 (sb + 1 + 6) (by omega), h1 (sb + 1 + 7) (by omega), h1 (sb + 1 + 8) (by omega), h1 (sb + 1 + 9) (by omega), h1 50 (by omega)]
set_option maxHeartbeats 4000000 in
set_option maxRecDepth 100000 in
theorem m_X4_init (l : Launch) {D : va_G} {cI cJ cB : ClassId} {t0 z : Nat} {tx ad : Nat → Nat} {L : List Nat} {E : Nat → va_E} {sb a m50 : Nat} (ha : ad sb = a) (h60 : 60 ≤ sb) (hk : sb ∈ L) (hN : ∀ k, sb + 1 ≤ k → k < sb + 11 → k ∉ L) (hC : E sb = .inr (4, [.int 0, .null, .null, .null, .null, .null, .null, .null, .null, .null, .null, .null])) (h50 : ad 50 = m50) : Met l yX4_init wsX4_init ({ frames := 1, cells := 10, slots := 60, locals := 20 } : Room) (va_Pc [.ref a, .ref m50] (fPre D cI cJ cB t0 z tx ad L E)) (va_Qv (fun (u : (Nat → Nat) × (Nat → va_E)) => (∀ q : Nat, (q < sb + 1 ∨ sb + 11 ≤ q) → u.1 q = ad q) ∧ (∀ q : Nat, (q < sb ∨ sb + 11 ≤ q) → u.2 q = E q) ∧ st_at cI u.1 u.2 sb 0 (fun _ _ => 0)) (fun u t => fB D z u.1 (L ++ [sb + 1 + 0] ++ [sb + 1 + 1] ++ [sb + 1 + 2] ++ [sb + 1 + 3] ++ [sb + 1 + 4] ++ [sb + 1 + 5] ++ [sb + 1 + 6] ++ [sb + 1 + 7] ++ [sb + 1 + 8] ++ [sb + 1 + 9]) u.2 t) (fA z)) 10 60 (fA z) := by
  refine f_ofW (cc := cX4_init) (maxL := 2) (ret := none) (by decide) rfl (Nat.le_of_ble_eq_true rfl) ?_
  intro pr e s m args below meth c Q hx hb hr hml hts hown hlocks hin hG H locs hI hQ ls hl
  have hl : lv_has ls 2 [(0, .ref a), (1, .ref m50)] := hl
  have hfr : ∀ q : Nat, (q < sb ∨ sb + 11 ≤ q) → E q = E q := fun _ _ => rfl
  have hfa : ∀ q : Nat, (q < sb + 1 ∨ sb + 11 ≤ q) → ad q = ad q := fun _ _ => rfl
  have hC : E sb = .inr (4, [.int 0, .null, .null, .null, .null, .null, .null, .null, .null, .null, .null, .null]) := hC
  refine lv_aload_n hx hb dX4_init_0 rfl (lv_at hl 0 rfl) ?_
  refine lv_aload_n hx hb dX4_init_1 rfl (lv_at hl 1 rfl) ?_
  refine f_putF (ci := 4) (v := .ref m50) (C := RX4) (T := TX4) (N := 12) hx hb hts (by decide +kernel) tyX4 tyX4_ok nmX4 hown hG.1 hI ha hk hC rfl 11 (by decide) (hts (.fieldLink RX4 3 "CoracleRaceModel$State" "this$0" "LCoracleRaceModel;") (by decide +kernel)) rfl hin rfl rfl rfl (Nat.le_of_ble_eq_true rfl) dX4_init_2 (fun E1 H locs hE2 hn3 hI => ?_)
  have hC : E1 sb = .inr (4, [.int 0, .null, .null, .null, .null, .null, .null, .null, .null, .null, .null, .ref m50]) := hE2
  have hfr : ∀ q : Nat, (q < sb ∨ sb + 11 ≤ q) → E1 q = E q := fun q hq => (hn3 q (by omega)).trans (hfr q hq)
  refine lv_aload_n hx hb dX4_init_5 rfl (lv_at hl 0 rfl) ?_
  refine W.objInit hx hb hown (hts (.methodLink RX4 9 objectInit) (by decide +kernel)) (hts (.instanceMethod objectInit) (by decide +kernel)) (hts (.code objectInit ⟨#[0xb1]⟩ 1 none) (by decide +kernel)) rfl (by rw [hml]; exact hl.1) rfl dX4_init_6 (Nat.le_of_ble_eq_true rfl) (Nat.le_of_ble_eq_true rfl) ?_
  refine W.eq (g2 := F0 m 9 ls []) rfl ?_
  refine lv_aload_n hx hb dX4_init_9 rfl (lv_at hl 0 rfl) ?_
  refine lv_bipush (v := 6) hx hb dX4_init_10 (by decide) ?_
  refine f_newi (k := sb + 1 + 0) (N := 6) hx hb (hts (.arrayClass .int) (by decide +kernel)) hG.1 hI (fG_A hG) (by decide) (by decide) (by decide) (hN (sb + 1 + 0) (by omega) (by omega)) (Nat.le_of_ble_eq_true rfl) (Nat.le_of_ble_eq_true rfl) dX4_init_12 (fun aN3 adN3 EN3 H hk3 hr3 hEk3 hEr3 hI => ?_)
  have ha_st : adN3 sb = a := (hr3 sb (by omega)).trans ha
  have hc_st : EN3 sb = .inr (4, [.int 0, .null, .null, .null, .null, .null, .null, .null, .null, .null, .null, .ref m50]) := (hEr3 sb (by omega)).trans hC
  have hfa : ∀ q : Nat, (q < sb + 1 ∨ sb + 11 ≤ q) → adN3 q = ad q := fun q hq => (hr3 q (by omega)).trans (hfa q hq)
  have hfr : ∀ q : Nat, (q < sb ∨ sb + 11 ≤ q) → EN3 q = E q := fun q hq => (hEr3 q (by omega)).trans (hfr q hq)
  have hc_r0 : EN3 (sb + 1 + 0) = .inl (cI, 6, .inl (fun _ => 0)) := hEk3
  have ha_r0 : adN3 (sb + 1 + 0) = aN3 := hk3
  refine f_putF (ci := 4) (v := .ref aN3) (C := RX4) (T := TX4) (N := 12) hx hb hts (by decide +kernel) tyX4 tyX4_ok nmX4 hown hG.1 hI ha_st (List.mem_append_left _ hk) hc_st rfl 1 (by decide) (hts (.fieldLink RX4 15 "CoracleRaceModel$State" "place" "[I") (by decide +kernel)) rfl hin rfl rfl rfl (Nat.le_of_ble_eq_true rfl) dX4_init_14 (fun E5 H locs hE6 hn7 hI => ?_)
  have hc_st : E5 sb = .inr (4, [.int 0, .ref aN3, .null, .null, .null, .null, .null, .null, .null, .null, .null, .ref m50]) := hE6
  have hc_r0 : E5 (sb + 1 + 0) = .inl (cI, 6, .inl (fun _ => 0)) := (hn7 (sb + 1 + 0) (by omega)).trans hc_r0
  have hfr : ∀ q : Nat, (q < sb ∨ sb + 11 ≤ q) → E5 q = E q := fun q hq => (hn7 q (by omega)).trans (hfr q hq)
  refine lv_aload_n hx hb dX4_init_17 rfl (lv_at hl 0 rfl) ?_
  refine lv_bipush (v := 6) hx hb dX4_init_18 (by decide) ?_
  refine f_newi (k := sb + 1 + 1) (N := 6) hx hb (hts (.arrayClass .int) (by decide +kernel)) hG.1 hI (fG_A hG) (by decide) (by decide) (by decide) (nin_app (hN (sb + 1 + 1) (by omega) (by omega)) (by omega)) (Nat.le_of_ble_eq_true rfl) (Nat.le_of_ble_eq_true rfl) dX4_init_20 (fun aN7 adN7 EN7 H hk7 hr7 hEk7 hEr7 hI => ?_)
  have ha_st : adN7 sb = a := (hr7 sb (by omega)).trans ha_st
  have hc_st : EN7 sb = .inr (4, [.int 0, .ref aN3, .null, .null, .null, .null, .null, .null, .null, .null, .null, .ref m50]) := (hEr7 sb (by omega)).trans hc_st
  have ha_r0 : adN7 (sb + 1 + 0) = aN3 := (hr7 (sb + 1 + 0) (by omega)).trans ha_r0
  have hc_r0 : EN7 (sb + 1 + 0) = .inl (cI, 6, .inl (fun _ => 0)) := (hEr7 (sb + 1 + 0) (by omega)).trans hc_r0
  have hfa : ∀ q : Nat, (q < sb + 1 ∨ sb + 11 ≤ q) → adN7 q = ad q := fun q hq => (hr7 q (by omega)).trans (hfa q hq)
  have hfr : ∀ q : Nat, (q < sb ∨ sb + 11 ≤ q) → EN7 q = E q := fun q hq => (hEr7 q (by omega)).trans (hfr q hq)
  have hc_r1 : EN7 (sb + 1 + 1) = .inl (cI, 6, .inl (fun _ => 0)) := hEk7
  have ha_r1 : adN7 (sb + 1 + 1) = aN7 := hk7
  refine f_putF (ci := 4) (v := .ref aN7) (C := RX4) (T := TX4) (N := 12) hx hb hts (by decide +kernel) tyX4 tyX4_ok nmX4 hown hG.1 hI ha_st (List.mem_append_left _ (List.mem_append_left _ hk)) hc_st rfl 2 (by decide) (hts (.fieldLink RX4 19 "CoracleRaceModel$State" "lane" "[I") (by decide +kernel)) rfl hin rfl rfl rfl (Nat.le_of_ble_eq_true rfl) dX4_init_22 (fun E9 H locs hE10 hn11 hI => ?_)
  have hc_st : E9 sb = .inr (4, [.int 0, .ref aN3, .ref aN7, .null, .null, .null, .null, .null, .null, .null, .null, .ref m50]) := hE10
  have hc_r0 : E9 (sb + 1 + 0) = .inl (cI, 6, .inl (fun _ => 0)) := (hn11 (sb + 1 + 0) (by omega)).trans hc_r0
  have hc_r1 : E9 (sb + 1 + 1) = .inl (cI, 6, .inl (fun _ => 0)) := (hn11 (sb + 1 + 1) (by omega)).trans hc_r1
  have hfr : ∀ q : Nat, (q < sb ∨ sb + 11 ≤ q) → E9 q = E q := fun q hq => (hn11 q (by omega)).trans (hfr q hq)
  refine lv_aload_n hx hb dX4_init_25 rfl (lv_at hl 0 rfl) ?_
  refine lv_bipush (v := 6) hx hb dX4_init_26 (by decide) ?_
  refine f_newi (k := sb + 1 + 2) (N := 6) hx hb (hts (.arrayClass .int) (by decide +kernel)) hG.1 hI (fG_A hG) (by decide) (by decide) (by decide) (nin_app (nin_app (hN (sb + 1 + 2) (by omega) (by omega)) (by omega)) (by omega)) (Nat.le_of_ble_eq_true rfl) (Nat.le_of_ble_eq_true rfl) dX4_init_28 (fun aN11 adN11 EN11 H hk11 hr11 hEk11 hEr11 hI => ?_)
  have ha_st : adN11 sb = a := (hr11 sb (by omega)).trans ha_st
  have hc_st : EN11 sb = .inr (4, [.int 0, .ref aN3, .ref aN7, .null, .null, .null, .null, .null, .null, .null, .null, .ref m50]) := (hEr11 sb (by omega)).trans hc_st
  have ha_r0 : adN11 (sb + 1 + 0) = aN3 := (hr11 (sb + 1 + 0) (by omega)).trans ha_r0
  have hc_r0 : EN11 (sb + 1 + 0) = .inl (cI, 6, .inl (fun _ => 0)) := (hEr11 (sb + 1 + 0) (by omega)).trans hc_r0
  have ha_r1 : adN11 (sb + 1 + 1) = aN7 := (hr11 (sb + 1 + 1) (by omega)).trans ha_r1
  have hc_r1 : EN11 (sb + 1 + 1) = .inl (cI, 6, .inl (fun _ => 0)) := (hEr11 (sb + 1 + 1) (by omega)).trans hc_r1
  have hfa : ∀ q : Nat, (q < sb + 1 ∨ sb + 11 ≤ q) → adN11 q = ad q := fun q hq => (hr11 q (by omega)).trans (hfa q hq)
  have hfr : ∀ q : Nat, (q < sb ∨ sb + 11 ≤ q) → EN11 q = E q := fun q hq => (hEr11 q (by omega)).trans (hfr q hq)
  have hc_r2 : EN11 (sb + 1 + 2) = .inl (cI, 6, .inl (fun _ => 0)) := hEk11
  have ha_r2 : adN11 (sb + 1 + 2) = aN11 := hk11
  refine f_putF (ci := 4) (v := .ref aN11) (C := RX4) (T := TX4) (N := 12) hx hb hts (by decide +kernel) tyX4 tyX4_ok nmX4 hown hG.1 hI ha_st (List.mem_append_left _ (List.mem_append_left _ (List.mem_append_left _ hk))) hc_st rfl 3 (by decide) (hts (.fieldLink RX4 22 "CoracleRaceModel$State" "heads" "[I") (by decide +kernel)) rfl hin rfl rfl rfl (Nat.le_of_ble_eq_true rfl) dX4_init_30 (fun E13 H locs hE14 hn15 hI => ?_)
  have hc_st : E13 sb = .inr (4, [.int 0, .ref aN3, .ref aN7, .ref aN11, .null, .null, .null, .null, .null, .null, .null, .ref m50]) := hE14
  have hc_r0 : E13 (sb + 1 + 0) = .inl (cI, 6, .inl (fun _ => 0)) := (hn15 (sb + 1 + 0) (by omega)).trans hc_r0
  have hc_r1 : E13 (sb + 1 + 1) = .inl (cI, 6, .inl (fun _ => 0)) := (hn15 (sb + 1 + 1) (by omega)).trans hc_r1
  have hc_r2 : E13 (sb + 1 + 2) = .inl (cI, 6, .inl (fun _ => 0)) := (hn15 (sb + 1 + 2) (by omega)).trans hc_r2
  have hfr : ∀ q : Nat, (q < sb ∨ sb + 11 ≤ q) → E13 q = E q := fun q hq => (hn15 q (by omega)).trans (hfr q hq)
  refine lv_aload_n hx hb dX4_init_33 rfl (lv_at hl 0 rfl) ?_
  refine lv_bipush (v := 6) hx hb dX4_init_34 (by decide) ?_
  refine f_newi (k := sb + 1 + 3) (N := 6) hx hb (hts (.arrayClass .int) (by decide +kernel)) hG.1 hI (fG_A hG) (by decide) (by decide) (by decide) (nin_app (nin_app (nin_app (hN (sb + 1 + 3) (by omega) (by omega)) (by omega)) (by omega)) (by omega)) (Nat.le_of_ble_eq_true rfl) (Nat.le_of_ble_eq_true rfl) dX4_init_36 (fun aN15 adN15 EN15 H hk15 hr15 hEk15 hEr15 hI => ?_)
  have ha_st : adN15 sb = a := (hr15 sb (by omega)).trans ha_st
  have hc_st : EN15 sb = .inr (4, [.int 0, .ref aN3, .ref aN7, .ref aN11, .null, .null, .null, .null, .null, .null, .null, .ref m50]) := (hEr15 sb (by omega)).trans hc_st
  have ha_r0 : adN15 (sb + 1 + 0) = aN3 := (hr15 (sb + 1 + 0) (by omega)).trans ha_r0
  have hc_r0 : EN15 (sb + 1 + 0) = .inl (cI, 6, .inl (fun _ => 0)) := (hEr15 (sb + 1 + 0) (by omega)).trans hc_r0
  have ha_r1 : adN15 (sb + 1 + 1) = aN7 := (hr15 (sb + 1 + 1) (by omega)).trans ha_r1
  have hc_r1 : EN15 (sb + 1 + 1) = .inl (cI, 6, .inl (fun _ => 0)) := (hEr15 (sb + 1 + 1) (by omega)).trans hc_r1
  have ha_r2 : adN15 (sb + 1 + 2) = aN11 := (hr15 (sb + 1 + 2) (by omega)).trans ha_r2
  have hc_r2 : EN15 (sb + 1 + 2) = .inl (cI, 6, .inl (fun _ => 0)) := (hEr15 (sb + 1 + 2) (by omega)).trans hc_r2
  have hfa : ∀ q : Nat, (q < sb + 1 ∨ sb + 11 ≤ q) → adN15 q = ad q := fun q hq => (hr15 q (by omega)).trans (hfa q hq)
  have hfr : ∀ q : Nat, (q < sb ∨ sb + 11 ≤ q) → EN15 q = E q := fun q hq => (hEr15 q (by omega)).trans (hfr q hq)
  have hc_r3 : EN15 (sb + 1 + 3) = .inl (cI, 6, .inl (fun _ => 0)) := hEk15
  have ha_r3 : adN15 (sb + 1 + 3) = aN15 := hk15
  refine f_putF (ci := 4) (v := .ref aN15) (C := RX4) (T := TX4) (N := 12) hx hb hts (by decide +kernel) tyX4 tyX4_ok nmX4 hown hG.1 hI ha_st (List.mem_append_left _ (List.mem_append_left _ (List.mem_append_left _ (List.mem_append_left _ hk)))) hc_st rfl 4 (by decide) (hts (.fieldLink RX4 25 "CoracleRaceModel$State" "soaked" "[I") (by decide +kernel)) rfl hin rfl rfl rfl (Nat.le_of_ble_eq_true rfl) dX4_init_38 (fun E17 H locs hE18 hn19 hI => ?_)
  have hc_st : E17 sb = .inr (4, [.int 0, .ref aN3, .ref aN7, .ref aN11, .ref aN15, .null, .null, .null, .null, .null, .null, .ref m50]) := hE18
  have hc_r0 : E17 (sb + 1 + 0) = .inl (cI, 6, .inl (fun _ => 0)) := (hn19 (sb + 1 + 0) (by omega)).trans hc_r0
  have hc_r1 : E17 (sb + 1 + 1) = .inl (cI, 6, .inl (fun _ => 0)) := (hn19 (sb + 1 + 1) (by omega)).trans hc_r1
  have hc_r2 : E17 (sb + 1 + 2) = .inl (cI, 6, .inl (fun _ => 0)) := (hn19 (sb + 1 + 2) (by omega)).trans hc_r2
  have hc_r3 : E17 (sb + 1 + 3) = .inl (cI, 6, .inl (fun _ => 0)) := (hn19 (sb + 1 + 3) (by omega)).trans hc_r3
  have hfr : ∀ q : Nat, (q < sb ∨ sb + 11 ≤ q) → E17 q = E q := fun q hq => (hn19 q (by omega)).trans (hfr q hq)
  refine lv_aload_n hx hb dX4_init_41 rfl (lv_at hl 0 rfl) ?_
  refine lv_bipush (v := 6) hx hb dX4_init_42 (by decide) ?_
  refine f_newi (k := sb + 1 + 4) (N := 6) hx hb (hts (.arrayClass .int) (by decide +kernel)) hG.1 hI (fG_A hG) (by decide) (by decide) (by decide) (nin_app (nin_app (nin_app (nin_app (hN (sb + 1 + 4) (by omega) (by omega)) (by omega)) (by omega)) (by omega)) (by omega)) (Nat.le_of_ble_eq_true rfl) (Nat.le_of_ble_eq_true rfl) dX4_init_44 (fun aN19 adN19 EN19 H hk19 hr19 hEk19 hEr19 hI => ?_)
  have ha_st : adN19 sb = a := (hr19 sb (by omega)).trans ha_st
  have hc_st : EN19 sb = .inr (4, [.int 0, .ref aN3, .ref aN7, .ref aN11, .ref aN15, .null, .null, .null, .null, .null, .null, .ref m50]) := (hEr19 sb (by omega)).trans hc_st
  have ha_r0 : adN19 (sb + 1 + 0) = aN3 := (hr19 (sb + 1 + 0) (by omega)).trans ha_r0
  have hc_r0 : EN19 (sb + 1 + 0) = .inl (cI, 6, .inl (fun _ => 0)) := (hEr19 (sb + 1 + 0) (by omega)).trans hc_r0
  have ha_r1 : adN19 (sb + 1 + 1) = aN7 := (hr19 (sb + 1 + 1) (by omega)).trans ha_r1
  have hc_r1 : EN19 (sb + 1 + 1) = .inl (cI, 6, .inl (fun _ => 0)) := (hEr19 (sb + 1 + 1) (by omega)).trans hc_r1
  have ha_r2 : adN19 (sb + 1 + 2) = aN11 := (hr19 (sb + 1 + 2) (by omega)).trans ha_r2
  have hc_r2 : EN19 (sb + 1 + 2) = .inl (cI, 6, .inl (fun _ => 0)) := (hEr19 (sb + 1 + 2) (by omega)).trans hc_r2
  have ha_r3 : adN19 (sb + 1 + 3) = aN15 := (hr19 (sb + 1 + 3) (by omega)).trans ha_r3
  have hc_r3 : EN19 (sb + 1 + 3) = .inl (cI, 6, .inl (fun _ => 0)) := (hEr19 (sb + 1 + 3) (by omega)).trans hc_r3
  have hfa : ∀ q : Nat, (q < sb + 1 ∨ sb + 11 ≤ q) → adN19 q = ad q := fun q hq => (hr19 q (by omega)).trans (hfa q hq)
  have hfr : ∀ q : Nat, (q < sb ∨ sb + 11 ≤ q) → EN19 q = E q := fun q hq => (hEr19 q (by omega)).trans (hfr q hq)
  have hc_r4 : EN19 (sb + 1 + 4) = .inl (cI, 6, .inl (fun _ => 0)) := hEk19
  have ha_r4 : adN19 (sb + 1 + 4) = aN19 := hk19
  refine f_putF (ci := 4) (v := .ref aN19) (C := RX4) (T := TX4) (N := 12) hx hb hts (by decide +kernel) tyX4 tyX4_ok nmX4 hown hG.1 hI ha_st (List.mem_append_left _ (List.mem_append_left _ (List.mem_append_left _ (List.mem_append_left _ (List.mem_append_left _ hk))))) hc_st rfl 5 (by decide) (hts (.fieldLink RX4 28 "CoracleRaceModel$State" "fouls" "[I") (by decide +kernel)) rfl hin rfl rfl rfl (Nat.le_of_ble_eq_true rfl) dX4_init_46 (fun E21 H locs hE22 hn23 hI => ?_)
  have hc_st : E21 sb = .inr (4, [.int 0, .ref aN3, .ref aN7, .ref aN11, .ref aN15, .ref aN19, .null, .null, .null, .null, .null, .ref m50]) := hE22
  have hc_r0 : E21 (sb + 1 + 0) = .inl (cI, 6, .inl (fun _ => 0)) := (hn23 (sb + 1 + 0) (by omega)).trans hc_r0
  have hc_r1 : E21 (sb + 1 + 1) = .inl (cI, 6, .inl (fun _ => 0)) := (hn23 (sb + 1 + 1) (by omega)).trans hc_r1
  have hc_r2 : E21 (sb + 1 + 2) = .inl (cI, 6, .inl (fun _ => 0)) := (hn23 (sb + 1 + 2) (by omega)).trans hc_r2
  have hc_r3 : E21 (sb + 1 + 3) = .inl (cI, 6, .inl (fun _ => 0)) := (hn23 (sb + 1 + 3) (by omega)).trans hc_r3
  have hc_r4 : E21 (sb + 1 + 4) = .inl (cI, 6, .inl (fun _ => 0)) := (hn23 (sb + 1 + 4) (by omega)).trans hc_r4
  have hfr : ∀ q : Nat, (q < sb ∨ sb + 11 ≤ q) → E21 q = E q := fun q hq => (hn23 q (by omega)).trans (hfr q hq)
  refine lv_aload_n hx hb dX4_init_49 rfl (lv_at hl 0 rfl) ?_
  refine lv_bipush (v := 6) hx hb dX4_init_50 (by decide) ?_
  refine f_newi (k := sb + 1 + 5) (N := 6) hx hb (hts (.arrayClass .int) (by decide +kernel)) hG.1 hI (fG_A hG) (by decide) (by decide) (by decide) (nin_app (nin_app (nin_app (nin_app (nin_app (hN (sb + 1 + 5) (by omega) (by omega)) (by omega)) (by omega)) (by omega)) (by omega)) (by omega)) (Nat.le_of_ble_eq_true rfl) (Nat.le_of_ble_eq_true rfl) dX4_init_52 (fun aN23 adN23 EN23 H hk23 hr23 hEk23 hEr23 hI => ?_)
  have ha_st : adN23 sb = a := (hr23 sb (by omega)).trans ha_st
  have hc_st : EN23 sb = .inr (4, [.int 0, .ref aN3, .ref aN7, .ref aN11, .ref aN15, .ref aN19, .null, .null, .null, .null, .null, .ref m50]) := (hEr23 sb (by omega)).trans hc_st
  have ha_r0 : adN23 (sb + 1 + 0) = aN3 := (hr23 (sb + 1 + 0) (by omega)).trans ha_r0
  have hc_r0 : EN23 (sb + 1 + 0) = .inl (cI, 6, .inl (fun _ => 0)) := (hEr23 (sb + 1 + 0) (by omega)).trans hc_r0
  have ha_r1 : adN23 (sb + 1 + 1) = aN7 := (hr23 (sb + 1 + 1) (by omega)).trans ha_r1
  have hc_r1 : EN23 (sb + 1 + 1) = .inl (cI, 6, .inl (fun _ => 0)) := (hEr23 (sb + 1 + 1) (by omega)).trans hc_r1
  have ha_r2 : adN23 (sb + 1 + 2) = aN11 := (hr23 (sb + 1 + 2) (by omega)).trans ha_r2
  have hc_r2 : EN23 (sb + 1 + 2) = .inl (cI, 6, .inl (fun _ => 0)) := (hEr23 (sb + 1 + 2) (by omega)).trans hc_r2
  have ha_r3 : adN23 (sb + 1 + 3) = aN15 := (hr23 (sb + 1 + 3) (by omega)).trans ha_r3
  have hc_r3 : EN23 (sb + 1 + 3) = .inl (cI, 6, .inl (fun _ => 0)) := (hEr23 (sb + 1 + 3) (by omega)).trans hc_r3
  have ha_r4 : adN23 (sb + 1 + 4) = aN19 := (hr23 (sb + 1 + 4) (by omega)).trans ha_r4
  have hc_r4 : EN23 (sb + 1 + 4) = .inl (cI, 6, .inl (fun _ => 0)) := (hEr23 (sb + 1 + 4) (by omega)).trans hc_r4
  have hfa : ∀ q : Nat, (q < sb + 1 ∨ sb + 11 ≤ q) → adN23 q = ad q := fun q hq => (hr23 q (by omega)).trans (hfa q hq)
  have hfr : ∀ q : Nat, (q < sb ∨ sb + 11 ≤ q) → EN23 q = E q := fun q hq => (hEr23 q (by omega)).trans (hfr q hq)
  have hc_r5 : EN23 (sb + 1 + 5) = .inl (cI, 6, .inl (fun _ => 0)) := hEk23
  have ha_r5 : adN23 (sb + 1 + 5) = aN23 := hk23
  refine f_putF (ci := 4) (v := .ref aN23) (C := RX4) (T := TX4) (N := 12) hx hb hts (by decide +kernel) tyX4 tyX4_ok nmX4 hown hG.1 hI ha_st (List.mem_append_left _ (List.mem_append_left _ (List.mem_append_left _ (List.mem_append_left _ (List.mem_append_left _ (List.mem_append_left _ hk)))))) hc_st rfl 6 (by decide) (hts (.fieldLink RX4 31 "CoracleRaceModel$State" "came" "[I") (by decide +kernel)) rfl hin rfl rfl rfl (Nat.le_of_ble_eq_true rfl) dX4_init_54 (fun E25 H locs hE26 hn27 hI => ?_)
  have hc_st : E25 sb = .inr (4, [.int 0, .ref aN3, .ref aN7, .ref aN11, .ref aN15, .ref aN19, .ref aN23, .null, .null, .null, .null, .ref m50]) := hE26
  have hc_r0 : E25 (sb + 1 + 0) = .inl (cI, 6, .inl (fun _ => 0)) := (hn27 (sb + 1 + 0) (by omega)).trans hc_r0
  have hc_r1 : E25 (sb + 1 + 1) = .inl (cI, 6, .inl (fun _ => 0)) := (hn27 (sb + 1 + 1) (by omega)).trans hc_r1
  have hc_r2 : E25 (sb + 1 + 2) = .inl (cI, 6, .inl (fun _ => 0)) := (hn27 (sb + 1 + 2) (by omega)).trans hc_r2
  have hc_r3 : E25 (sb + 1 + 3) = .inl (cI, 6, .inl (fun _ => 0)) := (hn27 (sb + 1 + 3) (by omega)).trans hc_r3
  have hc_r4 : E25 (sb + 1 + 4) = .inl (cI, 6, .inl (fun _ => 0)) := (hn27 (sb + 1 + 4) (by omega)).trans hc_r4
  have hc_r5 : E25 (sb + 1 + 5) = .inl (cI, 6, .inl (fun _ => 0)) := (hn27 (sb + 1 + 5) (by omega)).trans hc_r5
  have hfr : ∀ q : Nat, (q < sb ∨ sb + 11 ≤ q) → E25 q = E q := fun q hq => (hn27 q (by omega)).trans (hfr q hq)
  refine lv_aload_n hx hb dX4_init_57 rfl (lv_at hl 0 rfl) ?_
  refine lv_bipush (v := 6) hx hb dX4_init_58 (by decide) ?_
  refine f_newi (k := sb + 1 + 6) (N := 6) hx hb (hts (.arrayClass .int) (by decide +kernel)) hG.1 hI (fG_A hG) (by decide) (by decide) (by decide) (nin_app (nin_app (nin_app (nin_app (nin_app (nin_app (hN (sb + 1 + 6) (by omega) (by omega)) (by omega)) (by omega)) (by omega)) (by omega)) (by omega)) (by omega)) (Nat.le_of_ble_eq_true rfl) (Nat.le_of_ble_eq_true rfl) dX4_init_60 (fun aN27 adN27 EN27 H hk27 hr27 hEk27 hEr27 hI => ?_)
  have ha_st : adN27 sb = a := (hr27 sb (by omega)).trans ha_st
  have hc_st : EN27 sb = .inr (4, [.int 0, .ref aN3, .ref aN7, .ref aN11, .ref aN15, .ref aN19, .ref aN23, .null, .null, .null, .null, .ref m50]) := (hEr27 sb (by omega)).trans hc_st
  have ha_r0 : adN27 (sb + 1 + 0) = aN3 := (hr27 (sb + 1 + 0) (by omega)).trans ha_r0
  have hc_r0 : EN27 (sb + 1 + 0) = .inl (cI, 6, .inl (fun _ => 0)) := (hEr27 (sb + 1 + 0) (by omega)).trans hc_r0
  have ha_r1 : adN27 (sb + 1 + 1) = aN7 := (hr27 (sb + 1 + 1) (by omega)).trans ha_r1
  have hc_r1 : EN27 (sb + 1 + 1) = .inl (cI, 6, .inl (fun _ => 0)) := (hEr27 (sb + 1 + 1) (by omega)).trans hc_r1
  have ha_r2 : adN27 (sb + 1 + 2) = aN11 := (hr27 (sb + 1 + 2) (by omega)).trans ha_r2
  have hc_r2 : EN27 (sb + 1 + 2) = .inl (cI, 6, .inl (fun _ => 0)) := (hEr27 (sb + 1 + 2) (by omega)).trans hc_r2
  have ha_r3 : adN27 (sb + 1 + 3) = aN15 := (hr27 (sb + 1 + 3) (by omega)).trans ha_r3
  have hc_r3 : EN27 (sb + 1 + 3) = .inl (cI, 6, .inl (fun _ => 0)) := (hEr27 (sb + 1 + 3) (by omega)).trans hc_r3
  have ha_r4 : adN27 (sb + 1 + 4) = aN19 := (hr27 (sb + 1 + 4) (by omega)).trans ha_r4
  have hc_r4 : EN27 (sb + 1 + 4) = .inl (cI, 6, .inl (fun _ => 0)) := (hEr27 (sb + 1 + 4) (by omega)).trans hc_r4
  have ha_r5 : adN27 (sb + 1 + 5) = aN23 := (hr27 (sb + 1 + 5) (by omega)).trans ha_r5
  have hc_r5 : EN27 (sb + 1 + 5) = .inl (cI, 6, .inl (fun _ => 0)) := (hEr27 (sb + 1 + 5) (by omega)).trans hc_r5
  have hfa : ∀ q : Nat, (q < sb + 1 ∨ sb + 11 ≤ q) → adN27 q = ad q := fun q hq => (hr27 q (by omega)).trans (hfa q hq)
  have hfr : ∀ q : Nat, (q < sb ∨ sb + 11 ≤ q) → EN27 q = E q := fun q hq => (hEr27 q (by omega)).trans (hfr q hq)
  have hc_r6 : EN27 (sb + 1 + 6) = .inl (cI, 6, .inl (fun _ => 0)) := hEk27
  have ha_r6 : adN27 (sb + 1 + 6) = aN27 := hk27
  refine f_putF (ci := 4) (v := .ref aN27) (C := RX4) (T := TX4) (N := 12) hx hb hts (by decide +kernel) tyX4 tyX4_ok nmX4 hown hG.1 hI ha_st (List.mem_append_left _ (List.mem_append_left _ (List.mem_append_left _ (List.mem_append_left _ (List.mem_append_left _ (List.mem_append_left _ (List.mem_append_left _ hk))))))) hc_st rfl 7 (by decide) (hts (.fieldLink RX4 34 "CoracleRaceModel$State" "spins" "[I") (by decide +kernel)) rfl hin rfl rfl rfl (Nat.le_of_ble_eq_true rfl) dX4_init_62 (fun E29 H locs hE30 hn31 hI => ?_)
  have hc_st : E29 sb = .inr (4, [.int 0, .ref aN3, .ref aN7, .ref aN11, .ref aN15, .ref aN19, .ref aN23, .ref aN27, .null, .null, .null, .ref m50]) := hE30
  have hc_r0 : E29 (sb + 1 + 0) = .inl (cI, 6, .inl (fun _ => 0)) := (hn31 (sb + 1 + 0) (by omega)).trans hc_r0
  have hc_r1 : E29 (sb + 1 + 1) = .inl (cI, 6, .inl (fun _ => 0)) := (hn31 (sb + 1 + 1) (by omega)).trans hc_r1
  have hc_r2 : E29 (sb + 1 + 2) = .inl (cI, 6, .inl (fun _ => 0)) := (hn31 (sb + 1 + 2) (by omega)).trans hc_r2
  have hc_r3 : E29 (sb + 1 + 3) = .inl (cI, 6, .inl (fun _ => 0)) := (hn31 (sb + 1 + 3) (by omega)).trans hc_r3
  have hc_r4 : E29 (sb + 1 + 4) = .inl (cI, 6, .inl (fun _ => 0)) := (hn31 (sb + 1 + 4) (by omega)).trans hc_r4
  have hc_r5 : E29 (sb + 1 + 5) = .inl (cI, 6, .inl (fun _ => 0)) := (hn31 (sb + 1 + 5) (by omega)).trans hc_r5
  have hc_r6 : E29 (sb + 1 + 6) = .inl (cI, 6, .inl (fun _ => 0)) := (hn31 (sb + 1 + 6) (by omega)).trans hc_r6
  have hfr : ∀ q : Nat, (q < sb ∨ sb + 11 ≤ q) → E29 q = E q := fun q hq => (hn31 q (by omega)).trans (hfr q hq)
  refine lv_aload_n hx hb dX4_init_65 rfl (lv_at hl 0 rfl) ?_
  refine lv_bipush (v := 6) hx hb dX4_init_66 (by decide) ?_
  refine f_newi (k := sb + 1 + 7) (N := 6) hx hb (hts (.arrayClass .int) (by decide +kernel)) hG.1 hI (fG_A hG) (by decide) (by decide) (by decide) (nin_app (nin_app (nin_app (nin_app (nin_app (nin_app (nin_app (hN (sb + 1 + 7) (by omega) (by omega)) (by omega)) (by omega)) (by omega)) (by omega)) (by omega)) (by omega)) (by omega)) (Nat.le_of_ble_eq_true rfl) (Nat.le_of_ble_eq_true rfl) dX4_init_68 (fun aN31 adN31 EN31 H hk31 hr31 hEk31 hEr31 hI => ?_)
  have ha_st : adN31 sb = a := (hr31 sb (by omega)).trans ha_st
  have hc_st : EN31 sb = .inr (4, [.int 0, .ref aN3, .ref aN7, .ref aN11, .ref aN15, .ref aN19, .ref aN23, .ref aN27, .null, .null, .null, .ref m50]) := (hEr31 sb (by omega)).trans hc_st
  have ha_r0 : adN31 (sb + 1 + 0) = aN3 := (hr31 (sb + 1 + 0) (by omega)).trans ha_r0
  have hc_r0 : EN31 (sb + 1 + 0) = .inl (cI, 6, .inl (fun _ => 0)) := (hEr31 (sb + 1 + 0) (by omega)).trans hc_r0
  have ha_r1 : adN31 (sb + 1 + 1) = aN7 := (hr31 (sb + 1 + 1) (by omega)).trans ha_r1
  have hc_r1 : EN31 (sb + 1 + 1) = .inl (cI, 6, .inl (fun _ => 0)) := (hEr31 (sb + 1 + 1) (by omega)).trans hc_r1
  have ha_r2 : adN31 (sb + 1 + 2) = aN11 := (hr31 (sb + 1 + 2) (by omega)).trans ha_r2
  have hc_r2 : EN31 (sb + 1 + 2) = .inl (cI, 6, .inl (fun _ => 0)) := (hEr31 (sb + 1 + 2) (by omega)).trans hc_r2
  have ha_r3 : adN31 (sb + 1 + 3) = aN15 := (hr31 (sb + 1 + 3) (by omega)).trans ha_r3
  have hc_r3 : EN31 (sb + 1 + 3) = .inl (cI, 6, .inl (fun _ => 0)) := (hEr31 (sb + 1 + 3) (by omega)).trans hc_r3
  have ha_r4 : adN31 (sb + 1 + 4) = aN19 := (hr31 (sb + 1 + 4) (by omega)).trans ha_r4
  have hc_r4 : EN31 (sb + 1 + 4) = .inl (cI, 6, .inl (fun _ => 0)) := (hEr31 (sb + 1 + 4) (by omega)).trans hc_r4
  have ha_r5 : adN31 (sb + 1 + 5) = aN23 := (hr31 (sb + 1 + 5) (by omega)).trans ha_r5
  have hc_r5 : EN31 (sb + 1 + 5) = .inl (cI, 6, .inl (fun _ => 0)) := (hEr31 (sb + 1 + 5) (by omega)).trans hc_r5
  have ha_r6 : adN31 (sb + 1 + 6) = aN27 := (hr31 (sb + 1 + 6) (by omega)).trans ha_r6
  have hc_r6 : EN31 (sb + 1 + 6) = .inl (cI, 6, .inl (fun _ => 0)) := (hEr31 (sb + 1 + 6) (by omega)).trans hc_r6
  have hfa : ∀ q : Nat, (q < sb + 1 ∨ sb + 11 ≤ q) → adN31 q = ad q := fun q hq => (hr31 q (by omega)).trans (hfa q hq)
  have hfr : ∀ q : Nat, (q < sb ∨ sb + 11 ≤ q) → EN31 q = E q := fun q hq => (hEr31 q (by omega)).trans (hfr q hq)
  have hc_r7 : EN31 (sb + 1 + 7) = .inl (cI, 6, .inl (fun _ => 0)) := hEk31
  have ha_r7 : adN31 (sb + 1 + 7) = aN31 := hk31
  refine f_putF (ci := 4) (v := .ref aN31) (C := RX4) (T := TX4) (N := 12) hx hb hts (by decide +kernel) tyX4 tyX4_ok nmX4 hown hG.1 hI ha_st (List.mem_append_left _ (List.mem_append_left _ (List.mem_append_left _ (List.mem_append_left _ (List.mem_append_left _ (List.mem_append_left _ (List.mem_append_left _ (List.mem_append_left _ hk)))))))) hc_st rfl 8 (by decide) (hts (.fieldLink RX4 37 "CoracleRaceModel$State" "stops" "[I") (by decide +kernel)) rfl hin rfl rfl rfl (Nat.le_of_ble_eq_true rfl) dX4_init_70 (fun E33 H locs hE34 hn35 hI => ?_)
  have hc_st : E33 sb = .inr (4, [.int 0, .ref aN3, .ref aN7, .ref aN11, .ref aN15, .ref aN19, .ref aN23, .ref aN27, .ref aN31, .null, .null, .ref m50]) := hE34
  have hc_r0 : E33 (sb + 1 + 0) = .inl (cI, 6, .inl (fun _ => 0)) := (hn35 (sb + 1 + 0) (by omega)).trans hc_r0
  have hc_r1 : E33 (sb + 1 + 1) = .inl (cI, 6, .inl (fun _ => 0)) := (hn35 (sb + 1 + 1) (by omega)).trans hc_r1
  have hc_r2 : E33 (sb + 1 + 2) = .inl (cI, 6, .inl (fun _ => 0)) := (hn35 (sb + 1 + 2) (by omega)).trans hc_r2
  have hc_r3 : E33 (sb + 1 + 3) = .inl (cI, 6, .inl (fun _ => 0)) := (hn35 (sb + 1 + 3) (by omega)).trans hc_r3
  have hc_r4 : E33 (sb + 1 + 4) = .inl (cI, 6, .inl (fun _ => 0)) := (hn35 (sb + 1 + 4) (by omega)).trans hc_r4
  have hc_r5 : E33 (sb + 1 + 5) = .inl (cI, 6, .inl (fun _ => 0)) := (hn35 (sb + 1 + 5) (by omega)).trans hc_r5
  have hc_r6 : E33 (sb + 1 + 6) = .inl (cI, 6, .inl (fun _ => 0)) := (hn35 (sb + 1 + 6) (by omega)).trans hc_r6
  have hc_r7 : E33 (sb + 1 + 7) = .inl (cI, 6, .inl (fun _ => 0)) := (hn35 (sb + 1 + 7) (by omega)).trans hc_r7
  have hfr : ∀ q : Nat, (q < sb ∨ sb + 11 ≤ q) → E33 q = E q := fun q hq => (hn35 q (by omega)).trans (hfr q hq)
  refine lv_aload_n hx hb dX4_init_73 rfl (lv_at hl 0 rfl) ?_
  refine lv_bipush (v := 6) hx hb dX4_init_74 (by decide) ?_
  refine f_newi (k := sb + 1 + 8) (N := 6) hx hb (hts (.arrayClass .int) (by decide +kernel)) hG.1 hI (fG_A hG) (by decide) (by decide) (by decide) (nin_app (nin_app (nin_app (nin_app (nin_app (nin_app (nin_app (nin_app (hN (sb + 1 + 8) (by omega) (by omega)) (by omega)) (by omega)) (by omega)) (by omega)) (by omega)) (by omega)) (by omega)) (by omega)) (Nat.le_of_ble_eq_true rfl) (Nat.le_of_ble_eq_true rfl) dX4_init_76 (fun aN35 adN35 EN35 H hk35 hr35 hEk35 hEr35 hI => ?_)
  have ha_st : adN35 sb = a := (hr35 sb (by omega)).trans ha_st
  have hc_st : EN35 sb = .inr (4, [.int 0, .ref aN3, .ref aN7, .ref aN11, .ref aN15, .ref aN19, .ref aN23, .ref aN27, .ref aN31, .null, .null, .ref m50]) := (hEr35 sb (by omega)).trans hc_st
  have ha_r0 : adN35 (sb + 1 + 0) = aN3 := (hr35 (sb + 1 + 0) (by omega)).trans ha_r0
  have hc_r0 : EN35 (sb + 1 + 0) = .inl (cI, 6, .inl (fun _ => 0)) := (hEr35 (sb + 1 + 0) (by omega)).trans hc_r0
  have ha_r1 : adN35 (sb + 1 + 1) = aN7 := (hr35 (sb + 1 + 1) (by omega)).trans ha_r1
  have hc_r1 : EN35 (sb + 1 + 1) = .inl (cI, 6, .inl (fun _ => 0)) := (hEr35 (sb + 1 + 1) (by omega)).trans hc_r1
  have ha_r2 : adN35 (sb + 1 + 2) = aN11 := (hr35 (sb + 1 + 2) (by omega)).trans ha_r2
  have hc_r2 : EN35 (sb + 1 + 2) = .inl (cI, 6, .inl (fun _ => 0)) := (hEr35 (sb + 1 + 2) (by omega)).trans hc_r2
  have ha_r3 : adN35 (sb + 1 + 3) = aN15 := (hr35 (sb + 1 + 3) (by omega)).trans ha_r3
  have hc_r3 : EN35 (sb + 1 + 3) = .inl (cI, 6, .inl (fun _ => 0)) := (hEr35 (sb + 1 + 3) (by omega)).trans hc_r3
  have ha_r4 : adN35 (sb + 1 + 4) = aN19 := (hr35 (sb + 1 + 4) (by omega)).trans ha_r4
  have hc_r4 : EN35 (sb + 1 + 4) = .inl (cI, 6, .inl (fun _ => 0)) := (hEr35 (sb + 1 + 4) (by omega)).trans hc_r4
  have ha_r5 : adN35 (sb + 1 + 5) = aN23 := (hr35 (sb + 1 + 5) (by omega)).trans ha_r5
  have hc_r5 : EN35 (sb + 1 + 5) = .inl (cI, 6, .inl (fun _ => 0)) := (hEr35 (sb + 1 + 5) (by omega)).trans hc_r5
  have ha_r6 : adN35 (sb + 1 + 6) = aN27 := (hr35 (sb + 1 + 6) (by omega)).trans ha_r6
  have hc_r6 : EN35 (sb + 1 + 6) = .inl (cI, 6, .inl (fun _ => 0)) := (hEr35 (sb + 1 + 6) (by omega)).trans hc_r6
  have ha_r7 : adN35 (sb + 1 + 7) = aN31 := (hr35 (sb + 1 + 7) (by omega)).trans ha_r7
  have hc_r7 : EN35 (sb + 1 + 7) = .inl (cI, 6, .inl (fun _ => 0)) := (hEr35 (sb + 1 + 7) (by omega)).trans hc_r7
  have hfa : ∀ q : Nat, (q < sb + 1 ∨ sb + 11 ≤ q) → adN35 q = ad q := fun q hq => (hr35 q (by omega)).trans (hfa q hq)
  have hfr : ∀ q : Nat, (q < sb ∨ sb + 11 ≤ q) → EN35 q = E q := fun q hq => (hEr35 q (by omega)).trans (hfr q hq)
  have hc_r8 : EN35 (sb + 1 + 8) = .inl (cI, 6, .inl (fun _ => 0)) := hEk35
  have ha_r8 : adN35 (sb + 1 + 8) = aN35 := hk35
  refine f_putF (ci := 4) (v := .ref aN35) (C := RX4) (T := TX4) (N := 12) hx hb hts (by decide +kernel) tyX4 tyX4_ok nmX4 hown hG.1 hI ha_st (List.mem_append_left _ (List.mem_append_left _ (List.mem_append_left _ (List.mem_append_left _ (List.mem_append_left _ (List.mem_append_left _ (List.mem_append_left _ (List.mem_append_left _ (List.mem_append_left _ hk))))))))) hc_st rfl 9 (by decide) (hts (.fieldLink RX4 40 "CoracleRaceModel$State" "length" "[I") (by decide +kernel)) rfl hin rfl rfl rfl (Nat.le_of_ble_eq_true rfl) dX4_init_78 (fun E37 H locs hE38 hn39 hI => ?_)
  have hc_st : E37 sb = .inr (4, [.int 0, .ref aN3, .ref aN7, .ref aN11, .ref aN15, .ref aN19, .ref aN23, .ref aN27, .ref aN31, .ref aN35, .null, .ref m50]) := hE38
  have hc_r0 : E37 (sb + 1 + 0) = .inl (cI, 6, .inl (fun _ => 0)) := (hn39 (sb + 1 + 0) (by omega)).trans hc_r0
  have hc_r1 : E37 (sb + 1 + 1) = .inl (cI, 6, .inl (fun _ => 0)) := (hn39 (sb + 1 + 1) (by omega)).trans hc_r1
  have hc_r2 : E37 (sb + 1 + 2) = .inl (cI, 6, .inl (fun _ => 0)) := (hn39 (sb + 1 + 2) (by omega)).trans hc_r2
  have hc_r3 : E37 (sb + 1 + 3) = .inl (cI, 6, .inl (fun _ => 0)) := (hn39 (sb + 1 + 3) (by omega)).trans hc_r3
  have hc_r4 : E37 (sb + 1 + 4) = .inl (cI, 6, .inl (fun _ => 0)) := (hn39 (sb + 1 + 4) (by omega)).trans hc_r4
  have hc_r5 : E37 (sb + 1 + 5) = .inl (cI, 6, .inl (fun _ => 0)) := (hn39 (sb + 1 + 5) (by omega)).trans hc_r5
  have hc_r6 : E37 (sb + 1 + 6) = .inl (cI, 6, .inl (fun _ => 0)) := (hn39 (sb + 1 + 6) (by omega)).trans hc_r6
  have hc_r7 : E37 (sb + 1 + 7) = .inl (cI, 6, .inl (fun _ => 0)) := (hn39 (sb + 1 + 7) (by omega)).trans hc_r7
  have hc_r8 : E37 (sb + 1 + 8) = .inl (cI, 6, .inl (fun _ => 0)) := (hn39 (sb + 1 + 8) (by omega)).trans hc_r8
  have hfr : ∀ q : Nat, (q < sb ∨ sb + 11 ≤ q) → E37 q = E q := fun q hq => (hn39 q (by omega)).trans (hfr q hq)
  refine lv_aload_n hx hb dX4_init_81 rfl (lv_at hl 0 rfl) ?_
  refine lv_bipush (v := 6) hx hb dX4_init_82 (by decide) ?_
  refine f_newi (k := sb + 1 + 9) (N := 6) hx hb (hts (.arrayClass .int) (by decide +kernel)) hG.1 hI (fG_A hG) (by decide) (by decide) (by decide) (nin_app (nin_app (nin_app (nin_app (nin_app (nin_app (nin_app (nin_app (nin_app (hN (sb + 1 + 9) (by omega) (by omega)) (by omega)) (by omega)) (by omega)) (by omega)) (by omega)) (by omega)) (by omega)) (by omega)) (by omega)) (Nat.le_of_ble_eq_true rfl) (Nat.le_of_ble_eq_true rfl) dX4_init_84 (fun aN39 adN39 EN39 H hk39 hr39 hEk39 hEr39 hI => ?_)
  have ha_st : adN39 sb = a := (hr39 sb (by omega)).trans ha_st
  have hc_st : EN39 sb = .inr (4, [.int 0, .ref aN3, .ref aN7, .ref aN11, .ref aN15, .ref aN19, .ref aN23, .ref aN27, .ref aN31, .ref aN35, .null, .ref m50]) := (hEr39 sb (by omega)).trans hc_st
  have ha_r0 : adN39 (sb + 1 + 0) = aN3 := (hr39 (sb + 1 + 0) (by omega)).trans ha_r0
  have hc_r0 : EN39 (sb + 1 + 0) = .inl (cI, 6, .inl (fun _ => 0)) := (hEr39 (sb + 1 + 0) (by omega)).trans hc_r0
  have ha_r1 : adN39 (sb + 1 + 1) = aN7 := (hr39 (sb + 1 + 1) (by omega)).trans ha_r1
  have hc_r1 : EN39 (sb + 1 + 1) = .inl (cI, 6, .inl (fun _ => 0)) := (hEr39 (sb + 1 + 1) (by omega)).trans hc_r1
  have ha_r2 : adN39 (sb + 1 + 2) = aN11 := (hr39 (sb + 1 + 2) (by omega)).trans ha_r2
  have hc_r2 : EN39 (sb + 1 + 2) = .inl (cI, 6, .inl (fun _ => 0)) := (hEr39 (sb + 1 + 2) (by omega)).trans hc_r2
  have ha_r3 : adN39 (sb + 1 + 3) = aN15 := (hr39 (sb + 1 + 3) (by omega)).trans ha_r3
  have hc_r3 : EN39 (sb + 1 + 3) = .inl (cI, 6, .inl (fun _ => 0)) := (hEr39 (sb + 1 + 3) (by omega)).trans hc_r3
  have ha_r4 : adN39 (sb + 1 + 4) = aN19 := (hr39 (sb + 1 + 4) (by omega)).trans ha_r4
  have hc_r4 : EN39 (sb + 1 + 4) = .inl (cI, 6, .inl (fun _ => 0)) := (hEr39 (sb + 1 + 4) (by omega)).trans hc_r4
  have ha_r5 : adN39 (sb + 1 + 5) = aN23 := (hr39 (sb + 1 + 5) (by omega)).trans ha_r5
  have hc_r5 : EN39 (sb + 1 + 5) = .inl (cI, 6, .inl (fun _ => 0)) := (hEr39 (sb + 1 + 5) (by omega)).trans hc_r5
  have ha_r6 : adN39 (sb + 1 + 6) = aN27 := (hr39 (sb + 1 + 6) (by omega)).trans ha_r6
  have hc_r6 : EN39 (sb + 1 + 6) = .inl (cI, 6, .inl (fun _ => 0)) := (hEr39 (sb + 1 + 6) (by omega)).trans hc_r6
  have ha_r7 : adN39 (sb + 1 + 7) = aN31 := (hr39 (sb + 1 + 7) (by omega)).trans ha_r7
  have hc_r7 : EN39 (sb + 1 + 7) = .inl (cI, 6, .inl (fun _ => 0)) := (hEr39 (sb + 1 + 7) (by omega)).trans hc_r7
  have ha_r8 : adN39 (sb + 1 + 8) = aN35 := (hr39 (sb + 1 + 8) (by omega)).trans ha_r8
  have hc_r8 : EN39 (sb + 1 + 8) = .inl (cI, 6, .inl (fun _ => 0)) := (hEr39 (sb + 1 + 8) (by omega)).trans hc_r8
  have hfa : ∀ q : Nat, (q < sb + 1 ∨ sb + 11 ≤ q) → adN39 q = ad q := fun q hq => (hr39 q (by omega)).trans (hfa q hq)
  have hfr : ∀ q : Nat, (q < sb ∨ sb + 11 ≤ q) → EN39 q = E q := fun q hq => (hEr39 q (by omega)).trans (hfr q hq)
  have hc_r9 : EN39 (sb + 1 + 9) = .inl (cI, 6, .inl (fun _ => 0)) := hEk39
  have ha_r9 : adN39 (sb + 1 + 9) = aN39 := hk39
  refine f_putF (ci := 4) (v := .ref aN39) (C := RX4) (T := TX4) (N := 12) hx hb hts (by decide +kernel) tyX4 tyX4_ok nmX4 hown hG.1 hI ha_st (List.mem_append_left _ (List.mem_append_left _ (List.mem_append_left _ (List.mem_append_left _ (List.mem_append_left _ (List.mem_append_left _ (List.mem_append_left _ (List.mem_append_left _ (List.mem_append_left _ (List.mem_append_left _ hk)))))))))) hc_st rfl 10 (by decide) (hts (.fieldLink RX4 43 "CoracleRaceModel$State" "strokes" "[I") (by decide +kernel)) rfl hin rfl rfl rfl (Nat.le_of_ble_eq_true rfl) dX4_init_86 (fun E41 H locs hE42 hn43 hI => ?_)
  have hc_st : E41 sb = .inr (4, [.int 0, .ref aN3, .ref aN7, .ref aN11, .ref aN15, .ref aN19, .ref aN23, .ref aN27, .ref aN31, .ref aN35, .ref aN39, .ref m50]) := hE42
  have hc_r0 : E41 (sb + 1 + 0) = .inl (cI, 6, .inl (fun _ => 0)) := (hn43 (sb + 1 + 0) (by omega)).trans hc_r0
  have hc_r1 : E41 (sb + 1 + 1) = .inl (cI, 6, .inl (fun _ => 0)) := (hn43 (sb + 1 + 1) (by omega)).trans hc_r1
  have hc_r2 : E41 (sb + 1 + 2) = .inl (cI, 6, .inl (fun _ => 0)) := (hn43 (sb + 1 + 2) (by omega)).trans hc_r2
  have hc_r3 : E41 (sb + 1 + 3) = .inl (cI, 6, .inl (fun _ => 0)) := (hn43 (sb + 1 + 3) (by omega)).trans hc_r3
  have hc_r4 : E41 (sb + 1 + 4) = .inl (cI, 6, .inl (fun _ => 0)) := (hn43 (sb + 1 + 4) (by omega)).trans hc_r4
  have hc_r5 : E41 (sb + 1 + 5) = .inl (cI, 6, .inl (fun _ => 0)) := (hn43 (sb + 1 + 5) (by omega)).trans hc_r5
  have hc_r6 : E41 (sb + 1 + 6) = .inl (cI, 6, .inl (fun _ => 0)) := (hn43 (sb + 1 + 6) (by omega)).trans hc_r6
  have hc_r7 : E41 (sb + 1 + 7) = .inl (cI, 6, .inl (fun _ => 0)) := (hn43 (sb + 1 + 7) (by omega)).trans hc_r7
  have hc_r8 : E41 (sb + 1 + 8) = .inl (cI, 6, .inl (fun _ => 0)) := (hn43 (sb + 1 + 8) (by omega)).trans hc_r8
  have hc_r9 : E41 (sb + 1 + 9) = .inl (cI, 6, .inl (fun _ => 0)) := (hn43 (sb + 1 + 9) (by omega)).trans hc_r9
  have hfr : ∀ q : Nat, (q < sb ∨ sb + 11 ≤ q) → E41 q = E q := fun q hq => (hn43 q (by omega)).trans (hfr q hq)
  exact f_retv hQ hx hb hr hlocks hI.2.2 (by omega) (by omega) dX4_init_89 (adN39, E41) (fB_of hI) (⟨hfa, hfr, hc_st.trans (by rw [← ha_r0, ← ha_r1, ← ha_r2, ← ha_r3, ← ha_r4, ← ha_r5, ← ha_r6, ← ha_r7, ← ha_r8, ← ha_r9, ← (hfa 50 (by omega)).trans h50]; rfl), fun j hj => by rcases (show j = 0 ∨ j = 1 ∨ j = 2 ∨ j = 3 ∨ j = 4 ∨ j = 5 ∨ j = 6 ∨ j = 7 ∨ j = 8 ∨ j = 9 by omega) with rfl | rfl | rfl | rfl | rfl | rfl | rfl | rfl | rfl | rfl; exact hc_r0; exact hc_r1; exact hc_r2; exact hc_r3; exact hc_r4; exact hc_r5; exact hc_r6; exact hc_r7; exact hc_r8; exact hc_r9⟩)

set_option maxHeartbeats 4000000 in
set_option maxRecDepth 100000 in
theorem m_X3_init (l : Launch) {D : va_G} {cI cJ cB : ClassId} {t0 z : Nat} {tx ad : Nat → Nat} {L : List Nat} {E : Nat → va_E} {a : Nat} (ha : ad 0 = a) (hk : 0 ∈ L) (hN : ∀ k, 1 ≤ k → k < 44 → k ∉ L) (hC : E 0 = .inr (3, [.null, .null, .null])) : Met l yX3_init wsX3_init ({ frames := 3, cells := 32, slots := 255, locals := 61 } : Room) (va_Pc [.ref a] (fPre D cI cJ cB t0 z tx ad L E)) (va_Qv (fun (u : (Nat → Nat) × (Nat → va_E)) => (∀ q : Nat, (q = 0 ∨ 44 ≤ q) → u.1 q = ad q) ∧ (∀ q : Nat, 44 ≤ q → u.2 q = E q) ∧ x_at cI cB u.1 u.2 w_new (fun _ => 0) (fun _ => 0) 0 0 0 (fun _ => b_new) (fun _ _ => 0)) (fun u t => fB D z u.1 (L ++ [1] ++ [2] ++ [3] ++ [4] ++ [10] ++ [10 + 1] ++ [10 + 2 + 2 * 0] ++ [10 + 2 + 2 * 0 + 1] ++ [10 + 2 + 2 * 1] ++ [10 + 2 + 2 * 1 + 1] ++ [10 + 2 + 2 * 2] ++ [10 + 2 + 2 * 2 + 1] ++ [10 + 2 + 2 * 3] ++ [10 + 2 + 2 * 3 + 1] ++ [10 + 2 + 2 * 4] ++ [10 + 2 + 2 * 4 + 1] ++ [10 + 2 + 2 * 5] ++ [10 + 2 + 2 * 5 + 1] ++ [30] ++ [30 + 1] ++ [30 + 2 + 2 * 0] ++ [30 + 2 + 2 * 0 + 1] ++ [30 + 2 + 2 * 1] ++ [30 + 2 + 2 * 1 + 1] ++ [30 + 2 + 2 * 2] ++ [30 + 2 + 2 * 2 + 1] ++ [30 + 2 + 2 * 3] ++ [30 + 2 + 2 * 3 + 1] ++ [30 + 2 + 2 * 4] ++ [30 + 2 + 2 * 4 + 1] ++ [30 + 2 + 2 * 5] ++ [30 + 2 + 2 * 5 + 1]) u.2 t) (fA z)) 32 255 (fA z) := by
  refine f_ofW (cc := cX3_init) (maxL := 1) (ret := none) (by decide) rfl (Nat.le_of_ble_eq_true rfl) ?_
  intro pr e s m args below meth c Q hx hb hr hml hts hown hlocks hin hG H locs hI hQ ls hl
  have hl : lv_has ls 1 [(0, .ref a)] := hl
  have hfr : ∀ q : Nat, 44 ≤ q → E q = E q := fun _ _ => rfl
  have hfa : ∀ q : Nat, (q = 0 ∨ 44 ≤ q) → ad q = ad q := fun _ _ => rfl
  have hC : E 0 = .inr (3, [.null, .null, .null]) := hC
  refine lv_aload_n hx hb dX3_init_0 rfl (lv_at hl 0 rfl) ?_
  refine W.objInit hx hb hown (hts (.methodLink RX3 1 objectInit) (by decide +kernel)) (hts (.instanceMethod objectInit) (by decide +kernel)) (hts (.code objectInit ⟨#[0xb1]⟩ 1 none) (by decide +kernel)) rfl (by rw [hml]; exact hl.1) rfl dX3_init_1 (Nat.le_of_ble_eq_true rfl) (Nat.le_of_ble_eq_true rfl) ?_
  refine W.eq (g2 := F0 m 4 ls []) rfl ?_
  refine lv_aload_n hx hb dX3_init_4 rfl (lv_at hl 0 rfl) ?_
  refine f_new (ci := 2) (C := RX2) (T := TX2) (N := 4) (k := 1) (fs := [.null, .null, .null, .int 0]) hx hb hts (by decide +kernel) tyX2 tyX2_ok hown (hts (.classLink RX3 7 RX2) (by decide +kernel)) (hts (.instantiable RX2 4) (by decide +kernel)) (hts (.initialized RX2) (by decide +kernel)) hG.1 hI (fG_A hG) rfl (by decide) (hN 1 (by omega) (by omega)) (Nat.le_of_ble_eq_true rfl) (Nat.le_of_ble_eq_true rfl) dX3_init_5 (fun aN0 adN0 EN0 H hk0 hr0 hEk0 hEr0 hI => ?_)
  have ha_x0 : adN0 0 = a := (hr0 0 (by omega)).trans ha
  have hc_x0 : EN0 0 = .inr (3, [.null, .null, .null]) := (hEr0 0 (by omega)).trans hC
  have hfa : ∀ q : Nat, (q = 0 ∨ 44 ≤ q) → adN0 q = ad q := fun q hq => (hr0 q (by omega)).trans (hfa q hq)
  have hfr : ∀ q : Nat, 44 ≤ q → EN0 q = E q := fun q hq => (hEr0 q (by omega)).trans (hfr q hq)
  have hc_kr : EN0 1 = .inr (2, [.null, .null, .null, .int 0]) := hEk0
  have ha_kr : adN0 1 = aN0 := hk0
  refine lv_dup hx hb dX3_init_8 rfl ?_
  refine f_callc (va_runIN (As := []) (rest := [.ref aN0, .ref a]) ⟨hx, hb, hml, hown, hts⟩ (m_X2_init l ha_kr in_last (fun k h1 h2 => (nin_app (hN k (by omega) (by omega)) (by omega))) hc_kr) ⟨va_cnB 0 hts gX3_init_X2_init_n9 rfl rfl rfl (hG.2.1 (.methodLinkNest RX3 9 yX2_init RX3) (by simp [fNest])) (hts (.initialized RX2) (by decide +kernel)) (by decide +kernel) ⟨(Nat.le_of_ble_eq_true rfl), (Nat.le_of_ble_eq_true rfl)⟩, rfl, (hts (.instanceMethod yX2_init) (by decide +kernel))⟩ (fPre_of hG hI) rfl rfl hl.1 rfl (lv_room (Nat.le_of_ble_eq_true rfl)) dX3_init_9 ⟨(Nat.le_of_ble_eq_true rfl), (Nat.le_of_ble_eq_true rfl)⟩) hI (fun adN1 EN1 H locs hp hI => ?_)
  obtain ⟨hA9, hE9, hR9, hRw9, hRp9, hRg9⟩ := hp
  have ha_x0 : adN1 0 = a := (hA9 0 (by omega)).trans ha_x0
  have hc_x0 : EN1 0 = .inr (3, [.null, .null, .null]) := (hE9 0 (by omega)).trans hc_x0
  have hfa : ∀ q : Nat, (q = 0 ∨ 44 ≤ q) → adN1 q = ad q := fun q hq => (hA9 q (by omega)).trans (hfa q hq)
  have hfr : ∀ q : Nat, 44 ≤ q → EN1 q = E q := fun q hq => (hE9 q (by omega)).trans (hfr q hq)
  have ha_kr : adN1 1 = aN0 := (hA9 1 (by omega)).trans ha_kr
  refine f_putF (ci := 3) (v := .ref aN0) (C := RX3) (T := TX3) (N := 3) hx hb hts (by decide +kernel) tyX3 tyX3_ok nmX3 hown hG.1 hI ha_x0 (List.mem_append_left _ (List.mem_append_left _ (List.mem_append_left _ (List.mem_append_left _ hk)))) hc_x0 rfl 0 (by decide) (hts (.fieldLink RX3 10 "CoracleRace" "river" "LCoracleRace$River;") (by decide +kernel)) rfl hin rfl rfl rfl (Nat.le_of_ble_eq_true rfl) dX3_init_12 (fun E3 H locs hE4 hn5 hI => ?_)
  have hc_x0 : E3 0 = .inr (3, [.ref aN0, .null, .null]) := hE4
  have hR9 : E3 1 = .inr (2, [.ref (adN1 2), .ref (adN1 3), .ref (adN1 4), .int (nI 0)]) := (hn5 1 (by omega)).trans hR9
  have hRw9 : E3 2 = .inl (cI, 5, .inl w_new) := (hn5 2 (by omega)).trans hRw9
  have hRp9 : E3 3 = .inl (cI, 6, .inl (fun _ => 0)) := (hn5 3 (by omega)).trans hRp9
  have hRg9 : E3 4 = .inl (cI, 6, .inl (fun _ => 0)) := (hn5 4 (by omega)).trans hRg9
  have hfr : ∀ q : Nat, 44 ≤ q → E3 q = E q := fun q hq => (hn5 q (by omega)).trans (hfr q hq)
  refine lv_aload_n hx hb dX3_init_15 rfl (lv_at hl 0 rfl) ?_
  refine f_new (ci := 1) (C := RX1) (T := TX1) (N := 3) (k := 10) (fs := [.null, .int 0, .int 0]) hx hb hts (by decide +kernel) tyX1 tyX1_ok hown (hts (.classLink RX3 16 RX1) (by decide +kernel)) (hts (.instantiable RX1 3) (by decide +kernel)) (hts (.initialized RX1) (by decide +kernel)) hG.1 hI (fG_A hG) rfl (by decide) (nin_app (nin_app (nin_app (nin_app (hN 10 (by omega) (by omega)) (by omega)) (by omega)) (by omega)) (by omega)) (Nat.le_of_ble_eq_true rfl) (Nat.le_of_ble_eq_true rfl) dX3_init_16 (fun aN5 adN5 EN5 H hk5 hr5 hEk5 hEr5 hI => ?_)
  have ha_x0 : adN5 0 = a := (hr5 0 (by omega)).trans ha_x0
  have hc_x0 : EN5 0 = .inr (3, [.ref aN0, .null, .null]) := (hEr5 0 (by omega)).trans hc_x0
  have ha_kr : adN5 1 = aN0 := (hr5 1 (by omega)).trans ha_kr
  have hc_kr : EN5 1 = .inr (2, [.ref (adN1 2), .ref (adN1 3), .ref (adN1 4), .int (nI 0)]) := (hEr5 1 (by omega)).trans hR9
  have ha_kw : adN5 2 = (adN1 2) := (hr5 2 (by omega)).trans (rfl : adN1 2 = adN1 2)
  have hc_kw : EN5 2 = .inl (cI, 5, .inl w_new) := (hEr5 2 (by omega)).trans hRw9
  have ha_kp : adN5 3 = (adN1 3) := (hr5 3 (by omega)).trans (rfl : adN1 3 = adN1 3)
  have hc_kp : EN5 3 = .inl (cI, 6, .inl (fun _ => 0)) := (hEr5 3 (by omega)).trans hRp9
  have ha_kg : adN5 4 = (adN1 4) := (hr5 4 (by omega)).trans (rfl : adN1 4 = adN1 4)
  have hc_kg : EN5 4 = .inl (cI, 6, .inl (fun _ => 0)) := (hEr5 4 (by omega)).trans hRg9
  have hfa : ∀ q : Nat, (q = 0 ∨ 44 ≤ q) → adN5 q = ad q := fun q hq => (hr5 q (by omega)).trans (hfa q hq)
  have hfr : ∀ q : Nat, 44 ≤ q → EN5 q = E q := fun q hq => (hEr5 q (by omega)).trans (hfr q hq)
  have hc_F : EN5 10 = .inr (1, [.null, .int 0, .int 0]) := hEk5
  have ha_F : adN5 10 = aN5 := hk5
  refine lv_dup hx hb dX3_init_19 rfl ?_
  refine f_callc (va_runI (As := []) (rest := [.ref aN5, .ref a]) ⟨hx, hb, hml, hown, hts⟩ (m_X1_init l (fb := 10) ha_F in_last (fun k h1 h2 => (nin_app (nin_app (nin_app (nin_app (nin_app (hN k (by omega) (by omega)) (by omega)) (by omega)) (by omega)) (by omega)) (by omega))) hc_F) ⟨callB_of 0 hts gX3_init_X1_init rfl rfl rfl (hts (.initialized RX1) (by decide +kernel)) (hts (.methodLink RX3 18 yX1_init) (by decide +kernel)) (by decide +kernel) ⟨(Nat.le_of_ble_eq_true rfl), (Nat.le_of_ble_eq_true rfl)⟩, rfl, (hts (.instanceMethod yX1_init) (by decide +kernel))⟩ (fPre_of hG hI) rfl rfl hl.1 rfl (lv_room (Nat.le_of_ble_eq_true rfl)) dX3_init_20 ⟨(Nat.le_of_ble_eq_true rfl), (Nat.le_of_ble_eq_true rfl)⟩) hI (fun adN6 EN6 H locs hp hI => ?_)
  obtain ⟨hA9, hE9, hF9⟩ := hp
  have ha_x0 : adN6 0 = a := (hA9 0 (by omega)).trans ha_x0
  have hc_x0 : EN6 0 = .inr (3, [.ref aN0, .null, .null]) := (hE9 0 (by omega)).trans hc_x0
  have ha_kr : adN6 1 = aN0 := (hA9 1 (by omega)).trans ha_kr
  have hc_kr : EN6 1 = .inr (2, [.ref (adN1 2), .ref (adN1 3), .ref (adN1 4), .int (nI 0)]) := (hE9 1 (by omega)).trans hc_kr
  have ha_kw : adN6 2 = (adN1 2) := (hA9 2 (by omega)).trans ha_kw
  have hc_kw : EN6 2 = .inl (cI, 5, .inl w_new) := (hE9 2 (by omega)).trans hc_kw
  have ha_kp : adN6 3 = (adN1 3) := (hA9 3 (by omega)).trans ha_kp
  have hc_kp : EN6 3 = .inl (cI, 6, .inl (fun _ => 0)) := (hE9 3 (by omega)).trans hc_kp
  have ha_kg : adN6 4 = (adN1 4) := (hA9 4 (by omega)).trans ha_kg
  have hc_kg : EN6 4 = .inl (cI, 6, .inl (fun _ => 0)) := (hE9 4 (by omega)).trans hc_kg
  have hfa : ∀ q : Nat, (q = 0 ∨ 44 ≤ q) → adN6 q = ad q := fun q hq => (hA9 q (by omega)).trans (hfa q hq)
  have hfr : ∀ q : Nat, 44 ≤ q → EN6 q = E q := fun q hq => (hE9 q (by omega)).trans (hfr q hq)
  have hF10 := hF9
  have ha_F : adN6 10 = aN5 := (hA9 10 (by omega)).trans ha_F
  have hc_F : EN6 10 = .inr (1, [.ref (adN6 (10 + 1)), .int (nI 0), .int (nI 0)]) := hF9.1
  refine f_putF (ci := 3) (v := .ref aN5) (C := RX3) (T := TX3) (N := 3) hx hb hts (by decide +kernel) tyX3 tyX3_ok nmX3 hown hG.1 hI ha_x0 (List.mem_append_left _ (List.mem_append_left _ (List.mem_append_left _ (List.mem_append_left _ (List.mem_append_left _ (List.mem_append_left _ (List.mem_append_left _ (List.mem_append_left _ (List.mem_append_left _ (List.mem_append_left _ (List.mem_append_left _ (List.mem_append_left _ (List.mem_append_left _ (List.mem_append_left _ (List.mem_append_left _ (List.mem_append_left _ (List.mem_append_left _ (List.mem_append_left _ hk)))))))))))))))))) hc_x0 rfl 1 (by decide) (hts (.fieldLink RX3 19 "CoracleRace" "fleet" "LCoracleRace$Fleet;") (by decide +kernel)) rfl hin rfl rfl rfl (Nat.le_of_ble_eq_true rfl) dX3_init_23 (fun E8 H locs hE9 hn10 hI => ?_)
  have hc_x0 : E8 0 = .inr (3, [.ref aN0, .ref aN5, .null]) := hE9
  have hc_kr : E8 1 = .inr (2, [.ref (adN1 2), .ref (adN1 3), .ref (adN1 4), .int (nI 0)]) := (hn10 1 (by omega)).trans hc_kr
  have hc_kw : E8 2 = .inl (cI, 5, .inl w_new) := (hn10 2 (by omega)).trans hc_kw
  have hc_kp : E8 3 = .inl (cI, 6, .inl (fun _ => 0)) := (hn10 3 (by omega)).trans hc_kp
  have hc_kg : E8 4 = .inl (cI, 6, .inl (fun _ => 0)) := (hn10 4 (by omega)).trans hc_kg
  have hc_F : E8 10 = .inr (1, [.ref (adN6 (10 + 1)), .int (nI 0), .int (nI 0)]) := (hn10 10 (by omega)).trans hc_F
  have hfr : ∀ q : Nat, 44 ≤ q → E8 q = E q := fun q hq => (hn10 q (by omega)).trans (hfr q hq)
  have hF10 := hF10.kept (fun q h1 h2 => hn10 q (by omega))
  refine lv_aload_n hx hb dX3_init_26 rfl (lv_at hl 0 rfl) ?_
  refine f_new (ci := 1) (C := RX1) (T := TX1) (N := 3) (k := 30) (fs := [.null, .int 0, .int 0]) hx hb hts (by decide +kernel) tyX1 tyX1_ok hown (hts (.classLink RX3 16 RX1) (by decide +kernel)) (hts (.instantiable RX1 3) (by decide +kernel)) (hts (.initialized RX1) (by decide +kernel)) hG.1 hI (fG_A hG) rfl (by decide) (nin_app (nin_app (nin_app (nin_app (nin_app (nin_app (nin_app (nin_app (nin_app (nin_app (nin_app (nin_app (nin_app (nin_app (nin_app (nin_app (nin_app (nin_app (hN 30 (by omega) (by omega)) (by omega)) (by omega)) (by omega)) (by omega)) (by omega)) (by omega)) (by omega)) (by omega)) (by omega)) (by omega)) (by omega)) (by omega)) (by omega)) (by omega)) (by omega)) (by omega)) (by omega)) (by omega)) (Nat.le_of_ble_eq_true rfl) (Nat.le_of_ble_eq_true rfl) dX3_init_27 (fun aN10 adN10 EN10 H hk10 hr10 hEk10 hEr10 hI => ?_)
  have ha_x0 : adN10 0 = a := (hr10 0 (by omega)).trans ha_x0
  have hc_x0 : EN10 0 = .inr (3, [.ref aN0, .ref aN5, .null]) := (hEr10 0 (by omega)).trans hc_x0
  have ha_kr : adN10 1 = aN0 := (hr10 1 (by omega)).trans ha_kr
  have hc_kr : EN10 1 = .inr (2, [.ref (adN1 2), .ref (adN1 3), .ref (adN1 4), .int (nI 0)]) := (hEr10 1 (by omega)).trans hc_kr
  have ha_kw : adN10 2 = (adN1 2) := (hr10 2 (by omega)).trans ha_kw
  have hc_kw : EN10 2 = .inl (cI, 5, .inl w_new) := (hEr10 2 (by omega)).trans hc_kw
  have ha_kp : adN10 3 = (adN1 3) := (hr10 3 (by omega)).trans ha_kp
  have hc_kp : EN10 3 = .inl (cI, 6, .inl (fun _ => 0)) := (hEr10 3 (by omega)).trans hc_kp
  have ha_kg : adN10 4 = (adN1 4) := (hr10 4 (by omega)).trans ha_kg
  have hc_kg : EN10 4 = .inl (cI, 6, .inl (fun _ => 0)) := (hEr10 4 (by omega)).trans hc_kg
  have ha_F : adN10 10 = aN5 := (hr10 10 (by omega)).trans ha_F
  have hc_F : EN10 10 = .inr (1, [.ref (adN6 (10 + 1)), .int (nI 0), .int (nI 0)]) := (hEr10 10 (by omega)).trans hc_F
  have hF10 := (hF10.ad (fun q h1 h2 => hr10 q (by omega))).kept (fun q h1 h2 => hEr10 q (by omega))
  have hfa : ∀ q : Nat, (q = 0 ∨ 44 ≤ q) → adN10 q = ad q := fun q hq => (hr10 q (by omega)).trans (hfa q hq)
  have hfr : ∀ q : Nat, 44 ≤ q → EN10 q = E q := fun q hq => (hEr10 q (by omega)).trans (hfr q hq)
  have hc_Tr : EN10 30 = .inr (1, [.null, .int 0, .int 0]) := hEk10
  have ha_Tr : adN10 30 = aN10 := hk10
  refine lv_dup hx hb dX3_init_30 rfl ?_
  refine f_callc (va_runI (As := []) (rest := [.ref aN10, .ref a]) ⟨hx, hb, hml, hown, hts⟩ (m_X1_init l (fb := 30) ha_Tr in_last (fun k h1 h2 => (nin_app (nin_app (nin_app (nin_app (nin_app (nin_app (nin_app (nin_app (nin_app (nin_app (nin_app (nin_app (nin_app (nin_app (nin_app (nin_app (nin_app (nin_app (nin_app (hN k (by omega) (by omega)) (by omega)) (by omega)) (by omega)) (by omega)) (by omega)) (by omega)) (by omega)) (by omega)) (by omega)) (by omega)) (by omega)) (by omega)) (by omega)) (by omega)) (by omega)) (by omega)) (by omega)) (by omega)) (by omega))) hc_Tr) ⟨callB_of 0 hts gX3_init_X1_init rfl rfl rfl (hts (.initialized RX1) (by decide +kernel)) (hts (.methodLink RX3 18 yX1_init) (by decide +kernel)) (by decide +kernel) ⟨(Nat.le_of_ble_eq_true rfl), (Nat.le_of_ble_eq_true rfl)⟩, rfl, (hts (.instanceMethod yX1_init) (by decide +kernel))⟩ (fPre_of hG hI) rfl rfl hl.1 rfl (lv_room (Nat.le_of_ble_eq_true rfl)) dX3_init_31 ⟨(Nat.le_of_ble_eq_true rfl), (Nat.le_of_ble_eq_true rfl)⟩) hI (fun adN11 EN11 H locs hp hI => ?_)
  obtain ⟨hA9, hE9, hF9⟩ := hp
  have ha_x0 : adN11 0 = a := (hA9 0 (by omega)).trans ha_x0
  have hc_x0 : EN11 0 = .inr (3, [.ref aN0, .ref aN5, .null]) := (hE9 0 (by omega)).trans hc_x0
  have ha_kr : adN11 1 = aN0 := (hA9 1 (by omega)).trans ha_kr
  have hc_kr : EN11 1 = .inr (2, [.ref (adN1 2), .ref (adN1 3), .ref (adN1 4), .int (nI 0)]) := (hE9 1 (by omega)).trans hc_kr
  have ha_kw : adN11 2 = (adN1 2) := (hA9 2 (by omega)).trans ha_kw
  have hc_kw : EN11 2 = .inl (cI, 5, .inl w_new) := (hE9 2 (by omega)).trans hc_kw
  have ha_kp : adN11 3 = (adN1 3) := (hA9 3 (by omega)).trans ha_kp
  have hc_kp : EN11 3 = .inl (cI, 6, .inl (fun _ => 0)) := (hE9 3 (by omega)).trans hc_kp
  have ha_kg : adN11 4 = (adN1 4) := (hA9 4 (by omega)).trans ha_kg
  have hc_kg : EN11 4 = .inl (cI, 6, .inl (fun _ => 0)) := (hE9 4 (by omega)).trans hc_kg
  have ha_F : adN11 10 = aN5 := (hA9 10 (by omega)).trans ha_F
  have hc_F : EN11 10 = .inr (1, [.ref (adN6 (10 + 1)), .int (nI 0), .int (nI 0)]) := (hE9 10 (by omega)).trans hc_F
  have hF10 := (hF10.ad (fun q h1 h2 => hA9 q (by omega))).kept (fun q h1 h2 => hE9 q (by omega))
  have hfa : ∀ q : Nat, (q = 0 ∨ 44 ≤ q) → adN11 q = ad q := fun q hq => (hA9 q (by omega)).trans (hfa q hq)
  have hfr : ∀ q : Nat, 44 ≤ q → EN11 q = E q := fun q hq => (hE9 q (by omega)).trans (hfr q hq)
  have hF30 := hF9
  have ha_Tr : adN11 30 = aN10 := (hA9 30 (by omega)).trans ha_Tr
  have hc_Tr : EN11 30 = .inr (1, [.ref (adN11 (30 + 1)), .int (nI 0), .int (nI 0)]) := hF9.1
  refine f_putF (ci := 3) (v := .ref aN10) (C := RX3) (T := TX3) (N := 3) hx hb hts (by decide +kernel) tyX3 tyX3_ok nmX3 hown hG.1 hI ha_x0 (List.mem_append_left _ (List.mem_append_left _ (List.mem_append_left _ (List.mem_append_left _ (List.mem_append_left _ (List.mem_append_left _ (List.mem_append_left _ (List.mem_append_left _ (List.mem_append_left _ (List.mem_append_left _ (List.mem_append_left _ (List.mem_append_left _ (List.mem_append_left _ (List.mem_append_left _ (List.mem_append_left _ (List.mem_append_left _ (List.mem_append_left _ (List.mem_append_left _ (List.mem_append_left _ (List.mem_append_left _ (List.mem_append_left _ (List.mem_append_left _ (List.mem_append_left _ (List.mem_append_left _ (List.mem_append_left _ (List.mem_append_left _ (List.mem_append_left _ (List.mem_append_left _ (List.mem_append_left _ (List.mem_append_left _ (List.mem_append_left _ (List.mem_append_left _ hk)))))))))))))))))))))))))))))))) hc_x0 rfl 2 (by decide) (hts (.fieldLink RX3 23 "CoracleRace" "trial" "LCoracleRace$Fleet;") (by decide +kernel)) rfl hin rfl rfl rfl (Nat.le_of_ble_eq_true rfl) dX3_init_34 (fun E13 H locs hE14 hn15 hI => ?_)
  have hc_x0 : E13 0 = .inr (3, [.ref aN0, .ref aN5, .ref aN10]) := hE14
  have hc_kr : E13 1 = .inr (2, [.ref (adN1 2), .ref (adN1 3), .ref (adN1 4), .int (nI 0)]) := (hn15 1 (by omega)).trans hc_kr
  have hc_kw : E13 2 = .inl (cI, 5, .inl w_new) := (hn15 2 (by omega)).trans hc_kw
  have hc_kp : E13 3 = .inl (cI, 6, .inl (fun _ => 0)) := (hn15 3 (by omega)).trans hc_kp
  have hc_kg : E13 4 = .inl (cI, 6, .inl (fun _ => 0)) := (hn15 4 (by omega)).trans hc_kg
  have hc_F : E13 10 = .inr (1, [.ref (adN6 (10 + 1)), .int (nI 0), .int (nI 0)]) := (hn15 10 (by omega)).trans hc_F
  have hc_Tr : E13 30 = .inr (1, [.ref (adN11 (30 + 1)), .int (nI 0), .int (nI 0)]) := (hn15 30 (by omega)).trans hc_Tr
  have hfr : ∀ q : Nat, 44 ≤ q → E13 q = E q := fun q hq => (hn15 q (by omega)).trans (hfr q hq)
  have hF10 := hF10.kept (fun q h1 h2 => hn15 q (by omega))
  have hF30 := hF30.kept (fun q h1 h2 => hn15 q (by omega))
  exact f_retv hQ hx hb hr hlocks hI.2.2 (by omega) (by omega) dX3_init_37 (adN11, E13) (fB_of hI) (⟨hfa, hfr, hc_x0.trans (by rw [← ha_kr, ← ha_F, ← ha_Tr]), ⟨hc_kr.trans (by rw [← ha_kw, ← ha_kp, ← ha_kg]), hc_kw, hc_kp, hc_kg⟩, hF10, 0, 0, _, _, by decide, hF30⟩)

set_option maxHeartbeats 4000000 in
set_option maxRecDepth 100000 in
theorem m_X5_init (l : Launch) {D : va_G} {cI cJ cB : ClassId} {t0 z : Nat} {tx ad : Nat → Nat} {L : List Nat} {E : Nat → va_E} {a : Nat} (ha : ad 50 = a) (hk : 50 ∈ L) (hN : ∀ k, 51 ≤ k → k < 91 → k ∉ L) (hC : E 50 = .inr (5, [.int 0, .null, .int 0, .null, .null, .int 0, .null, .null, .null])) : Met l yX5_init wsX5_init ({ frames := 2, cells := 26, slots := 167, locals := 41 } : Room) (va_Pc [.ref a] (fPre D cI cJ cB t0 z tx ad L E)) (va_Qv (fun (u : (Nat → Nat) × (Nat → va_E)) => (∀ q : Nat, (q < 51 ∨ 91 ≤ q) → u.1 q = ad q) ∧ (∀ q : Nat, (q < 50 ∨ 91 ≤ q) → u.2 q = E q) ∧ mm cI u.1 u.2 0 w_new (fun _ => 0) (fun _ => 0) 0 0 0 (fun _ => 0) (fun _ _ => 0)) (fun u t => fB D z u.1 (L ++ [51] ++ [52] ++ [53] ++ [54] ++ [60] ++ [60 + 1 + 0] ++ [60 + 1 + 1] ++ [60 + 1 + 2] ++ [60 + 1 + 3] ++ [60 + 1 + 4] ++ [60 + 1 + 5] ++ [60 + 1 + 6] ++ [60 + 1 + 7] ++ [60 + 1 + 8] ++ [60 + 1 + 9] ++ [80] ++ [80 + 1 + 0] ++ [80 + 1 + 1] ++ [80 + 1 + 2] ++ [80 + 1 + 3] ++ [80 + 1 + 4] ++ [80 + 1 + 5] ++ [80 + 1 + 6] ++ [80 + 1 + 7] ++ [80 + 1 + 8] ++ [80 + 1 + 9]) u.2 t) (fA z)) 26 167 (fA z) := by
  refine f_ofW (cc := cX5_init) (maxL := 1) (ret := none) (by decide) rfl (Nat.le_of_ble_eq_true rfl) ?_
  intro pr e s m args below meth c Q hx hb hr hml hts hown hlocks hin hG H locs hI hQ ls hl
  have hl : lv_has ls 1 [(0, .ref a)] := hl
  have hfr : ∀ q : Nat, (q < 50 ∨ 91 ≤ q) → E q = E q := fun _ _ => rfl
  have hfa : ∀ q : Nat, (q < 51 ∨ 91 ≤ q) → ad q = ad q := fun _ _ => rfl
  have hC : E 50 = .inr (5, [.int 0, .null, .int 0, .null, .null, .int 0, .null, .null, .null]) := hC
  refine lv_aload_n hx hb dX5_init_0 rfl (lv_at hl 0 rfl) ?_
  refine W.objInit hx hb hown (hts (.methodLink RX5 1 objectInit) (by decide +kernel)) (hts (.instanceMethod objectInit) (by decide +kernel)) (hts (.code objectInit ⟨#[0xb1]⟩ 1 none) (by decide +kernel)) rfl (by rw [hml]; exact hl.1) rfl dX5_init_1 (Nat.le_of_ble_eq_true rfl) (Nat.le_of_ble_eq_true rfl) ?_
  refine W.eq (g2 := F0 m 4 ls []) rfl ?_
  refine lv_aload_n hx hb dX5_init_4 rfl (lv_at hl 0 rfl) ?_
  refine lv_iconst (v := 5) hx hb dX5_init_5 (by decide) ?_
  refine f_newi (k := 51) (N := 5) hx hb (hts (.arrayClass .int) (by decide +kernel)) hG.1 hI (fG_A hG) (by decide) (by decide) (by decide) (hN 51 (by omega) (by omega)) (Nat.le_of_ble_eq_true rfl) (Nat.le_of_ble_eq_true rfl) dX5_init_6 (fun aN0 adN0 EN0 H hk0 hr0 hEk0 hEr0 hI => ?_)
  have ha_md : adN0 50 = a := (hr0 50 (by omega)).trans ha
  have hc_md : EN0 50 = .inr (5, [.int 0, .null, .int 0, .null, .null, .int 0, .null, .null, .null]) := (hEr0 50 (by omega)).trans hC
  have hfa : ∀ q : Nat, (q < 51 ∨ 91 ≤ q) → adN0 q = ad q := fun q hq => (hr0 q (by omega)).trans (hfa q hq)
  have hfr : ∀ q : Nat, (q < 50 ∨ 91 ≤ q) → EN0 q = E q := fun q hq => (hEr0 q (by omega)).trans (hfr q hq)
  have hc_mw : EN0 51 = .inl (cI, 5, .inl (fun _ => 0)) := hEk0
  have ha_mw : adN0 51 = aN0 := hk0
  refine lv_dup hx hb dX5_init_8 rfl ?_
  refine lv_iconst (v := 0) hx hb dX5_init_9 (by decide) ?_
  refine lv_iconst (v := 1) hx hb dX5_init_10 (by decide) ?_
  refine f_iast hx hb hG.1 hI ha_mw in_last hc_mw (vp_in_iff.mpr ⟨by decide, by decide⟩) dX5_init_11 (fun E2 H locs hE3 hn4 hI => ?_)
  have hc_mw : E2 51 = .inl (cI, 5, .inl (upd (fun _ => 0) 0 1)) := hE3
  have hc_md : E2 50 = .inr (5, [.int 0, .null, .int 0, .null, .null, .int 0, .null, .null, .null]) := (hn4 50 (by omega)).trans hc_md
  have hfr : ∀ q : Nat, (q < 50 ∨ 91 ≤ q) → E2 q = E q := fun q hq => (hn4 q (by omega)).trans (hfr q hq)
  refine lv_dup hx hb dX5_init_12 rfl ?_
  refine lv_iconst (v := 1) hx hb dX5_init_13 (by decide) ?_
  refine lv_iconst (v := 2) hx hb dX5_init_14 (by decide) ?_
  refine f_iast hx hb hG.1 hI ha_mw in_last hc_mw (vp_in_iff.mpr ⟨by decide, by decide⟩) dX5_init_15 (fun E5 H locs hE6 hn7 hI => ?_)
  have hc_mw : E5 51 = .inl (cI, 5, .inl (upd (upd (fun _ => 0) 0 1) 1 2)) := hE6
  have hc_md : E5 50 = .inr (5, [.int 0, .null, .int 0, .null, .null, .int 0, .null, .null, .null]) := (hn7 50 (by omega)).trans hc_md
  have hfr : ∀ q : Nat, (q < 50 ∨ 91 ≤ q) → E5 q = E q := fun q hq => (hn7 q (by omega)).trans (hfr q hq)
  refine lv_dup hx hb dX5_init_16 rfl ?_
  refine lv_iconst (v := 2) hx hb dX5_init_17 (by decide) ?_
  refine lv_iconst (v := 3) hx hb dX5_init_18 (by decide) ?_
  refine f_iast hx hb hG.1 hI ha_mw in_last hc_mw (vp_in_iff.mpr ⟨by decide, by decide⟩) dX5_init_19 (fun E8 H locs hE9 hn10 hI => ?_)
  have hc_mw : E8 51 = .inl (cI, 5, .inl (upd (upd (upd (fun _ => 0) 0 1) 1 2) 2 3)) := hE9
  have hc_md : E8 50 = .inr (5, [.int 0, .null, .int 0, .null, .null, .int 0, .null, .null, .null]) := (hn10 50 (by omega)).trans hc_md
  have hfr : ∀ q : Nat, (q < 50 ∨ 91 ≤ q) → E8 q = E q := fun q hq => (hn10 q (by omega)).trans (hfr q hq)
  refine lv_dup hx hb dX5_init_20 rfl ?_
  refine lv_iconst (v := 3) hx hb dX5_init_21 (by decide) ?_
  refine lv_iconst (v := 2) hx hb dX5_init_22 (by decide) ?_
  refine f_iast hx hb hG.1 hI ha_mw in_last hc_mw (vp_in_iff.mpr ⟨by decide, by decide⟩) dX5_init_23 (fun E11 H locs hE12 hn13 hI => ?_)
  have hc_mw : E11 51 = .inl (cI, 5, .inl (upd (upd (upd (upd (fun _ => 0) 0 1) 1 2) 2 3) 3 2)) := hE12
  have hc_md : E11 50 = .inr (5, [.int 0, .null, .int 0, .null, .null, .int 0, .null, .null, .null]) := (hn13 50 (by omega)).trans hc_md
  have hfr : ∀ q : Nat, (q < 50 ∨ 91 ≤ q) → E11 q = E q := fun q hq => (hn13 q (by omega)).trans (hfr q hq)
  refine lv_dup hx hb dX5_init_24 rfl ?_
  refine lv_iconst (v := 4) hx hb dX5_init_25 (by decide) ?_
  refine lv_iconst (v := 1) hx hb dX5_init_26 (by decide) ?_
  refine f_iast hx hb hG.1 hI ha_mw in_last hc_mw (vp_in_iff.mpr ⟨by decide, by decide⟩) dX5_init_27 (fun E14 H locs hE15 hn16 hI => ?_)
  have hc_mw : E14 51 = .inl (cI, 5, .inl (upd (upd (upd (upd (upd (fun _ => 0) 0 1) 1 2) 2 3) 3 2) 4 1)) := hE15
  have hc_md : E14 50 = .inr (5, [.int 0, .null, .int 0, .null, .null, .int 0, .null, .null, .null]) := (hn16 50 (by omega)).trans hc_md
  have hfr : ∀ q : Nat, (q < 50 ∨ 91 ≤ q) → E14 q = E q := fun q hq => (hn16 q (by omega)).trans (hfr q hq)
  refine f_putF (ci := 5) (v := .ref aN0) (C := RX5) (T := TX5) (N := 9) hx hb hts (by decide +kernel) tyX5 tyX5_ok nmX5 hown hG.1 hI ha_md (List.mem_append_left _ hk) hc_md rfl 1 (by decide) (hts (.fieldLink RX5 7 "CoracleRaceModel" "water" "[I") (by decide +kernel)) rfl hin rfl rfl rfl (Nat.le_of_ble_eq_true rfl) dX5_init_28 (fun E17 H locs hE18 hn19 hI => ?_)
  have hc_md : E17 50 = .inr (5, [.int 0, .ref aN0, .int 0, .null, .null, .int 0, .null, .null, .null]) := hE18
  have hc_mw : E17 51 = .inl (cI, 5, .inl (upd (upd (upd (upd (upd (fun _ => 0) 0 1) 1 2) 2 3) 3 2) 4 1)) := (hn19 51 (by omega)).trans hc_mw
  have hfr : ∀ q : Nat, (q < 50 ∨ 91 ≤ q) → E17 q = E q := fun q hq => (hn19 q (by omega)).trans (hfr q hq)
  refine lv_aload_n hx hb dX5_init_31 rfl (lv_at hl 0 rfl) ?_
  refine lv_bipush (v := 6) hx hb dX5_init_32 (by decide) ?_
  refine f_newi (k := 52) (N := 6) hx hb (hts (.arrayClass .int) (by decide +kernel)) hG.1 hI (fG_A hG) (by decide) (by decide) (by decide) (nin_app (hN 52 (by omega) (by omega)) (by omega)) (Nat.le_of_ble_eq_true rfl) (Nat.le_of_ble_eq_true rfl) dX5_init_34 (fun aN19 adN19 EN19 H hk19 hr19 hEk19 hEr19 hI => ?_)
  have ha_md : adN19 50 = a := (hr19 50 (by omega)).trans ha_md
  have hc_md : EN19 50 = .inr (5, [.int 0, .ref aN0, .int 0, .null, .null, .int 0, .null, .null, .null]) := (hEr19 50 (by omega)).trans hc_md
  have ha_mw : adN19 51 = aN0 := (hr19 51 (by omega)).trans ha_mw
  have hc_mw : EN19 51 = .inl (cI, 5, .inl (upd (upd (upd (upd (upd (fun _ => 0) 0 1) 1 2) 2 3) 3 2) 4 1)) := (hEr19 51 (by omega)).trans hc_mw
  have hfa : ∀ q : Nat, (q < 51 ∨ 91 ≤ q) → adN19 q = ad q := fun q hq => (hr19 q (by omega)).trans (hfa q hq)
  have hfr : ∀ q : Nat, (q < 50 ∨ 91 ≤ q) → EN19 q = E q := fun q hq => (hEr19 q (by omega)).trans (hfr q hq)
  have hc_mp : EN19 52 = .inl (cI, 6, .inl (fun _ => 0)) := hEk19
  have ha_mp : adN19 52 = aN19 := hk19
  refine f_putF (ci := 5) (v := .ref aN19) (C := RX5) (T := TX5) (N := 9) hx hb hts (by decide +kernel) tyX5 tyX5_ok nmX5 hown hG.1 hI ha_md (List.mem_append_left _ (List.mem_append_left _ hk)) hc_md rfl 3 (by decide) (hts (.fieldLink RX5 13 "CoracleRaceModel" "weirAt" "[I") (by decide +kernel)) rfl hin rfl rfl rfl (Nat.le_of_ble_eq_true rfl) dX5_init_36 (fun E21 H locs hE22 hn23 hI => ?_)
  have hc_md : E21 50 = .inr (5, [.int 0, .ref aN0, .int 0, .ref aN19, .null, .int 0, .null, .null, .null]) := hE22
  have hc_mw : E21 51 = .inl (cI, 5, .inl (upd (upd (upd (upd (upd (fun _ => 0) 0 1) 1 2) 2 3) 3 2) 4 1)) := (hn23 51 (by omega)).trans hc_mw
  have hc_mp : E21 52 = .inl (cI, 6, .inl (fun _ => 0)) := (hn23 52 (by omega)).trans hc_mp
  have hfr : ∀ q : Nat, (q < 50 ∨ 91 ≤ q) → E21 q = E q := fun q hq => (hn23 q (by omega)).trans (hfr q hq)
  refine lv_aload_n hx hb dX5_init_39 rfl (lv_at hl 0 rfl) ?_
  refine lv_bipush (v := 6) hx hb dX5_init_40 (by decide) ?_
  refine f_newi (k := 53) (N := 6) hx hb (hts (.arrayClass .int) (by decide +kernel)) hG.1 hI (fG_A hG) (by decide) (by decide) (by decide) (nin_app (nin_app (hN 53 (by omega) (by omega)) (by omega)) (by omega)) (Nat.le_of_ble_eq_true rfl) (Nat.le_of_ble_eq_true rfl) dX5_init_42 (fun aN23 adN23 EN23 H hk23 hr23 hEk23 hEr23 hI => ?_)
  have ha_md : adN23 50 = a := (hr23 50 (by omega)).trans ha_md
  have hc_md : EN23 50 = .inr (5, [.int 0, .ref aN0, .int 0, .ref aN19, .null, .int 0, .null, .null, .null]) := (hEr23 50 (by omega)).trans hc_md
  have ha_mw : adN23 51 = aN0 := (hr23 51 (by omega)).trans ha_mw
  have hc_mw : EN23 51 = .inl (cI, 5, .inl (upd (upd (upd (upd (upd (fun _ => 0) 0 1) 1 2) 2 3) 3 2) 4 1)) := (hEr23 51 (by omega)).trans hc_mw
  have ha_mp : adN23 52 = aN19 := (hr23 52 (by omega)).trans ha_mp
  have hc_mp : EN23 52 = .inl (cI, 6, .inl (fun _ => 0)) := (hEr23 52 (by omega)).trans hc_mp
  have hfa : ∀ q : Nat, (q < 51 ∨ 91 ≤ q) → adN23 q = ad q := fun q hq => (hr23 q (by omega)).trans (hfa q hq)
  have hfr : ∀ q : Nat, (q < 50 ∨ 91 ≤ q) → EN23 q = E q := fun q hq => (hEr23 q (by omega)).trans (hfr q hq)
  have hc_mg : EN23 53 = .inl (cI, 6, .inl (fun _ => 0)) := hEk23
  have ha_mg : adN23 53 = aN23 := hk23
  refine f_putF (ci := 5) (v := .ref aN23) (C := RX5) (T := TX5) (N := 9) hx hb hts (by decide +kernel) tyX5 tyX5_ok nmX5 hown hG.1 hI ha_md (List.mem_append_left _ (List.mem_append_left _ (List.mem_append_left _ hk))) hc_md rfl 4 (by decide) (hts (.fieldLink RX5 16 "CoracleRaceModel" "gap" "[I") (by decide +kernel)) rfl hin rfl rfl rfl (Nat.le_of_ble_eq_true rfl) dX5_init_44 (fun E25 H locs hE26 hn27 hI => ?_)
  have hc_md : E25 50 = .inr (5, [.int 0, .ref aN0, .int 0, .ref aN19, .ref aN23, .int 0, .null, .null, .null]) := hE26
  have hc_mw : E25 51 = .inl (cI, 5, .inl (upd (upd (upd (upd (upd (fun _ => 0) 0 1) 1 2) 2 3) 3 2) 4 1)) := (hn27 51 (by omega)).trans hc_mw
  have hc_mp : E25 52 = .inl (cI, 6, .inl (fun _ => 0)) := (hn27 52 (by omega)).trans hc_mp
  have hc_mg : E25 53 = .inl (cI, 6, .inl (fun _ => 0)) := (hn27 53 (by omega)).trans hc_mg
  have hfr : ∀ q : Nat, (q < 50 ∨ 91 ≤ q) → E25 q = E q := fun q hq => (hn27 q (by omega)).trans (hfr q hq)
  refine lv_aload_n hx hb dX5_init_47 rfl (lv_at hl 0 rfl) ?_
  refine lv_bipush (v := 6) hx hb dX5_init_48 (by decide) ?_
  refine f_newi (k := 54) (N := 6) hx hb (hts (.arrayClass .int) (by decide +kernel)) hG.1 hI (fG_A hG) (by decide) (by decide) (by decide) (nin_app (nin_app (nin_app (hN 54 (by omega) (by omega)) (by omega)) (by omega)) (by omega)) (Nat.le_of_ble_eq_true rfl) (Nat.le_of_ble_eq_true rfl) dX5_init_50 (fun aN27 adN27 EN27 H hk27 hr27 hEk27 hEr27 hI => ?_)
  have ha_md : adN27 50 = a := (hr27 50 (by omega)).trans ha_md
  have hc_md : EN27 50 = .inr (5, [.int 0, .ref aN0, .int 0, .ref aN19, .ref aN23, .int 0, .null, .null, .null]) := (hEr27 50 (by omega)).trans hc_md
  have ha_mw : adN27 51 = aN0 := (hr27 51 (by omega)).trans ha_mw
  have hc_mw : EN27 51 = .inl (cI, 5, .inl (upd (upd (upd (upd (upd (fun _ => 0) 0 1) 1 2) 2 3) 3 2) 4 1)) := (hEr27 51 (by omega)).trans hc_mw
  have ha_mp : adN27 52 = aN19 := (hr27 52 (by omega)).trans ha_mp
  have hc_mp : EN27 52 = .inl (cI, 6, .inl (fun _ => 0)) := (hEr27 52 (by omega)).trans hc_mp
  have ha_mg : adN27 53 = aN23 := (hr27 53 (by omega)).trans ha_mg
  have hc_mg : EN27 53 = .inl (cI, 6, .inl (fun _ => 0)) := (hEr27 53 (by omega)).trans hc_mg
  have hfa : ∀ q : Nat, (q < 51 ∨ 91 ≤ q) → adN27 q = ad q := fun q hq => (hr27 q (by omega)).trans (hfa q hq)
  have hfr : ∀ q : Nat, (q < 50 ∨ 91 ≤ q) → EN27 q = E q := fun q hq => (hEr27 q (by omega)).trans (hfr q hq)
  have hc_ms : EN27 54 = .inl (cI, 6, .inl (fun _ => 0)) := hEk27
  have ha_ms : adN27 54 = aN27 := hk27
  refine f_putF (ci := 5) (v := .ref aN27) (C := RX5) (T := TX5) (N := 9) hx hb hts (by decide +kernel) tyX5 tyX5_ok nmX5 hown hG.1 hI ha_md (List.mem_append_left _ (List.mem_append_left _ (List.mem_append_left _ (List.mem_append_left _ hk)))) hc_md rfl 6 (by decide) (hts (.fieldLink RX5 19 "CoracleRaceModel" "strength" "[I") (by decide +kernel)) rfl hin rfl rfl rfl (Nat.le_of_ble_eq_true rfl) dX5_init_52 (fun E29 H locs hE30 hn31 hI => ?_)
  have hc_md : E29 50 = .inr (5, [.int 0, .ref aN0, .int 0, .ref aN19, .ref aN23, .int 0, .ref aN27, .null, .null]) := hE30
  have hc_mw : E29 51 = .inl (cI, 5, .inl (upd (upd (upd (upd (upd (fun _ => 0) 0 1) 1 2) 2 3) 3 2) 4 1)) := (hn31 51 (by omega)).trans hc_mw
  have hc_mp : E29 52 = .inl (cI, 6, .inl (fun _ => 0)) := (hn31 52 (by omega)).trans hc_mp
  have hc_mg : E29 53 = .inl (cI, 6, .inl (fun _ => 0)) := (hn31 53 (by omega)).trans hc_mg
  have hc_ms : E29 54 = .inl (cI, 6, .inl (fun _ => 0)) := (hn31 54 (by omega)).trans hc_ms
  have hfr : ∀ q : Nat, (q < 50 ∨ 91 ≤ q) → E29 q = E q := fun q hq => (hn31 q (by omega)).trans (hfr q hq)
  refine lv_aload_n hx hb dX5_init_55 rfl (lv_at hl 0 rfl) ?_
  refine f_new (ci := 4) (C := RX4) (T := TX4) (N := 12) (k := 60) (fs := [.int 0, .null, .null, .null, .null, .null, .null, .null, .null, .null, .null, .null]) hx hb hts (by decide +kernel) tyX4 tyX4_ok hown (hts (.classLink RX5 22 RX4) (by decide +kernel)) (hts (.instantiable RX4 12) (by decide +kernel)) (hts (.initialized RX4) (by decide +kernel)) hG.1 hI (fG_A hG) rfl (by decide) (nin_app (nin_app (nin_app (nin_app (hN 60 (by omega) (by omega)) (by omega)) (by omega)) (by omega)) (by omega)) (Nat.le_of_ble_eq_true rfl) (Nat.le_of_ble_eq_true rfl) dX5_init_56 (fun aN31 adN31 EN31 H hk31 hr31 hEk31 hEr31 hI => ?_)
  have ha_md : adN31 50 = a := (hr31 50 (by omega)).trans ha_md
  have hc_md : EN31 50 = .inr (5, [.int 0, .ref aN0, .int 0, .ref aN19, .ref aN23, .int 0, .ref aN27, .null, .null]) := (hEr31 50 (by omega)).trans hc_md
  have ha_mw : adN31 51 = aN0 := (hr31 51 (by omega)).trans ha_mw
  have hc_mw : EN31 51 = .inl (cI, 5, .inl (upd (upd (upd (upd (upd (fun _ => 0) 0 1) 1 2) 2 3) 3 2) 4 1)) := (hEr31 51 (by omega)).trans hc_mw
  have ha_mp : adN31 52 = aN19 := (hr31 52 (by omega)).trans ha_mp
  have hc_mp : EN31 52 = .inl (cI, 6, .inl (fun _ => 0)) := (hEr31 52 (by omega)).trans hc_mp
  have ha_mg : adN31 53 = aN23 := (hr31 53 (by omega)).trans ha_mg
  have hc_mg : EN31 53 = .inl (cI, 6, .inl (fun _ => 0)) := (hEr31 53 (by omega)).trans hc_mg
  have ha_ms : adN31 54 = aN27 := (hr31 54 (by omega)).trans ha_ms
  have hc_ms : EN31 54 = .inl (cI, 6, .inl (fun _ => 0)) := (hEr31 54 (by omega)).trans hc_ms
  have hfa : ∀ q : Nat, (q < 51 ∨ 91 ≤ q) → adN31 q = ad q := fun q hq => (hr31 q (by omega)).trans (hfa q hq)
  have hfr : ∀ q : Nat, (q < 50 ∨ 91 ≤ q) → EN31 q = E q := fun q hq => (hEr31 q (by omega)).trans (hfr q hq)
  have hc_sst : EN31 60 = .inr (4, [.int 0, .null, .null, .null, .null, .null, .null, .null, .null, .null, .null, .null]) := hEk31
  have ha_sst : adN31 60 = aN31 := hk31
  refine lv_dup hx hb dX5_init_59 rfl ?_
  refine lv_aload_n hx hb dX5_init_60 rfl (lv_at hl 0 rfl) ?_
  refine f_callc (va_runIN (As := [.ref a]) (rest := [.ref aN31, .ref a]) ⟨hx, hb, hml, hown, hts⟩ (m_X4_init l (sb := 60) ha_sst (by decide) in_last (fun k h1 h2 => (nin_app (nin_app (nin_app (nin_app (nin_app (hN k (by omega) (by omega)) (by omega)) (by omega)) (by omega)) (by omega)) (by omega))) hc_sst ha_md) ⟨va_cnB 1 hts gX5_init_X4_init_n24 rfl rfl rfl (hG.2.1 (.methodLinkNest RX5 24 yX4_init RX5) (by simp [fNest])) (hts (.initialized RX4) (by decide +kernel)) (by decide +kernel) ⟨(Nat.le_of_ble_eq_true rfl), (Nat.le_of_ble_eq_true rfl)⟩, rfl, (hts (.instanceMethod yX4_init) (by decide +kernel))⟩ (fPre_of hG hI) rfl rfl hl.1 rfl (lv_room (Nat.le_of_ble_eq_true rfl)) dX5_init_61 ⟨(Nat.le_of_ble_eq_true rfl), (Nat.le_of_ble_eq_true rfl)⟩) hI (fun adN32 EN32 H locs hp hI => ?_)
  obtain ⟨hA9, hE9, hS9⟩ := hp
  have ha_md : adN32 50 = a := (hA9 50 (by omega)).trans ha_md
  have hc_md : EN32 50 = .inr (5, [.int 0, .ref aN0, .int 0, .ref aN19, .ref aN23, .int 0, .ref aN27, .null, .null]) := (hE9 50 (by omega)).trans hc_md
  have ha_mw : adN32 51 = aN0 := (hA9 51 (by omega)).trans ha_mw
  have hc_mw : EN32 51 = .inl (cI, 5, .inl (upd (upd (upd (upd (upd (fun _ => 0) 0 1) 1 2) 2 3) 3 2) 4 1)) := (hE9 51 (by omega)).trans hc_mw
  have ha_mp : adN32 52 = aN19 := (hA9 52 (by omega)).trans ha_mp
  have hc_mp : EN32 52 = .inl (cI, 6, .inl (fun _ => 0)) := (hE9 52 (by omega)).trans hc_mp
  have ha_mg : adN32 53 = aN23 := (hA9 53 (by omega)).trans ha_mg
  have hc_mg : EN32 53 = .inl (cI, 6, .inl (fun _ => 0)) := (hE9 53 (by omega)).trans hc_mg
  have ha_ms : adN32 54 = aN27 := (hA9 54 (by omega)).trans ha_ms
  have hc_ms : EN32 54 = .inl (cI, 6, .inl (fun _ => 0)) := (hE9 54 (by omega)).trans hc_ms
  have hfa : ∀ q : Nat, (q < 51 ∨ 91 ≤ q) → adN32 q = ad q := fun q hq => (hA9 q (by omega)).trans (hfa q hq)
  have hfr : ∀ q : Nat, (q < 50 ∨ 91 ≤ q) → EN32 q = E q := fun q hq => (hE9 q (by omega)).trans (hfr q hq)
  have hS60 := hS9
  have ha_sst : adN32 60 = aN31 := (hA9 60 (by omega)).trans ha_sst
  refine f_putF (ci := 5) (v := .ref aN31) (C := RX5) (T := TX5) (N := 9) hx hb hts (by decide +kernel) tyX5 tyX5_ok nmX5 hown hG.1 hI ha_md (List.mem_append_left _ (List.mem_append_left _ (List.mem_append_left _ (List.mem_append_left _ (List.mem_append_left _ (List.mem_append_left _ (List.mem_append_left _ (List.mem_append_left _ (List.mem_append_left _ (List.mem_append_left _ (List.mem_append_left _ (List.mem_append_left _ (List.mem_append_left _ (List.mem_append_left _ (List.mem_append_left _ hk))))))))))))))) hc_md rfl 7 (by decide) (hts (.fieldLink RX5 27 "CoracleRaceModel" "s" "LCoracleRaceModel$State;") (by decide +kernel)) rfl hin rfl rfl rfl (Nat.le_of_ble_eq_true rfl) dX5_init_64 (fun E34 H locs hE35 hn36 hI => ?_)
  have hc_md : E34 50 = .inr (5, [.int 0, .ref aN0, .int 0, .ref aN19, .ref aN23, .int 0, .ref aN27, .ref aN31, .null]) := hE35
  have hc_mw : E34 51 = .inl (cI, 5, .inl (upd (upd (upd (upd (upd (fun _ => 0) 0 1) 1 2) 2 3) 3 2) 4 1)) := (hn36 51 (by omega)).trans hc_mw
  have hc_mp : E34 52 = .inl (cI, 6, .inl (fun _ => 0)) := (hn36 52 (by omega)).trans hc_mp
  have hc_mg : E34 53 = .inl (cI, 6, .inl (fun _ => 0)) := (hn36 53 (by omega)).trans hc_mg
  have hc_ms : E34 54 = .inl (cI, 6, .inl (fun _ => 0)) := (hn36 54 (by omega)).trans hc_ms
  have hfr : ∀ q : Nat, (q < 50 ∨ 91 ≤ q) → E34 q = E q := fun q hq => (hn36 q (by omega)).trans (hfr q hq)
  have hS60 := hS60.kept (fun q h1 h2 => hn36 q (by omega))
  refine lv_aload_n hx hb dX5_init_67 rfl (lv_at hl 0 rfl) ?_
  refine f_new (ci := 4) (C := RX4) (T := TX4) (N := 12) (k := 80) (fs := [.int 0, .null, .null, .null, .null, .null, .null, .null, .null, .null, .null, .null]) hx hb hts (by decide +kernel) tyX4 tyX4_ok hown (hts (.classLink RX5 22 RX4) (by decide +kernel)) (hts (.instantiable RX4 12) (by decide +kernel)) (hts (.initialized RX4) (by decide +kernel)) hG.1 hI (fG_A hG) rfl (by decide) (nin_app (nin_app (nin_app (nin_app (nin_app (nin_app (nin_app (nin_app (nin_app (nin_app (nin_app (nin_app (nin_app (nin_app (nin_app (hN 80 (by omega) (by omega)) (by omega)) (by omega)) (by omega)) (by omega)) (by omega)) (by omega)) (by omega)) (by omega)) (by omega)) (by omega)) (by omega)) (by omega)) (by omega)) (by omega)) (by omega)) (Nat.le_of_ble_eq_true rfl) (Nat.le_of_ble_eq_true rfl) dX5_init_68 (fun aN36 adN36 EN36 H hk36 hr36 hEk36 hEr36 hI => ?_)
  have ha_md : adN36 50 = a := (hr36 50 (by omega)).trans ha_md
  have hc_md : EN36 50 = .inr (5, [.int 0, .ref aN0, .int 0, .ref aN19, .ref aN23, .int 0, .ref aN27, .ref aN31, .null]) := (hEr36 50 (by omega)).trans hc_md
  have ha_mw : adN36 51 = aN0 := (hr36 51 (by omega)).trans ha_mw
  have hc_mw : EN36 51 = .inl (cI, 5, .inl (upd (upd (upd (upd (upd (fun _ => 0) 0 1) 1 2) 2 3) 3 2) 4 1)) := (hEr36 51 (by omega)).trans hc_mw
  have ha_mp : adN36 52 = aN19 := (hr36 52 (by omega)).trans ha_mp
  have hc_mp : EN36 52 = .inl (cI, 6, .inl (fun _ => 0)) := (hEr36 52 (by omega)).trans hc_mp
  have ha_mg : adN36 53 = aN23 := (hr36 53 (by omega)).trans ha_mg
  have hc_mg : EN36 53 = .inl (cI, 6, .inl (fun _ => 0)) := (hEr36 53 (by omega)).trans hc_mg
  have ha_ms : adN36 54 = aN27 := (hr36 54 (by omega)).trans ha_ms
  have hc_ms : EN36 54 = .inl (cI, 6, .inl (fun _ => 0)) := (hEr36 54 (by omega)).trans hc_ms
  have hS60 := (hS60.ad2 (fun q h1 => hr36 q (by omega))).kept (fun q h1 h2 => hEr36 q (by omega))
  have ha_sst : adN36 60 = aN31 := (hr36 60 (by omega)).trans ha_sst
  have hfa : ∀ q : Nat, (q < 51 ∨ 91 ≤ q) → adN36 q = ad q := fun q hq => (hr36 q (by omega)).trans (hfa q hq)
  have hfr : ∀ q : Nat, (q < 50 ∨ 91 ≤ q) → EN36 q = E q := fun q hq => (hEr36 q (by omega)).trans (hfr q hq)
  have hc_ast : EN36 80 = .inr (4, [.int 0, .null, .null, .null, .null, .null, .null, .null, .null, .null, .null, .null]) := hEk36
  have ha_ast : adN36 80 = aN36 := hk36
  refine lv_dup hx hb dX5_init_71 rfl ?_
  refine lv_aload_n hx hb dX5_init_72 rfl (lv_at hl 0 rfl) ?_
  refine f_callc (va_runIN (As := [.ref a]) (rest := [.ref aN36, .ref a]) ⟨hx, hb, hml, hown, hts⟩ (m_X4_init l (sb := 80) ha_ast (by decide) in_last (fun k h1 h2 => (nin_app (nin_app (nin_app (nin_app (nin_app (nin_app (nin_app (nin_app (nin_app (nin_app (nin_app (nin_app (nin_app (nin_app (nin_app (nin_app (hN k (by omega) (by omega)) (by omega)) (by omega)) (by omega)) (by omega)) (by omega)) (by omega)) (by omega)) (by omega)) (by omega)) (by omega)) (by omega)) (by omega)) (by omega)) (by omega)) (by omega)) (by omega))) hc_ast ha_md) ⟨va_cnB 1 hts gX5_init_X4_init_n24 rfl rfl rfl (hG.2.1 (.methodLinkNest RX5 24 yX4_init RX5) (by simp [fNest])) (hts (.initialized RX4) (by decide +kernel)) (by decide +kernel) ⟨(Nat.le_of_ble_eq_true rfl), (Nat.le_of_ble_eq_true rfl)⟩, rfl, (hts (.instanceMethod yX4_init) (by decide +kernel))⟩ (fPre_of hG hI) rfl rfl hl.1 rfl (lv_room (Nat.le_of_ble_eq_true rfl)) dX5_init_73 ⟨(Nat.le_of_ble_eq_true rfl), (Nat.le_of_ble_eq_true rfl)⟩) hI (fun adN37 EN37 H locs hp hI => ?_)
  obtain ⟨hA9, hE9, hS9⟩ := hp
  have ha_md : adN37 50 = a := (hA9 50 (by omega)).trans ha_md
  have hc_md : EN37 50 = .inr (5, [.int 0, .ref aN0, .int 0, .ref aN19, .ref aN23, .int 0, .ref aN27, .ref aN31, .null]) := (hE9 50 (by omega)).trans hc_md
  have ha_mw : adN37 51 = aN0 := (hA9 51 (by omega)).trans ha_mw
  have hc_mw : EN37 51 = .inl (cI, 5, .inl (upd (upd (upd (upd (upd (fun _ => 0) 0 1) 1 2) 2 3) 3 2) 4 1)) := (hE9 51 (by omega)).trans hc_mw
  have ha_mp : adN37 52 = aN19 := (hA9 52 (by omega)).trans ha_mp
  have hc_mp : EN37 52 = .inl (cI, 6, .inl (fun _ => 0)) := (hE9 52 (by omega)).trans hc_mp
  have ha_mg : adN37 53 = aN23 := (hA9 53 (by omega)).trans ha_mg
  have hc_mg : EN37 53 = .inl (cI, 6, .inl (fun _ => 0)) := (hE9 53 (by omega)).trans hc_mg
  have ha_ms : adN37 54 = aN27 := (hA9 54 (by omega)).trans ha_ms
  have hc_ms : EN37 54 = .inl (cI, 6, .inl (fun _ => 0)) := (hE9 54 (by omega)).trans hc_ms
  have hS60 := (hS60.ad2 (fun q h1 => hA9 q (by omega))).kept (fun q h1 h2 => hE9 q (by omega))
  have ha_sst : adN37 60 = aN31 := (hA9 60 (by omega)).trans ha_sst
  have hfa : ∀ q : Nat, (q < 51 ∨ 91 ≤ q) → adN37 q = ad q := fun q hq => (hA9 q (by omega)).trans (hfa q hq)
  have hfr : ∀ q : Nat, (q < 50 ∨ 91 ≤ q) → EN37 q = E q := fun q hq => (hE9 q (by omega)).trans (hfr q hq)
  have hS80 := hS9
  have ha_ast : adN37 80 = aN36 := (hA9 80 (by omega)).trans ha_ast
  refine f_putF (ci := 5) (v := .ref aN36) (C := RX5) (T := TX5) (N := 9) hx hb hts (by decide +kernel) tyX5 tyX5_ok nmX5 hown hG.1 hI ha_md (List.mem_append_left _ (List.mem_append_left _ (List.mem_append_left _ (List.mem_append_left _ (List.mem_append_left _ (List.mem_append_left _ (List.mem_append_left _ (List.mem_append_left _ (List.mem_append_left _ (List.mem_append_left _ (List.mem_append_left _ (List.mem_append_left _ (List.mem_append_left _ (List.mem_append_left _ (List.mem_append_left _ (List.mem_append_left _ (List.mem_append_left _ (List.mem_append_left _ (List.mem_append_left _ (List.mem_append_left _ (List.mem_append_left _ (List.mem_append_left _ (List.mem_append_left _ (List.mem_append_left _ (List.mem_append_left _ (List.mem_append_left _ hk)))))))))))))))))))))))))) hc_md rfl 8 (by decide) (hts (.fieldLink RX5 31 "CoracleRaceModel" "ahead" "LCoracleRaceModel$State;") (by decide +kernel)) rfl hin rfl rfl rfl (Nat.le_of_ble_eq_true rfl) dX5_init_76 (fun E39 H locs hE40 hn41 hI => ?_)
  have hc_md : E39 50 = .inr (5, [.int 0, .ref aN0, .int 0, .ref aN19, .ref aN23, .int 0, .ref aN27, .ref aN31, .ref aN36]) := hE40
  have hc_mw : E39 51 = .inl (cI, 5, .inl (upd (upd (upd (upd (upd (fun _ => 0) 0 1) 1 2) 2 3) 3 2) 4 1)) := (hn41 51 (by omega)).trans hc_mw
  have hc_mp : E39 52 = .inl (cI, 6, .inl (fun _ => 0)) := (hn41 52 (by omega)).trans hc_mp
  have hc_mg : E39 53 = .inl (cI, 6, .inl (fun _ => 0)) := (hn41 53 (by omega)).trans hc_mg
  have hc_ms : E39 54 = .inl (cI, 6, .inl (fun _ => 0)) := (hn41 54 (by omega)).trans hc_ms
  have hfr : ∀ q : Nat, (q < 50 ∨ 91 ≤ q) → E39 q = E q := fun q hq => (hn41 q (by omega)).trans (hfr q hq)
  have hS60 := hS60.kept (fun q h1 h2 => hn41 q (by omega))
  have hS80 := hS80.kept (fun q h1 h2 => hn41 q (by omega))
  exact f_retv hQ hx hb hr hlocks hI.2.2 (by omega) (by omega) dX5_init_79 (adN37, E39) (fB_of hI) (⟨hfa, hfr, ⟨hc_md.trans (by rw [← ha_mw, ← ha_mp, ← ha_mg, ← ha_ms, ← ha_sst, ← ha_ast]; rfl), hc_mw, hc_mp, hc_mg, hc_ms⟩, hS60, 0, _, by decide, hS80⟩)
