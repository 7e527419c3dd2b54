theorem nI_nz {n : Nat} (h : 0 < n) (h2 : n < 2 ^ 31) : ¬ nI n = 0 := fun q => by
  have h3 := congrArg Int32.toNatClampNeg q
  rw [nI_clamp h2] at h3
  have h4 : (0 : Int32).toNatClampNeg = 0 := by decide
  omega
theorem va_up_twice {α : Type} (f : Nat → α) (k : Nat) (x y : α) : va_up (va_up f k x) k y = va_up f k y := by
  funext q
  by_cases h : q = k
  · subst h; rw [va_up_self, va_up_self]
  · rw [va_up_ne _ _ h, va_up_ne _ _ h, va_up_ne _ _ h]
theorem su_came {S : Nat → Nat → Int32} {i : Nat} {c : Nat → Int32} {v : Int32} : va_up (su S i c) 5 (upd (su S i c 5) i v) = su S i (va_up (va_up c 8 1) 9 v) := by
  funext q
  match q with
  | 0 => rfl
  | 1 => rfl
  | 2 => rfl
  | 3 => rfl
  | 4 => rfl
  | 5 => exact fa_upd_twice _ _ _ _
  | 6 => rfl
  | 7 => rfl
  | q + 8 => rw [va_up_ne _ _ (by omega)]; rfl
set_option maxHeartbeats 4000000 in
set_option maxRecDepth 100000 in
theorem m_X4_isIn (l : Launch) {D : va_G} {cI cJ cB : ClassId} {t0 z : Nat} {tx ad : Nat → Nat} {L : List Nat} {E : Nat → va_E} {sb a : Nat} (ha : ad sb = a) (h60 : 60 ≤ sb) (hSm : ∀ k, sb ≤ k → k < sb + 11 → k ∈ L) {T : Nat} (hTb : T < 2 ^ 31) {S : Nat → Nat → Int32} {u : Nat} (hu6 : u < 6) (hS : st_at cI ad E sb T S) : Met l yX4_isIn wsX4_isIn ({ frames := 0, cells := 0, slots := 0, locals := 0 } : Room) (va_Pc [.ref a, .int (nI u)] (fPre D cI cJ cB t0 z tx ad L E)) (va_Qi (fun (r : Int32) (E1 : Nat → va_E) => r = (if ¬ S 5 u = -1 then 1 else 0) ∧ E1 = E) (fB D z ad L) (fA z)) 0 0 (fA z) := by
  refine f_ofW (cc := cX4_isIn) (maxL := 2) (ret := some .boolean) (by decide) rfl (Nat.le_of_ble_eq_true rfl) ?_
  intro pr e s m args below meth c Q hx hb hr hml hts hown hlocks hin hG H locs hI hQ ls hl
  have hl : lv_has ls 2 [(0, .ref a), (1, .int (nI u))] := hl
  have hclu : (nI u).toNatClampNeg = u := nI_clamp (by omega)
  refine lv_aload_n hx hb dX4_isIn_0 rfl (lv_at hl 0 rfl) ?_
  refine f_get (ci := 4) (v := .ref (ad (sb + 1 + 5))) (C := RX4) (T := TX4) (N := 12) hx hb hts (by decide +kernel) hown hG.1 hI ha (hSm _ (by omega) (by omega)) (hS.1) rfl 6 (by decide) (hts (.fieldLink RX4 31 "CoracleRaceModel$State" "came" "[I") (by decide +kernel)) rfl dX4_isIn_1 ?_
  refine lv_iload_n hx hb dX4_isIn_4 rfl (lv_at hl 1 rfl) ?_
  refine f_iald hx hb hG.1 hI rfl (hSm _ (by omega) (by omega)) (hS.2 5 (by decide)) (vp_in_nI (by omega) (by omega)) dX4_isIn_5 ?_
  rw [hclu]
  refine lv_iconst (v := -1) hx hb dX4_isIn_6 (by decide) ?_
  refine lv_icmp_eq (tgt := 14) hx hb dX4_isIn_7 (by decide) (fun c_7 => ?_) (fun c_7 => ?_)
  · refine lv_iconst (v := 0) hx hb dX4_isIn_14 (by decide) ?_
    exact f_retz hQ hx hb hr hlocks hI.2.2 (by omega) (by omega) dX4_isIn_15 rfl E (fB_of hI) (⟨by simp [c_7], rfl⟩)
  · refine lv_iconst (v := 1) hx hb dX4_isIn_10 (by decide) ?_
    refine lv_goto (tgt := 15) hx hb dX4_isIn_11 (by decide) ?_
    exact f_retz hQ hx hb hr hlocks hI.2.2 (by omega) (by omega) dX4_isIn_15 rfl E (fB_of hI) (⟨by simp [c_7], rfl⟩)

set_option maxHeartbeats 4000000 in
set_option maxRecDepth 100000 in
theorem m_X4_time (l : Launch) {D : va_G} {cI cJ cB : ClassId} {t0 z : Nat} {tx ad : Nat → Nat} {L : List Nat} {E : Nat → va_E} {sb a : Nat} (ha : ad sb = a) (h60 : 60 ≤ sb) (hSm : ∀ k, sb ≤ k → k < sb + 11 → k ∈ L) {T : Nat} (hTb : T < 2 ^ 31) {S : Nat → Nat → Int32} {u : Nat} (hu6 : u < 6) (hS : st_at cI ad E sb T S) : Met l yX4_time wsX4_time ({ frames := 1, cells := 0, slots := 0, locals := 21 } : Room) (va_Pc [.ref a, .int (nI u)] (fPre D cI cJ cB t0 z tx ad L E)) (va_Qi (fun (r : Int32) (E1 : Nat → va_E) => r = m_time S u ∧ E1 = E) (fB D z ad L) (fA z)) 0 0 (fA z) := by
  refine f_ofW (cc := cX4_time) (maxL := 2) (ret := some .int) (by decide) rfl (Nat.le_of_ble_eq_true rfl) ?_
  intro pr e s m args below meth c Q hx hb hr hml hts hown hlocks hin hG H locs hI hQ ls hl
  have hl : lv_has ls 2 [(0, .ref a), (1, .int (nI u))] := hl
  have hclu : (nI u).toNatClampNeg = u := nI_clamp (by omega)
  refine lv_aload_n hx hb dX4_time_0 rfl (lv_at hl 0 rfl) ?_
  refine lv_iload_n hx hb dX4_time_1 rfl (lv_at hl 1 rfl) ?_
  refine f_calli1 (va_runV (As := [.int (nI u)]) (rest := []) ⟨hx, hb, hml, hown, hts⟩ (m_X4_isIn l ha h60 hSm hTb hu6 hS) (cwV 1 hts gX4_time_X4_isIn rfl rfl rfl (by decide +kernel) ⟨Nat.le_of_ble_eq_true rfl, Nat.le_of_ble_eq_true rfl⟩) (fPre_ofV hG hI ha (hSm _ (by omega) (by omega)) (hS.1) rfl rfl) rfl rfl hl.1 rfl (lv_room (Nat.le_of_ble_eq_true rfl)) dX4_time_2 ⟨Nat.le_of_ble_eq_true rfl, Nat.le_of_ble_eq_true rfl⟩) hI (fun r1 E2 H locs hp hI => ?_)
  obtain ⟨he, hq⟩ := hp
  rw [hq] at hI
  refine lv_if_eq (tgt := 26) hx hb dX4_time_5 (by decide) (fun c_5 => ?_) (fun c_5 => ?_)
  · have p_5 := bl_f he c_5
    refine lv_iconst (v := -1) hx hb dX4_time_26 (by decide) ?_
    exact f_reti hQ hx hb hr hlocks hI.2.2 (by omega) (by omega) dX4_time_27 E (fB_of hI) (⟨(if_pos (Decidable.not_not.mp p_5)).symm, rfl⟩)
  · have p_5 := bl_t he c_5
    refine lv_aload_n hx hb dX4_time_8 rfl (lv_at hl 0 rfl) ?_
    refine f_get (ci := 4) (v := .ref (ad (sb + 1 + 5))) (C := RX4) (T := TX4) (N := 12) hx hb hts (by decide +kernel) hown hG.1 hI ha (hSm _ (by omega) (by omega)) (hS.1) rfl 6 (by decide) (hts (.fieldLink RX4 31 "CoracleRaceModel$State" "came" "[I") (by decide +kernel)) rfl dX4_time_9 ?_
    refine lv_iload_n hx hb dX4_time_12 rfl (lv_at hl 1 rfl) ?_
    refine f_iald hx hb hG.1 hI rfl (hSm _ (by omega) (by omega)) (hS.2 5 (by decide)) (vp_in_nI (by omega) (by omega)) dX4_time_13 ?_
    rw [hclu]
    refine lv_iconst (v := 1) hx hb dX4_time_14 (by decide) ?_
    refine lv_iadd hx hb dX4_time_15 ?_
    refine lv_aload_n hx hb dX4_time_16 rfl (lv_at hl 0 rfl) ?_
    refine f_get (ci := 4) (v := .ref (ad (sb + 1 + 4))) (C := RX4) (T := TX4) (N := 12) hx hb hts (by decide +kernel) hown hG.1 hI ha (hSm _ (by omega) (by omega)) (hS.1) rfl 5 (by decide) (hts (.fieldLink RX4 28 "CoracleRaceModel$State" "fouls" "[I") (by decide +kernel)) rfl dX4_time_17 ?_
    refine lv_iload_n hx hb dX4_time_20 rfl (lv_at hl 1 rfl) ?_
    refine f_iald hx hb hG.1 hI rfl (hSm _ (by omega) (by omega)) (hS.2 4 (by decide)) (vp_in_nI (by omega) (by omega)) dX4_time_21 ?_
    rw [hclu]
    refine lv_iadd hx hb dX4_time_22 ?_
    refine lv_goto (tgt := 27) hx hb dX4_time_23 (by decide) ?_
    exact f_reti hQ hx hb hr hlocks hI.2.2 (by omega) (by omega) dX4_time_27 E (fB_of hI) (⟨(if_neg p_5).symm, rfl⟩)

set_option maxHeartbeats 4000000 in
set_option maxRecDepth 100000 in
theorem m_X4_stroke (l : Launch) {D : va_G} {cI cJ cB : ClassId} {t0 z : Nat} {tx ad : Nat → Nat} {L : List Nat} {E : Nat → va_E} {sb a : Nat} (ha : ad sb = a) (h60 : 60 ≤ sb) (hSm : ∀ k, sb ≤ k → k < sb + 11 → k ∈ L) {T : Nat} (hTb : T < 2 ^ 31) {S : Nat → Nat → Int32} {u : Nat} (hu6 : u < 6) (hS : st_at cI ad E sb T S) {t len : Nat} (ht : t < len) (hl6 : len ≤ 6) (hln : S 8 u = nI len) : Met l yX4_stroke wsX4_stroke ({ frames := 0, cells := 0, slots := 0, locals := 0 } : Room) (va_Pc [.ref a, .int (nI u), .int (nI t)] (fPre D cI cJ cB t0 z tx ad L E)) (va_Qi (fun (r : Int32) (E1 : Nat → va_E) => r = m_row (S 9 u) (nI len) t ∧ E1 = E) (fB D z ad L) (fA z)) 0 0 (fA z) := by
  refine f_ofW (cc := cX4_stroke) (maxL := 3) (ret := some .int) (by decide) rfl (Nat.le_of_ble_eq_true rfl) ?_
  intro pr e s m args below meth c Q hx hb hr hml hts hown hlocks hin hG H locs hI hQ ls hl
  have hl : lv_has ls 3 [(0, .ref a), (1, .int (nI u)), (2, .int (nI t))] := hl
  have hclu : (nI u).toNatClampNeg = u := nI_clamp (by omega)
  refine lv_aload_n hx hb dX4_stroke_0 rfl (lv_at hl 0 rfl) ?_
  refine f_get (ci := 4) (v := .ref (ad (sb + 1 + 9))) (C := RX4) (T := TX4) (N := 12) hx hb hts (by decide +kernel) hown hG.1 hI ha (hSm _ (by omega) (by omega)) (hS.1) rfl 10 (by decide) (hts (.fieldLink RX4 43 "CoracleRaceModel$State" "strokes" "[I") (by decide +kernel)) rfl dX4_stroke_1 ?_
  refine lv_iload_n hx hb dX4_stroke_4 rfl (lv_at hl 1 rfl) ?_
  refine f_iald hx hb hG.1 hI rfl (hSm _ (by omega) (by omega)) (hS.2 9 (by decide)) (vp_in_nI (by omega) (by omega)) dX4_stroke_5 ?_
  rw [hclu]
  refine va_getsN hx hb hG.2.2.1 hI.2.2 hown (hG.2.1 (.fieldLinkNest RX4 64 RX5 "TENS" "[I" RX5) (by simp [fNest])) (fun _ h9 => h9) dX4_stroke_6 ?_
  refine lv_aload_n hx hb dX4_stroke_9 rfl (lv_at hl 0 rfl) ?_
  refine f_get (ci := 4) (v := .ref (ad (sb + 1 + 8))) (C := RX4) (T := TX4) (N := 12) hx hb hts (by decide +kernel) hown hG.1 hI ha (hSm _ (by omega) (by omega)) (hS.1) rfl 9 (by decide) (hts (.fieldLink RX4 40 "CoracleRaceModel$State" "length" "[I") (by decide +kernel)) rfl dX4_stroke_10 ?_
  refine lv_iload_n hx hb dX4_stroke_13 rfl (lv_at hl 1 rfl) ?_
  refine f_iald hx hb hG.1 hI rfl (hSm _ (by omega) (by omega)) (hS.2 8 (by decide)) (vp_in_nI (by omega) (by omega)) dX4_stroke_14 ?_
  refine lv_topi (fun tv etv => ?_)
  have etv : tv = (nI len) := etv.trans (by rw [hclu]; exact hln)
  subst etv
  refine lv_iconst (v := 1) hx hb dX4_stroke_15 (by decide) ?_
  refine lv_isub hx hb dX4_stroke_16 ?_
  refine lv_iload_n hx hb dX4_stroke_17 rfl (lv_at hl 2 rfl) ?_
  refine lv_isub hx hb dX4_stroke_18 ?_
  refine f_ten hx hb hG hI.2.2 (ten_ix ht hl6) dX4_stroke_19 ?_
  refine lv_idiv hx hb dX4_stroke_20 (fTen_ne _) ?_
  refine lv_bipush (v := 10) hx hb dX4_stroke_21 (by decide) ?_
  refine lv_irem hx hb dX4_stroke_23 (by decide) ?_
  exact f_reti hQ hx hb hr hlocks hI.2.2 (by omega) (by omega) dX4_stroke_24 E (fB_of hI) (⟨rfl, rfl⟩)

set_option maxHeartbeats 4000000 in
set_option maxRecDepth 100000 in
theorem m_X4_soak (l : Launch) {D : va_G} {cI cJ cB : ClassId} {t0 z : Nat} {tx ad : Nat → Nat} {L : List Nat} {E : Nat → va_E} {sb a : Nat} (ha : ad sb = a) (h60 : 60 ≤ sb) (hSm : ∀ k, sb ≤ k → k < sb + 11 → k ∈ L) {T : Nat} (hTb : T < 2 ^ 31) {S : Nat → Nat → Int32} {u : Nat} (hu6 : u < 6) {bf : Nat → Int32} (hS : st_at cI ad E sb T (su S u bf)) (x : Int32) : Met l yX4_soak wsX4_soak ({ frames := 1, cells := 0, slots := 0, locals := 15 } : Room) (va_Pc [.ref a, .int (nI u), .int x] (fPre D cI cJ cB t0 z tx ad L E)) (va_Qv (fun (E1 : Nat → va_E) => st_at cI ad E1 sb T (su S u (p_soak bf x)) ∧ ∀ q : Nat, (q < sb ∨ sb + 11 ≤ q) → E1 q = E q) (fB D z ad L) (fA z)) 0 0 (fA z) := by
  refine f_ofW (cc := cX4_soak) (maxL := 3) (ret := none) (by decide) rfl (Nat.le_of_ble_eq_true rfl) ?_
  intro pr e s m args below meth c Q hx hb hr hml hts hown hlocks hin hG H locs hI hQ ls hl
  have hl : lv_has ls 3 [(0, .ref a), (1, .int (nI u)), (2, .int x)] := hl
  have hfr : ∀ q : Nat, (q < sb ∨ sb + 11 ≤ q) → E q = E q := fun _ _ => rfl
  have hclu : (nI u).toNatClampNeg = u := nI_clamp (by omega)
  refine lv_aload_n hx hb dX4_soak_0 rfl (lv_at hl 0 rfl) ?_
  refine f_get (ci := 4) (v := .ref (ad (sb + 1 + 3))) (C := RX4) (T := TX4) (N := 12) hx hb hts (by decide +kernel) hown hG.1 hI ha (hSm _ (by omega) (by omega)) (hS.1) rfl 4 (by decide) (hts (.fieldLink RX4 25 "CoracleRaceModel$State" "soaked" "[I") (by decide +kernel)) rfl dX4_soak_1 ?_
  refine lv_iload_n hx hb dX4_soak_4 rfl (lv_at hl 1 rfl) ?_
  refine lv_bipush (v := 30) hx hb dX4_soak_5 (by decide) ?_
  refine lv_aload_n hx hb dX4_soak_7 rfl (lv_at hl 0 rfl) ?_
  refine f_get (ci := 4) (v := .ref (ad (sb + 1 + 3))) (C := RX4) (T := TX4) (N := 12) hx hb hts (by decide +kernel) hown hG.1 hI ha (hSm _ (by omega) (by omega)) (hS.1) rfl 4 (by decide) (hts (.fieldLink RX4 25 "CoracleRaceModel$State" "soaked" "[I") (by decide +kernel)) rfl dX4_soak_8 ?_
  refine lv_iload_n hx hb dX4_soak_11 rfl (lv_at hl 1 rfl) ?_
  refine f_iald hx hb hG.1 hI rfl (hSm _ (by omega) (by omega)) (hS.2 3 (by decide)) (vp_in_nI (by omega) (by omega)) dX4_soak_12 ?_
  refine lv_topi (fun tv etv => ?_)
  have etv : tv = (bf 6) := etv.trans (by rw [hclu]; exact pk_us)
  subst etv
  refine lv_iload_n hx hb dX4_soak_13 rfl (lv_at hl 2 rfl) ?_
  refine lv_iadd hx hb dX4_soak_14 ?_
  refine va_mmin hx hb (hml.trans hl.1.symm) hown (hts (.methodLink RX4 67 Lib.Math.min.name) (by decide +kernel)) (hts (.static Lib.Math.min.name) (by decide +kernel)) (hts (.initialized "java/lang/Math") (by decide +kernel)) (hts (.code Lib.Math.min.name Lib.Math.min.code 2 (some .int)) (by decide +kernel)) (Nat.le_of_ble_eq_true rfl) (Nat.le_of_ble_eq_true rfl) (Nat.zero_le _) (Nat.zero_le _) dX4_soak_15 ?_
  refine lv_topi (fun tv etv => ?_)
  have etv : tv = (p_min (bf 6 + x) 30) := etv.trans (min_comm _ _)
  subst etv
  refine f_iast hx hb hG.1 hI rfl (hSm _ (by omega) (by omega)) (hS.2 3 (by decide)) (vp_in_nI (by omega) (by omega)) dX4_soak_18 (fun E1 H locs hE2 hn3 hI => ?_)
  rw [hclu] at hE2
  have hS := hS.row (j := 3) (by decide) hE2 (fun q hq => hn3 q hq)
  have hS : st_at cI ad E1 sb T (su S u (va_up bf 6 (p_min (bf 6 + x) 30))) := by rw [su_put _ _ _ _ (by decide)] at hS; exact hS
  have hfr : ∀ q : Nat, (q < sb ∨ sb + 11 ≤ q) → E1 q = E q := fun q hq => (hn3 q (by omega)).trans (hfr q hq)
  exact f_retv hQ hx hb hr hlocks hI.2.2 (by omega) (by omega) dX4_soak_19 E1 (fB_of hI) (⟨hS, hfr⟩)

set_option maxHeartbeats 4000000 in
set_option maxRecDepth 100000 in
theorem m_X4_stopsAt (l : Launch) {D : va_G} {cI cJ cB : ClassId} {t0 z : Nat} {tx ad : Nat → Nat} {L : List Nat} {E : Nat → va_E} {sb a : Nat} (ha : ad sb = a) (h60 : 60 ≤ sb) (hSm : ∀ k, sb ≤ k → k < sb + 11 → k ∈ L) {T : Nat} (hTb : T < 2 ^ 31) {S : Nat → Nat → Int32} {u : Nat} (hu6 : u < 6) {bf : Nat → Int32} (hS : st_at cI ad E sb T (su S u bf)) (hMm : ∀ k, 50 ≤ k → k < 55 → k ∈ L) {th : Int32} {w p g : Nat → Int32} {nw n : Nat} {str : Nat → Int32} (hM : m_at cI ad E th w p g nw n str) (hNW : nw ≤ 6) (hN6 : n ≤ 6) (to : Int32) : Met l yX4_stopsAt wsX4_stopsAt ({ frames := 0, cells := 0, slots := 0, locals := 0 } : Room) (va_Pc [.ref a, .int (nI u), .int to] (fPre D cI cJ cB t0 z tx ad L E)) (va_Qi (fun (r : Int32) (E1 : Nat → va_E) => r = p_stop p g (bf 3) to (bf 4) nw ∧ E1 = E) (fB D z ad L) (fA z)) 0 0 (fA z) := by
  refine f_ofW (cc := cX4_stopsAt) (maxL := 5) (ret := some .int) (by decide) rfl (Nat.le_of_ble_eq_true rfl) ?_
  intro pr e s m args below meth c Q hx hb hr hml hts hown hlocks hin hG H locs hI hQ ls hl
  have hl : lv_has ls 5 [(0, .ref a), (1, .int (nI u)), (2, .int to)] := hl
  have hclu : (nI u).toNatClampNeg = u := nI_clamp (by omega)
  refine lv_iconst (v := -1) hx hb dX4_stopsAt_0 (by decide) ?_
  refine lv_istore_n (lv' := [(3, .int (-1)), (0, .ref a), (1, .int (nI u)), (2, .int to)]) hx hb dX4_stopsAt_1 rfl hl (by decide) rfl (fun ls hl => ?_)
  refine lv_iconst (v := 0) hx hb dX4_stopsAt_2 (by decide) ?_
  refine lv_istore (lv' := [(4, .int 0), (3, .int (-1)), (0, .ref a), (1, .int (nI u)), (2, .int to)]) hx hb dX4_stopsAt_3 hl (by decide) rfl (fun ls hl => ?_)
  have K : ∀ (k i : Nat), i ≤ nw → nw + 1 ≤ i + k → ∀ (H : Heap) (locs : List Loc) (ls : Array Slot), fI D (fA z) s.heap ad L E H locs → lv_has ls 5 [(0, .ref a), (1, .int (nI u)), (2, .int to), (3, .int (p_stop p g (bf 3) to (bf 4) i)), (4, .int (nI i))] → W pr l e ({ frames := 0, cells := 0, slots := 0, locals := 0 } : Room) s m args below meth c H locs 0 0 Q (F0 m 5 ls []) := by
    intro k
    induction k with
    | zero => intro i h1 h2; exact absurd h2 (by omega)
    | succ k ih =>
      intro i hi1 hi2 H locs ls hI hl
      refine lv_iload hx hb dX4_stopsAt_5 (lv_at hl 4 rfl) ?_
      refine lv_aload_n hx hb dX4_stopsAt_7 rfl (lv_at hl 0 rfl) ?_
      refine f_get (ci := 4) (v := .ref (ad 50)) (C := RX4) (T := TX4) (N := 12) hx hb hts (by decide +kernel) hown hG.1 hI ha (hSm _ (by omega) (by omega)) (hS.1) rfl 11 (by decide) (hts (.fieldLink RX4 3 "CoracleRaceModel$State" "this$0" "LCoracleRaceModel;") (by decide +kernel)) rfl dX4_stopsAt_8 ?_
      refine f_getN (ci := 5) (v := .int (nI nw)) (C := RX5) (T := TX5) (N := 9) hx hb hts (by decide +kernel) hown hG.1 hI rfl (hMm _ (by omega) (by omega)) (hM.1) rfl 2 (by decide) (hG.2.1 (.fieldLinkNest RX4 86 RX5 "weirs" "I" RX5) (by simp [fNest])) rfl dX4_stopsAt_11 ?_
      refine lv_icmp_ge (tgt := 105) hx hb dX4_stopsAt_14 (by decide) (fun c_14 => ?_) (fun c_14 => ?_)
      · have n_14 := i_nlt.mpr c_14
        have hi : i = nw := by have := (nI_leI (by omega) (by omega)).mp c_14; omega
        refine lv_iload_n hx hb dX4_stopsAt_105 rfl (lv_at hl 3 rfl) ?_
        exact f_reti hQ hx hb hr hlocks hI.2.2 (by omega) (by omega) dX4_stopsAt_106 E (fB_of hI) (⟨by rw [hi], rfl⟩)
      · have n_14 := c_14
        have c_14 := i_nle.mp n_14
        have hi : i < nw := (nI_ltI (by omega) (by omega)).mp c_14
        have hcl : (nI i).toNatClampNeg = i := nI_clamp (by omega)
        refine lv_aload_n hx hb dX4_stopsAt_17 rfl (lv_at hl 0 rfl) ?_
        refine f_get (ci := 4) (v := .ref (ad 50)) (C := RX4) (T := TX4) (N := 12) hx hb hts (by decide +kernel) hown hG.1 hI ha (hSm _ (by omega) (by omega)) (hS.1) rfl 11 (by decide) (hts (.fieldLink RX4 3 "CoracleRaceModel$State" "this$0" "LCoracleRaceModel;") (by decide +kernel)) rfl dX4_stopsAt_18 ?_
        refine f_getN (ci := 5) (v := .ref (ad 52)) (C := RX5) (T := TX5) (N := 9) hx hb hts (by decide +kernel) hown hG.1 hI rfl (hMm _ (by omega) (by omega)) (hM.1) rfl 3 (by decide) (hG.2.1 (.fieldLinkNest RX4 89 RX5 "weirAt" "[I" RX5) (by simp [fNest])) rfl dX4_stopsAt_21 ?_
        refine lv_iload hx hb dX4_stopsAt_24 (lv_at hl 4 rfl) ?_
        refine f_iald hx hb hG.1 hI rfl (hMm _ (by omega) (by omega)) (hM.2.2.1) (vp_in_nI (by omega) (by omega)) dX4_stopsAt_26 ?_
        rw [hcl]
        refine lv_aload_n hx hb dX4_stopsAt_27 rfl (lv_at hl 0 rfl) ?_
        refine f_get (ci := 4) (v := .ref (ad (sb + 1 + 0))) (C := RX4) (T := TX4) (N := 12) hx hb hts (by decide +kernel) hown hG.1 hI ha (hSm _ (by omega) (by omega)) (hS.1) rfl 1 (by decide) (hts (.fieldLink RX4 15 "CoracleRaceModel$State" "place" "[I") (by decide +kernel)) rfl dX4_stopsAt_28 ?_
        refine lv_iload_n hx hb dX4_stopsAt_31 rfl (lv_at hl 1 rfl) ?_
        refine f_iald hx hb hG.1 hI rfl (hSm _ (by omega) (by omega)) (hS.2 0 (by decide)) (vp_in_nI (by omega) (by omega)) dX4_stopsAt_32 ?_
        refine lv_topi (fun tv etv => ?_)
        have etv : tv = (bf 3) := etv.trans (by rw [hclu]; exact pk_us)
        subst etv
        refine lv_icmp_le (tgt := 99) hx hb dX4_stopsAt_33 (by decide) (fun c_33 => ?_) (fun c_33 => ?_)
        · have n_33 := i_nlt.mpr c_33
          refine lv_iinc (v := (nI (i + 1))) (lv' := [(4, .int (nI (i + 1))), (0, .ref a), (1, .int (nI u)), (2, .int to), (3, .int (p_stop p g (bf 3) to (bf 4) i))]) hx hb dX4_stopsAt_99 hl (k := 4) rfl (nI_1 i) (by decide) rfl (fun ls hl => ?_)
          refine lv_goto (tgt := 5) hx hb dX4_stopsAt_102 (by decide) ?_
          refine ih (i + 1) (by omega) (by omega) H locs ls hI ?_
          rw [show p_stop p g (bf 3) to (bf 4) (i + 1) = (p_stop p g (bf 3) to (bf 4) i) by first | rfl | (rw [p_stop]; simp [c_14, n_14, c_33, n_33]; done)]
          exact lv_sub hl [1, 2, 3, 4, 0] rfl
        · have n_33 := c_33
          have c_33 := i_nle.mp n_33
          refine lv_aload_n hx hb dX4_stopsAt_36 rfl (lv_at hl 0 rfl) ?_
          refine f_get (ci := 4) (v := .ref (ad 50)) (C := RX4) (T := TX4) (N := 12) hx hb hts (by decide +kernel) hown hG.1 hI ha (hSm _ (by omega) (by omega)) (hS.1) rfl 11 (by decide) (hts (.fieldLink RX4 3 "CoracleRaceModel$State" "this$0" "LCoracleRaceModel;") (by decide +kernel)) rfl dX4_stopsAt_37 ?_
          refine f_getN (ci := 5) (v := .ref (ad 52)) (C := RX5) (T := TX5) (N := 9) hx hb hts (by decide +kernel) hown hG.1 hI rfl (hMm _ (by omega) (by omega)) (hM.1) rfl 3 (by decide) (hG.2.1 (.fieldLinkNest RX4 89 RX5 "weirAt" "[I" RX5) (by simp [fNest])) rfl dX4_stopsAt_40 ?_
          refine lv_iload hx hb dX4_stopsAt_43 (lv_at hl 4 rfl) ?_
          refine f_iald hx hb hG.1 hI rfl (hMm _ (by omega) (by omega)) (hM.2.2.1) (vp_in_nI (by omega) (by omega)) dX4_stopsAt_45 ?_
          rw [hcl]
          refine lv_iload_n hx hb dX4_stopsAt_46 rfl (lv_at hl 2 rfl) ?_
          refine lv_icmp_gt (tgt := 99) hx hb dX4_stopsAt_47 (by decide) (fun c_47 => ?_) (fun c_47 => ?_)
          · have n_47 := i_nle.mpr c_47
            refine lv_iinc (v := (nI (i + 1))) (lv' := [(4, .int (nI (i + 1))), (0, .ref a), (1, .int (nI u)), (2, .int to), (3, .int (p_stop p g (bf 3) to (bf 4) i))]) hx hb dX4_stopsAt_99 hl (k := 4) rfl (nI_1 i) (by decide) rfl (fun ls hl => ?_)
            refine lv_goto (tgt := 5) hx hb dX4_stopsAt_102 (by decide) ?_
            refine ih (i + 1) (by omega) (by omega) H locs ls hI ?_
            rw [show p_stop p g (bf 3) to (bf 4) (i + 1) = (p_stop p g (bf 3) to (bf 4) i) by first | rfl | (rw [p_stop]; simp [c_14, n_14, c_33, n_33, c_47, n_47]; done)]
            exact lv_sub hl [1, 2, 3, 4, 0] rfl
          · have n_47 := c_47
            have c_47 := i_nlt.mp n_47
            refine lv_aload_n hx hb dX4_stopsAt_50 rfl (lv_at hl 0 rfl) ?_
            refine f_get (ci := 4) (v := .ref (ad 50)) (C := RX4) (T := TX4) (N := 12) hx hb hts (by decide +kernel) hown hG.1 hI ha (hSm _ (by omega) (by omega)) (hS.1) rfl 11 (by decide) (hts (.fieldLink RX4 3 "CoracleRaceModel$State" "this$0" "LCoracleRaceModel;") (by decide +kernel)) rfl dX4_stopsAt_51 ?_
            refine f_getN (ci := 5) (v := .ref (ad 53)) (C := RX5) (T := TX5) (N := 9) hx hb hts (by decide +kernel) hown hG.1 hI rfl (hMm _ (by omega) (by omega)) (hM.1) rfl 4 (by decide) (hG.2.1 (.fieldLinkNest RX4 92 RX5 "gap" "[I" RX5) (by simp [fNest])) rfl dX4_stopsAt_54 ?_
            refine lv_iload hx hb dX4_stopsAt_57 (lv_at hl 4 rfl) ?_
            refine f_iald hx hb hG.1 hI rfl (hMm _ (by omega) (by omega)) (hM.2.2.2.1) (vp_in_nI (by omega) (by omega)) dX4_stopsAt_59 ?_
            rw [hcl]
            refine lv_aload_n hx hb dX4_stopsAt_60 rfl (lv_at hl 0 rfl) ?_
            refine f_get (ci := 4) (v := .ref (ad (sb + 1 + 1))) (C := RX4) (T := TX4) (N := 12) hx hb hts (by decide +kernel) hown hG.1 hI ha (hSm _ (by omega) (by omega)) (hS.1) rfl 2 (by decide) (hts (.fieldLink RX4 19 "CoracleRaceModel$State" "lane" "[I") (by decide +kernel)) rfl dX4_stopsAt_61 ?_
            refine lv_iload_n hx hb dX4_stopsAt_64 rfl (lv_at hl 1 rfl) ?_
            refine f_iald hx hb hG.1 hI rfl (hSm _ (by omega) (by omega)) (hS.2 1 (by decide)) (vp_in_nI (by omega) (by omega)) dX4_stopsAt_65 ?_
            refine lv_topi (fun tv etv => ?_)
            have etv : tv = (bf 4) := etv.trans (by rw [hclu]; exact pk_us)
            subst etv
            refine lv_icmp_eq (tgt := 99) hx hb dX4_stopsAt_66 (by decide) (fun c_66 => ?_) (fun c_66 => ?_)
            · refine lv_iinc (v := (nI (i + 1))) (lv' := [(4, .int (nI (i + 1))), (0, .ref a), (1, .int (nI u)), (2, .int to), (3, .int (p_stop p g (bf 3) to (bf 4) i))]) hx hb dX4_stopsAt_99 hl (k := 4) rfl (nI_1 i) (by decide) rfl (fun ls hl => ?_)
              refine lv_goto (tgt := 5) hx hb dX4_stopsAt_102 (by decide) ?_
              refine ih (i + 1) (by omega) (by omega) H locs ls hI ?_
              rw [show p_stop p g (bf 3) to (bf 4) (i + 1) = (p_stop p g (bf 3) to (bf 4) i) by first | rfl | (rw [p_stop]; simp [c_14, n_14, c_33, n_33, c_47, n_47, c_66]; done)]
              exact lv_sub hl [1, 2, 3, 4, 0] rfl
            · refine lv_iload_n hx hb dX4_stopsAt_69 rfl (lv_at hl 3 rfl) ?_
              refine lv_iconst (v := -1) hx hb dX4_stopsAt_70 (by decide) ?_
              refine lv_icmp_eq (tgt := 88) hx hb dX4_stopsAt_71 (by decide) (fun c_71 => ?_) (fun c_71 => ?_)
              · refine lv_aload_n hx hb dX4_stopsAt_88 rfl (lv_at hl 0 rfl) ?_
                refine f_get (ci := 4) (v := .ref (ad 50)) (C := RX4) (T := TX4) (N := 12) hx hb hts (by decide +kernel) hown hG.1 hI ha (hSm _ (by omega) (by omega)) (hS.1) rfl 11 (by decide) (hts (.fieldLink RX4 3 "CoracleRaceModel$State" "this$0" "LCoracleRaceModel;") (by decide +kernel)) rfl dX4_stopsAt_89 ?_
                refine f_getN (ci := 5) (v := .ref (ad 52)) (C := RX5) (T := TX5) (N := 9) hx hb hts (by decide +kernel) hown hG.1 hI rfl (hMm _ (by omega) (by omega)) (hM.1) rfl 3 (by decide) (hG.2.1 (.fieldLinkNest RX4 89 RX5 "weirAt" "[I" RX5) (by simp [fNest])) rfl dX4_stopsAt_92 ?_
                refine lv_iload hx hb dX4_stopsAt_95 (lv_at hl 4 rfl) ?_
                refine f_iald hx hb hG.1 hI rfl (hMm _ (by omega) (by omega)) (hM.2.2.1) (vp_in_nI (by omega) (by omega)) dX4_stopsAt_97 ?_
                rw [hcl]
                refine lv_istore_n (lv' := [(3, .int (p i)), (0, .ref a), (1, .int (nI u)), (2, .int to), (4, .int (nI i))]) hx hb dX4_stopsAt_98 rfl hl (by decide) rfl (fun ls hl => ?_)
                refine lv_iinc (v := (nI (i + 1))) (lv' := [(4, .int (nI (i + 1))), (3, .int (p i)), (0, .ref a), (1, .int (nI u)), (2, .int to)]) hx hb dX4_stopsAt_99 hl (k := 4) rfl (nI_1 i) (by decide) rfl (fun ls hl => ?_)
                refine lv_goto (tgt := 5) hx hb dX4_stopsAt_102 (by decide) ?_
                refine ih (i + 1) (by omega) (by omega) H locs ls hI ?_
                rw [show p_stop p g (bf 3) to (bf 4) (i + 1) = (p i) by first | rfl | (rw [p_stop]; simp [c_14, n_14, c_33, n_33, c_47, n_47, c_66, c_71]; done)]
                exact lv_sub hl [2, 3, 4, 1, 0] rfl
              · refine lv_aload_n hx hb dX4_stopsAt_74 rfl (lv_at hl 0 rfl) ?_
                refine f_get (ci := 4) (v := .ref (ad 50)) (C := RX4) (T := TX4) (N := 12) hx hb hts (by decide +kernel) hown hG.1 hI ha (hSm _ (by omega) (by omega)) (hS.1) rfl 11 (by decide) (hts (.fieldLink RX4 3 "CoracleRaceModel$State" "this$0" "LCoracleRaceModel;") (by decide +kernel)) rfl dX4_stopsAt_75 ?_
                refine f_getN (ci := 5) (v := .ref (ad 52)) (C := RX5) (T := TX5) (N := 9) hx hb hts (by decide +kernel) hown hG.1 hI rfl (hMm _ (by omega) (by omega)) (hM.1) rfl 3 (by decide) (hG.2.1 (.fieldLinkNest RX4 89 RX5 "weirAt" "[I" RX5) (by simp [fNest])) rfl dX4_stopsAt_78 ?_
                refine lv_iload hx hb dX4_stopsAt_81 (lv_at hl 4 rfl) ?_
                refine f_iald hx hb hG.1 hI rfl (hMm _ (by omega) (by omega)) (hM.2.2.1) (vp_in_nI (by omega) (by omega)) dX4_stopsAt_83 ?_
                rw [hcl]
                refine lv_iload_n hx hb dX4_stopsAt_84 rfl (lv_at hl 3 rfl) ?_
                refine lv_icmp_ge (tgt := 99) hx hb dX4_stopsAt_85 (by decide) (fun c_85 => ?_) (fun c_85 => ?_)
                · have n_85 := i_nlt.mpr c_85
                  refine lv_iinc (v := (nI (i + 1))) (lv' := [(4, .int (nI (i + 1))), (0, .ref a), (1, .int (nI u)), (2, .int to), (3, .int (p_stop p g (bf 3) to (bf 4) i))]) hx hb dX4_stopsAt_99 hl (k := 4) rfl (nI_1 i) (by decide) rfl (fun ls hl => ?_)
                  refine lv_goto (tgt := 5) hx hb dX4_stopsAt_102 (by decide) ?_
                  refine ih (i + 1) (by omega) (by omega) H locs ls hI ?_
                  rw [show p_stop p g (bf 3) to (bf 4) (i + 1) = (p_stop p g (bf 3) to (bf 4) i) by first | rfl | (rw [p_stop]; simp [c_14, n_14, c_33, n_33, c_47, n_47, c_66, c_71, c_85, n_85]; done)]
                  exact lv_sub hl [1, 2, 3, 4, 0] rfl
                · have n_85 := c_85
                  have c_85 := i_nle.mp n_85
                  refine lv_aload_n hx hb dX4_stopsAt_88 rfl (lv_at hl 0 rfl) ?_
                  refine f_get (ci := 4) (v := .ref (ad 50)) (C := RX4) (T := TX4) (N := 12) hx hb hts (by decide +kernel) hown hG.1 hI ha (hSm _ (by omega) (by omega)) (hS.1) rfl 11 (by decide) (hts (.fieldLink RX4 3 "CoracleRaceModel$State" "this$0" "LCoracleRaceModel;") (by decide +kernel)) rfl dX4_stopsAt_89 ?_
                  refine f_getN (ci := 5) (v := .ref (ad 52)) (C := RX5) (T := TX5) (N := 9) hx hb hts (by decide +kernel) hown hG.1 hI rfl (hMm _ (by omega) (by omega)) (hM.1) rfl 3 (by decide) (hG.2.1 (.fieldLinkNest RX4 89 RX5 "weirAt" "[I" RX5) (by simp [fNest])) rfl dX4_stopsAt_92 ?_
                  refine lv_iload hx hb dX4_stopsAt_95 (lv_at hl 4 rfl) ?_
                  refine f_iald hx hb hG.1 hI rfl (hMm _ (by omega) (by omega)) (hM.2.2.1) (vp_in_nI (by omega) (by omega)) dX4_stopsAt_97 ?_
                  rw [hcl]
                  refine lv_istore_n (lv' := [(3, .int (p i)), (0, .ref a), (1, .int (nI u)), (2, .int to), (4, .int (nI i))]) hx hb dX4_stopsAt_98 rfl hl (by decide) rfl (fun ls hl => ?_)
                  refine lv_iinc (v := (nI (i + 1))) (lv' := [(4, .int (nI (i + 1))), (3, .int (p i)), (0, .ref a), (1, .int (nI u)), (2, .int to)]) hx hb dX4_stopsAt_99 hl (k := 4) rfl (nI_1 i) (by decide) rfl (fun ls hl => ?_)
                  refine lv_goto (tgt := 5) hx hb dX4_stopsAt_102 (by decide) ?_
                  refine ih (i + 1) (by omega) (by omega) H locs ls hI ?_
                  rw [show p_stop p g (bf 3) to (bf 4) (i + 1) = (p i) by first | rfl | (rw [p_stop]; simp [c_14, n_14, c_33, n_33, c_47, n_47, c_66, c_71, c_85, n_85]; done)]
                  exact lv_sub hl [2, 3, 4, 1, 0] rfl
  exact K (nw + 1) 0 (Nat.zero_le _) (by omega) H locs ls hI (lv_sub hl [2, 3, 4, 1, 0] rfl)

set_option maxHeartbeats 4000000 in
set_option maxRecDepth 100000 in
theorem m_X4_paddles (l : Launch) {D : va_G} {cI cJ cB : ClassId} {t0 z : Nat} {tx ad : Nat → Nat} {L : List Nat} {E : Nat → va_E} {sb a : Nat} (ha : ad sb = a) (h60 : 60 ≤ sb) (hSm : ∀ k, sb ≤ k → k < sb + 11 → k ∈ L) {T : Nat} (hTb : T < 2 ^ 31) {S : Nat → Nat → Int32} {u : Nat} (hu6 : u < 6) {bf : Nat → Int32} (hS : st_at cI ad E sb T (su S u bf)) {len : Nat} (h1l : 0 < len) (hl6 : len ≤ 6) (hln : S 8 u = nI len) (hMm : ∀ k, 50 ≤ k → k < 55 → k ∈ L) {th : Int32} {w p g : Nat → Int32} {nw n : Nat} {str : Nat → Int32} (hM : m_at cI ad E th w p g nw n str) (hNW : nw ≤ 6) (hN6 : n ≤ 6) (hc2 : bf 2 = str u) (h5 : -4 ≤ bf 5 ∧ bf 5 ≤ 4) : Met l yX4_paddles wsX4_paddles ({ frames := 1, cells := 0, slots := 0, locals := 22 } : Room) (va_Pc [.ref a, .int (nI u)] (fPre D cI cJ cB t0 z tx ad L E)) (va_Qi (fun (r : Int32) (E1 : Nat → va_E) => r = p_force bf (m_row (S 9 u) (nI len) (T % len)) ∧ st_at cI ad E1 sb T (su S u (p_turn bf (m_row (S 9 u) (nI len) (T % len)))) ∧ ∀ q : Nat, (q < sb ∨ sb + 11 ≤ q) → E1 q = E q) (fB D z ad L) (fA z)) 0 0 (fA z) := by
  refine f_ofW (cc := cX4_paddles) (maxL := 4) (ret := some .int) (by decide) rfl (Nat.le_of_ble_eq_true rfl) ?_
  intro pr e s m args below meth c Q hx hb hr hml hts hown hlocks hin hG H locs hI hQ ls hl
  have hl : lv_has ls 4 [(0, .ref a), (1, .int (nI u))] := hl
  have hfr : ∀ q : Nat, (q < sb ∨ sb + 11 ≤ q) → E q = E q := fun _ _ => rfl
  have hclu : (nI u).toNatClampNeg = u := nI_clamp (by omega)
  refine lv_aload_n hx hb dX4_paddles_0 rfl (lv_at hl 0 rfl) ?_
  refine lv_iload_n hx hb dX4_paddles_1 rfl (lv_at hl 1 rfl) ?_
  refine lv_aload_n hx hb dX4_paddles_2 rfl (lv_at hl 0 rfl) ?_
  refine f_get (ci := 4) (v := .int (nI T)) (C := RX4) (T := TX4) (N := 12) hx hb hts (by decide +kernel) hown hG.1 hI ha (hSm _ (by omega) (by omega)) (hS.1) rfl 0 (by decide) (hts (.fieldLink RX4 52 "CoracleRaceModel$State" "tick" "I") (by decide +kernel)) rfl dX4_paddles_3 ?_
  refine lv_aload_n hx hb dX4_paddles_6 rfl (lv_at hl 0 rfl) ?_
  refine f_get (ci := 4) (v := .ref (ad (sb + 1 + 8))) (C := RX4) (T := TX4) (N := 12) hx hb hts (by decide +kernel) hown hG.1 hI ha (hSm _ (by omega) (by omega)) (hS.1) rfl 9 (by decide) (hts (.fieldLink RX4 40 "CoracleRaceModel$State" "length" "[I") (by decide +kernel)) rfl dX4_paddles_7 ?_
  refine lv_iload_n hx hb dX4_paddles_10 rfl (lv_at hl 1 rfl) ?_
  refine f_iald hx hb hG.1 hI rfl (hSm _ (by omega) (by omega)) (hS.2 8 (by decide)) (vp_in_nI (by omega) (by omega)) dX4_paddles_11 ?_
  refine lv_topi (fun tv etv => ?_)
  have etv : tv = (nI len) := etv.trans (by rw [hclu]; exact hln)
  subst etv
  refine lv_irem hx hb dX4_paddles_12 (nI_nz h1l (by omega)) ?_
  refine lv_topi (fun tv etv => ?_)
  have etv : tv = (nI (T % len)) := etv.trans (pk_rem hTb h1l (by omega))
  subst etv
  refine f_calli1 (va_runV (As := [.int (nI u), .int (nI (T % len))]) (rest := []) ⟨hx, hb, hml, hown, hts⟩ (m_X4_stroke l ha h60 hSm hTb hu6 hS (Nat.mod_lt T h1l) hl6 hln) (cwV 2 hts gX4_paddles_X4_stroke rfl rfl rfl (by decide +kernel) ⟨Nat.le_of_ble_eq_true rfl, Nat.le_of_ble_eq_true rfl⟩) (fPre_ofV hG hI ha (hSm _ (by omega) (by omega)) (hS.1) rfl rfl) rfl rfl hl.1 rfl (lv_room (Nat.le_of_ble_eq_true rfl)) dX4_paddles_13 ⟨Nat.le_of_ble_eq_true rfl, Nat.le_of_ble_eq_true rfl⟩) hI (fun r1 E2 H locs hp hI => ?_)
  obtain ⟨he, hq⟩ := hp
  rw [hq] at hI
  have he : r1 = (m_row (S 9 u) (nI len) (T % len)) := he
  refine lv_istore_n (lv' := [(2, .int r1), (0, .ref a), (1, .int (nI u))]) hx hb dX4_paddles_16 rfl hl (by decide) rfl (fun ls hl => ?_)
  refine lv_aload_n hx hb dX4_paddles_17 rfl (lv_at hl 1 rfl) ?_
  refine f_get (ci := 4) (v := .ref (ad (sb + 1 + 2))) (C := RX4) (T := TX4) (N := 12) hx hb hts (by decide +kernel) hown hG.1 hI ha (hSm _ (by omega) (by omega)) (hS.1) rfl 3 (by decide) (hts (.fieldLink RX4 22 "CoracleRaceModel$State" "heads" "[I") (by decide +kernel)) rfl dX4_paddles_18 ?_
  refine lv_iload_n hx hb dX4_paddles_21 rfl (lv_at hl 2 rfl) ?_
  refine lv_dup2_11 hx hb dX4_paddles_22 rfl rfl ?_
  refine f_iald hx hb hG.1 hI rfl (hSm _ (by omega) (by omega)) (hS.2 2 (by decide)) (vp_in_nI (by omega) (by omega)) dX4_paddles_23 ?_
  refine lv_topi (fun tv etv => ?_)
  have etv : tv = (bf 5) := etv.trans (by rw [hclu]; exact pk_us)
  subst etv
  refine lv_iload_n hx hb dX4_paddles_24 rfl (lv_at hl 0 rfl) ?_
  refine lv_iconst (v := 1) hx hb dX4_paddles_25 (by decide) ?_
  refine lv_icmp_ne (tgt := 33) hx hb dX4_paddles_26 (by decide) (fun c_26 => ?_) (fun c_26 => ?_)
  · refine lv_iload_n hx hb dX4_paddles_33 rfl (lv_at hl 0 rfl) ?_
    refine lv_iconst (v := 2) hx hb dX4_paddles_34 (by decide) ?_
    refine lv_icmp_ne (tgt := 42) hx hb dX4_paddles_35 (by decide) (fun c_35 => ?_) (fun c_35 => ?_)
    · refine lv_iconst (v := 0) hx hb dX4_paddles_42 (by decide) ?_
      refine lv_iadd hx hb dX4_paddles_43 ?_
      refine lv_topi (fun tv etv => ?_)
      have etv : tv = (p_head (bf 5) r1) := etv.trans (by simp [p_head, c_26, c_35, Int32.sub_eq_add_neg])
      subst etv
      refine f_iast hx hb hG.1 hI rfl (hSm _ (by omega) (by omega)) (hS.2 2 (by decide)) (vp_in_nI (by omega) (by omega)) dX4_paddles_44 (fun E3 H locs hE4 hn5 hI => ?_)
      rw [hclu] at hE4
      have hS := hS.row (j := 2) (by decide) hE4 (fun q hq => hn5 q hq)
      have hS : st_at cI ad E3 sb T (su S u (va_up bf 5 (p_head (bf 5) r1))) := by rw [su_put _ _ _ _ (by decide)] at hS; exact hS
      have hM := hM.kept (fun q h1 h2 => hn5 q (by omega))
      have hfr : ∀ q : Nat, (q < sb ∨ sb + 11 ≤ q) → E3 q = E q := fun q hq => (hn5 q (by omega)).trans (hfr q hq)
      refine lv_aload_n hx hb dX4_paddles_45 rfl (lv_at hl 1 rfl) ?_
      refine f_get (ci := 4) (v := .ref (ad (sb + 1 + 2))) (C := RX4) (T := TX4) (N := 12) hx hb hts (by decide +kernel) hown hG.1 hI ha (hSm _ (by omega) (by omega)) (hS.1) rfl 3 (by decide) (hts (.fieldLink RX4 22 "CoracleRaceModel$State" "heads" "[I") (by decide +kernel)) rfl dX4_paddles_46 ?_
      refine lv_iload_n hx hb dX4_paddles_49 rfl (lv_at hl 2 rfl) ?_
      refine f_iald hx hb hG.1 hI rfl (hSm _ (by omega) (by omega)) (hS.2 2 (by decide)) (vp_in_nI (by omega) (by omega)) dX4_paddles_50 ?_
      refine lv_topi (fun tv etv => ?_)
      have etv : tv = (p_head (bf 5) r1) := etv.trans (by rw [hclu]; exact pk_us)
      subst etv
      refine va_mabs hx hb (hml.trans hl.1.symm) hown (hts (.methodLink RX4 76 Lib.Math.abs.name) (by decide +kernel)) (hts (.static Lib.Math.abs.name) (by decide +kernel)) (hts (.initialized "java/lang/Math") (by decide +kernel)) (hts (.code Lib.Math.abs.name Lib.Math.abs.code 1 (some .int)) (by decide +kernel)) (Nat.le_of_ble_eq_true rfl) (Nat.le_of_ble_eq_true rfl) (Nat.zero_le _) (Nat.zero_le _) dX4_paddles_51 ?_
      refine lv_topi (fun tv etv => ?_)
      have etv : tv = (p_abs (p_head (bf 5) r1)) := etv.trans (rfl)
      subst etv
      refine lv_iconst (v := 5) hx hb dX4_paddles_54 (by decide) ?_
      refine lv_icmp_ne (tgt := 77) hx hb dX4_paddles_55 (by decide) (fun c_55 => ?_) (fun c_55 => ?_)
      · have p_55 : ¬ p_spun (p_head (bf 5) r1) := fun q => c_55 ((head_spun h5).1.mpr q)
        refine lv_iload_n hx hb dX4_paddles_77 rfl (lv_at hl 0 rfl) ?_
        refine lv_iconst (v := 3) hx hb dX4_paddles_78 (by decide) ?_
        refine lv_icmp_ne (tgt := 94) hx hb dX4_paddles_79 (by decide) (fun c_79 => ?_) (fun c_79 => ?_)
        · refine lv_iload_n hx hb dX4_paddles_94 rfl (lv_at hl 0 rfl) ?_
          refine lv_if_ne (tgt := 102) hx hb dX4_paddles_95 (by decide) (fun c_95 => ?_) (fun c_95 => ?_)
          · refine lv_aload_n hx hb dX4_paddles_102 rfl (lv_at hl 1 rfl) ?_
            refine f_get (ci := 4) (v := .ref (ad 50)) (C := RX4) (T := TX4) (N := 12) hx hb hts (by decide +kernel) hown hG.1 hI ha (hSm _ (by omega) (by omega)) (hS.1) rfl 11 (by decide) (hts (.fieldLink RX4 3 "CoracleRaceModel$State" "this$0" "LCoracleRaceModel;") (by decide +kernel)) rfl dX4_paddles_103 ?_
            refine f_getN (ci := 5) (v := .ref (ad 54)) (C := RX5) (T := TX5) (N := 9) hx hb hts (by decide +kernel) hown hG.1 hI rfl (hMm _ (by omega) (by omega)) (hM.1) rfl 6 (by decide) (hG.2.1 (.fieldLinkNest RX4 80 RX5 "strength" "[I" RX5) (by simp [fNest])) rfl dX4_paddles_106 ?_
            refine lv_iload_n hx hb dX4_paddles_109 rfl (lv_at hl 2 rfl) ?_
            refine f_iald hx hb hG.1 hI rfl (hMm _ (by omega) (by omega)) (hM.2.2.2.2) (vp_in_nI (by omega) (by omega)) dX4_paddles_110 ?_
            refine lv_topi (fun tv etv => ?_)
            have etv : tv = (bf 2) := etv.trans (by rw [hclu]; exact hc2.symm)
            subst etv
            refine lv_iconst (v := 2) hx hb dX4_paddles_111 (by decide) ?_
            refine lv_idiv hx hb dX4_paddles_112 (by decide) ?_
            refine lv_topi (fun tv etv => ?_)
            have etv : tv = (p_push bf r1) := etv.trans (by simp [p_push, c_79, c_95])
            subst etv
            refine lv_istore_n (lv' := [(3, .int (p_push bf r1)), (2, .int r1), (0, .ref a), (1, .int (nI u))]) hx hb dX4_paddles_113 rfl hl (by decide) rfl (fun ls hl => ?_)
            refine lv_iconst (v := 0) hx hb dX4_paddles_114 (by decide) ?_
            refine lv_iload_n hx hb dX4_paddles_115 rfl (lv_at hl 0 rfl) ?_
            refine lv_aload_n hx hb dX4_paddles_116 rfl (lv_at hl 2 rfl) ?_
            refine f_get (ci := 4) (v := .ref (ad (sb + 1 + 3))) (C := RX4) (T := TX4) (N := 12) hx hb hts (by decide +kernel) hown hG.1 hI ha (hSm _ (by omega) (by omega)) (hS.1) rfl 4 (by decide) (hts (.fieldLink RX4 25 "CoracleRaceModel$State" "soaked" "[I") (by decide +kernel)) rfl dX4_paddles_117 ?_
            refine lv_iload_n hx hb dX4_paddles_120 rfl (lv_at hl 3 rfl) ?_
            refine f_iald hx hb hG.1 hI rfl (hSm _ (by omega) (by omega)) (hS.2 3 (by decide)) (vp_in_nI (by omega) (by omega)) dX4_paddles_121 ?_
            refine lv_topi (fun tv etv => ?_)
            have etv : tv = (bf 6) := etv.trans (by rw [hclu]; exact pk_us)
            subst etv
            refine lv_bipush (v := 6) hx hb dX4_paddles_122 (by decide) ?_
            refine lv_idiv hx hb dX4_paddles_124 (by decide) ?_
            refine lv_isub hx hb dX4_paddles_125 ?_
            refine va_mmax hx hb (hml.trans hl.1.symm) hown (hts (.methodLink RX4 83 Lib.Math.max.name) (by decide +kernel)) (hts (.static Lib.Math.max.name) (by decide +kernel)) (hts (.initialized "java/lang/Math") (by decide +kernel)) (hts (.code Lib.Math.max.name Lib.Math.max.code 2 (some .int)) (by decide +kernel)) (Nat.le_of_ble_eq_true rfl) (Nat.le_of_ble_eq_true rfl) (Nat.zero_le _) (Nat.zero_le _) dX4_paddles_126 ?_
            refine lv_topi (fun tv etv => ?_)
            have etv : tv = (p_max 0 (p_push bf r1 - bf 6 / 6)) := etv.trans (rfl)
            subst etv
            exact f_reti hQ hx hb hr hlocks hI.2.2 (by omega) (by omega) dX4_paddles_129 E3 (fB_of hI) (⟨by rw [← he]; exact (if_neg p_55).symm, by rw [← he, show p_turn bf r1 = (va_up bf 5 (p_head (bf 5) r1)) from if_neg p_55]; exact hS, hfr⟩)
          · refine lv_iconst (v := 0) hx hb dX4_paddles_98 (by decide) ?_
            refine lv_goto (tgt := 113) hx hb dX4_paddles_99 (by decide) ?_
            refine lv_topi (fun tv etv => ?_)
            have etv : tv = (p_push bf r1) := etv.trans (by simp [p_push, c_79, c_95])
            subst etv
            refine lv_istore_n (lv' := [(3, .int (p_push bf r1)), (2, .int r1), (0, .ref a), (1, .int (nI u))]) hx hb dX4_paddles_113 rfl hl (by decide) rfl (fun ls hl => ?_)
            refine lv_iconst (v := 0) hx hb dX4_paddles_114 (by decide) ?_
            refine lv_iload_n hx hb dX4_paddles_115 rfl (lv_at hl 0 rfl) ?_
            refine lv_aload_n hx hb dX4_paddles_116 rfl (lv_at hl 2 rfl) ?_
            refine f_get (ci := 4) (v := .ref (ad (sb + 1 + 3))) (C := RX4) (T := TX4) (N := 12) hx hb hts (by decide +kernel) hown hG.1 hI ha (hSm _ (by omega) (by omega)) (hS.1) rfl 4 (by decide) (hts (.fieldLink RX4 25 "CoracleRaceModel$State" "soaked" "[I") (by decide +kernel)) rfl dX4_paddles_117 ?_
            refine lv_iload_n hx hb dX4_paddles_120 rfl (lv_at hl 3 rfl) ?_
            refine f_iald hx hb hG.1 hI rfl (hSm _ (by omega) (by omega)) (hS.2 3 (by decide)) (vp_in_nI (by omega) (by omega)) dX4_paddles_121 ?_
            refine lv_topi (fun tv etv => ?_)
            have etv : tv = (bf 6) := etv.trans (by rw [hclu]; exact pk_us)
            subst etv
            refine lv_bipush (v := 6) hx hb dX4_paddles_122 (by decide) ?_
            refine lv_idiv hx hb dX4_paddles_124 (by decide) ?_
            refine lv_isub hx hb dX4_paddles_125 ?_
            refine va_mmax hx hb (hml.trans hl.1.symm) hown (hts (.methodLink RX4 83 Lib.Math.max.name) (by decide +kernel)) (hts (.static Lib.Math.max.name) (by decide +kernel)) (hts (.initialized "java/lang/Math") (by decide +kernel)) (hts (.code Lib.Math.max.name Lib.Math.max.code 2 (some .int)) (by decide +kernel)) (Nat.le_of_ble_eq_true rfl) (Nat.le_of_ble_eq_true rfl) (Nat.zero_le _) (Nat.zero_le _) dX4_paddles_126 ?_
            refine lv_topi (fun tv etv => ?_)
            have etv : tv = (p_max 0 (p_push bf r1 - bf 6 / 6)) := etv.trans (rfl)
            subst etv
            exact f_reti hQ hx hb hr hlocks hI.2.2 (by omega) (by omega) dX4_paddles_129 E3 (fB_of hI) (⟨by rw [← he]; exact (if_neg p_55).symm, by rw [← he, show p_turn bf r1 = (va_up bf 5 (p_head (bf 5) r1)) from if_neg p_55]; exact hS, hfr⟩)
        · refine lv_aload_n hx hb dX4_paddles_82 rfl (lv_at hl 1 rfl) ?_
          refine f_get (ci := 4) (v := .ref (ad 50)) (C := RX4) (T := TX4) (N := 12) hx hb hts (by decide +kernel) hown hG.1 hI ha (hSm _ (by omega) (by omega)) (hS.1) rfl 11 (by decide) (hts (.fieldLink RX4 3 "CoracleRaceModel$State" "this$0" "LCoracleRaceModel;") (by decide +kernel)) rfl dX4_paddles_83 ?_
          refine f_getN (ci := 5) (v := .ref (ad 54)) (C := RX5) (T := TX5) (N := 9) hx hb hts (by decide +kernel) hown hG.1 hI rfl (hMm _ (by omega) (by omega)) (hM.1) rfl 6 (by decide) (hG.2.1 (.fieldLinkNest RX4 80 RX5 "strength" "[I" RX5) (by simp [fNest])) rfl dX4_paddles_86 ?_
          refine lv_iload_n hx hb dX4_paddles_89 rfl (lv_at hl 2 rfl) ?_
          refine f_iald hx hb hG.1 hI rfl (hMm _ (by omega) (by omega)) (hM.2.2.2.2) (vp_in_nI (by omega) (by omega)) dX4_paddles_90 ?_
          refine lv_topi (fun tv etv => ?_)
          have etv : tv = (bf 2) := etv.trans (by rw [hclu]; exact hc2.symm)
          subst etv
          refine lv_goto (tgt := 113) hx hb dX4_paddles_91 (by decide) ?_
          refine lv_topi (fun tv etv => ?_)
          have etv : tv = (p_push bf r1) := etv.trans (by simp [p_push, c_79])
          subst etv
          refine lv_istore_n (lv' := [(3, .int (p_push bf r1)), (2, .int r1), (0, .ref a), (1, .int (nI u))]) hx hb dX4_paddles_113 rfl hl (by decide) rfl (fun ls hl => ?_)
          refine lv_iconst (v := 0) hx hb dX4_paddles_114 (by decide) ?_
          refine lv_iload_n hx hb dX4_paddles_115 rfl (lv_at hl 0 rfl) ?_
          refine lv_aload_n hx hb dX4_paddles_116 rfl (lv_at hl 2 rfl) ?_
          refine f_get (ci := 4) (v := .ref (ad (sb + 1 + 3))) (C := RX4) (T := TX4) (N := 12) hx hb hts (by decide +kernel) hown hG.1 hI ha (hSm _ (by omega) (by omega)) (hS.1) rfl 4 (by decide) (hts (.fieldLink RX4 25 "CoracleRaceModel$State" "soaked" "[I") (by decide +kernel)) rfl dX4_paddles_117 ?_
          refine lv_iload_n hx hb dX4_paddles_120 rfl (lv_at hl 3 rfl) ?_
          refine f_iald hx hb hG.1 hI rfl (hSm _ (by omega) (by omega)) (hS.2 3 (by decide)) (vp_in_nI (by omega) (by omega)) dX4_paddles_121 ?_
          refine lv_topi (fun tv etv => ?_)
          have etv : tv = (bf 6) := etv.trans (by rw [hclu]; exact pk_us)
          subst etv
          refine lv_bipush (v := 6) hx hb dX4_paddles_122 (by decide) ?_
          refine lv_idiv hx hb dX4_paddles_124 (by decide) ?_
          refine lv_isub hx hb dX4_paddles_125 ?_
          refine va_mmax hx hb (hml.trans hl.1.symm) hown (hts (.methodLink RX4 83 Lib.Math.max.name) (by decide +kernel)) (hts (.static Lib.Math.max.name) (by decide +kernel)) (hts (.initialized "java/lang/Math") (by decide +kernel)) (hts (.code Lib.Math.max.name Lib.Math.max.code 2 (some .int)) (by decide +kernel)) (Nat.le_of_ble_eq_true rfl) (Nat.le_of_ble_eq_true rfl) (Nat.zero_le _) (Nat.zero_le _) dX4_paddles_126 ?_
          refine lv_topi (fun tv etv => ?_)
          have etv : tv = (p_max 0 (p_push bf r1 - bf 6 / 6)) := etv.trans (rfl)
          subst etv
          exact f_reti hQ hx hb hr hlocks hI.2.2 (by omega) (by omega) dX4_paddles_129 E3 (fB_of hI) (⟨by rw [← he]; exact (if_neg p_55).symm, by rw [← he, show p_turn bf r1 = (va_up bf 5 (p_head (bf 5) r1)) from if_neg p_55]; exact hS, hfr⟩)
      · have p_55 : p_spun (p_head (bf 5) r1) := (head_spun h5).1.mp c_55
        refine lv_aload_n hx hb dX4_paddles_58 rfl (lv_at hl 1 rfl) ?_
        refine f_get (ci := 4) (v := .ref (ad (sb + 1 + 2))) (C := RX4) (T := TX4) (N := 12) hx hb hts (by decide +kernel) hown hG.1 hI ha (hSm _ (by omega) (by omega)) (hS.1) rfl 3 (by decide) (hts (.fieldLink RX4 22 "CoracleRaceModel$State" "heads" "[I") (by decide +kernel)) rfl dX4_paddles_59 ?_
        refine lv_iload_n hx hb dX4_paddles_62 rfl (lv_at hl 2 rfl) ?_
        refine lv_iconst (v := 0) hx hb dX4_paddles_63 (by decide) ?_
        refine f_iast hx hb hG.1 hI rfl (hSm _ (by omega) (by omega)) (hS.2 2 (by decide)) (vp_in_nI (by omega) (by omega)) dX4_paddles_64 (fun E6 H locs hE7 hn8 hI => ?_)
        rw [hclu] at hE7
        have hS := hS.row (j := 2) (by decide) hE7 (fun q hq => hn8 q hq)
        have hS : st_at cI ad E6 sb T (su S u (va_up (va_up bf 5 (p_head (bf 5) r1)) 5 0)) := by rw [su_put _ _ _ _ (by decide)] at hS; exact hS
        have hS : st_at cI ad E6 sb T (su S u (va_up bf 5 0)) := by rw [va_up_twice] at hS; exact hS
        have hM := hM.kept (fun q h1 h2 => hn8 q (by omega))
        have hfr : ∀ q : Nat, (q < sb ∨ sb + 11 ≤ q) → E6 q = E q := fun q hq => (hn8 q (by omega)).trans (hfr q hq)
        refine lv_aload_n hx hb dX4_paddles_65 rfl (lv_at hl 1 rfl) ?_
        refine f_get (ci := 4) (v := .ref (ad (sb + 1 + 6))) (C := RX4) (T := TX4) (N := 12) hx hb hts (by decide +kernel) hown hG.1 hI ha (hSm _ (by omega) (by omega)) (hS.1) rfl 7 (by decide) (hts (.fieldLink RX4 34 "CoracleRaceModel$State" "spins" "[I") (by decide +kernel)) rfl dX4_paddles_66 ?_
        refine lv_iload_n hx hb dX4_paddles_69 rfl (lv_at hl 2 rfl) ?_
        refine lv_dup2_11 hx hb dX4_paddles_70 rfl rfl ?_
        refine f_iald hx hb hG.1 hI rfl (hSm _ (by omega) (by omega)) (hS.2 6 (by decide)) (vp_in_nI (by omega) (by omega)) dX4_paddles_71 ?_
        refine lv_topi (fun tv etv => ?_)
        have etv : tv = (bf 10) := etv.trans (by rw [hclu]; exact pk_us)
        subst etv
        refine lv_iconst (v := 1) hx hb dX4_paddles_72 (by decide) ?_
        refine lv_iadd hx hb dX4_paddles_73 ?_
        refine f_iast hx hb hG.1 hI rfl (hSm _ (by omega) (by omega)) (hS.2 6 (by decide)) (vp_in_nI (by omega) (by omega)) dX4_paddles_74 (fun E9 H locs hE10 hn11 hI => ?_)
        rw [hclu] at hE10
        have hS := hS.row (j := 6) (by decide) hE10 (fun q hq => hn11 q hq)
        have hS : st_at cI ad E9 sb T (su S u (va_up (va_up bf 5 0) 10 ((bf 10) + 1))) := by rw [su_put _ _ _ _ (by decide)] at hS; exact hS
        have hM := hM.kept (fun q h1 h2 => hn11 q (by omega))
        have hfr : ∀ q : Nat, (q < sb ∨ sb + 11 ≤ q) → E9 q = E q := fun q hq => (hn11 q (by omega)).trans (hfr q hq)
        refine lv_iconst (v := 0) hx hb dX4_paddles_75 (by decide) ?_
        exact f_reti hQ hx hb hr hlocks hI.2.2 (by omega) (by omega) dX4_paddles_76 E9 (fB_of hI) (⟨by rw [← he]; exact (if_pos p_55).symm, by rw [← he, show p_turn bf r1 = (va_up (va_up bf 5 0) 10 ((bf 10) + 1)) from if_pos p_55]; exact hS, hfr⟩)
    · refine lv_iconst (v := -1) hx hb dX4_paddles_38 (by decide) ?_
      refine lv_goto (tgt := 43) hx hb dX4_paddles_39 (by decide) ?_
      refine lv_iadd hx hb dX4_paddles_43 ?_
      refine lv_topi (fun tv etv => ?_)
      have etv : tv = (p_head (bf 5) r1) := etv.trans (by simp [p_head, c_26, c_35, Int32.sub_eq_add_neg])
      subst etv
      refine f_iast hx hb hG.1 hI rfl (hSm _ (by omega) (by omega)) (hS.2 2 (by decide)) (vp_in_nI (by omega) (by omega)) dX4_paddles_44 (fun E12 H locs hE13 hn14 hI => ?_)
      rw [hclu] at hE13
      have hS := hS.row (j := 2) (by decide) hE13 (fun q hq => hn14 q hq)
      have hS : st_at cI ad E12 sb T (su S u (va_up bf 5 (p_head (bf 5) r1))) := by rw [su_put _ _ _ _ (by decide)] at hS; exact hS
      have hM := hM.kept (fun q h1 h2 => hn14 q (by omega))
      have hfr : ∀ q : Nat, (q < sb ∨ sb + 11 ≤ q) → E12 q = E q := fun q hq => (hn14 q (by omega)).trans (hfr q hq)
      refine lv_aload_n hx hb dX4_paddles_45 rfl (lv_at hl 1 rfl) ?_
      refine f_get (ci := 4) (v := .ref (ad (sb + 1 + 2))) (C := RX4) (T := TX4) (N := 12) hx hb hts (by decide +kernel) hown hG.1 hI ha (hSm _ (by omega) (by omega)) (hS.1) rfl 3 (by decide) (hts (.fieldLink RX4 22 "CoracleRaceModel$State" "heads" "[I") (by decide +kernel)) rfl dX4_paddles_46 ?_
      refine lv_iload_n hx hb dX4_paddles_49 rfl (lv_at hl 2 rfl) ?_
      refine f_iald hx hb hG.1 hI rfl (hSm _ (by omega) (by omega)) (hS.2 2 (by decide)) (vp_in_nI (by omega) (by omega)) dX4_paddles_50 ?_
      refine lv_topi (fun tv etv => ?_)
      have etv : tv = (p_head (bf 5) r1) := etv.trans (by rw [hclu]; exact pk_us)
      subst etv
      refine va_mabs hx hb (hml.trans hl.1.symm) hown (hts (.methodLink RX4 76 Lib.Math.abs.name) (by decide +kernel)) (hts (.static Lib.Math.abs.name) (by decide +kernel)) (hts (.initialized "java/lang/Math") (by decide +kernel)) (hts (.code Lib.Math.abs.name Lib.Math.abs.code 1 (some .int)) (by decide +kernel)) (Nat.le_of_ble_eq_true rfl) (Nat.le_of_ble_eq_true rfl) (Nat.zero_le _) (Nat.zero_le _) dX4_paddles_51 ?_
      refine lv_topi (fun tv etv => ?_)
      have etv : tv = (p_abs (p_head (bf 5) r1)) := etv.trans (rfl)
      subst etv
      refine lv_iconst (v := 5) hx hb dX4_paddles_54 (by decide) ?_
      refine lv_icmp_ne (tgt := 77) hx hb dX4_paddles_55 (by decide) (fun c_55 => ?_) (fun c_55 => ?_)
      · have p_55 : ¬ p_spun (p_head (bf 5) r1) := fun q => c_55 ((head_spun h5).1.mpr q)
        refine lv_iload_n hx hb dX4_paddles_77 rfl (lv_at hl 0 rfl) ?_
        refine lv_iconst (v := 3) hx hb dX4_paddles_78 (by decide) ?_
        refine lv_icmp_ne (tgt := 94) hx hb dX4_paddles_79 (by decide) (fun c_79 => ?_) (fun c_79 => ?_)
        · refine lv_iload_n hx hb dX4_paddles_94 rfl (lv_at hl 0 rfl) ?_
          refine lv_if_ne (tgt := 102) hx hb dX4_paddles_95 (by decide) (fun c_95 => ?_) (fun c_95 => ?_)
          · refine lv_aload_n hx hb dX4_paddles_102 rfl (lv_at hl 1 rfl) ?_
            refine f_get (ci := 4) (v := .ref (ad 50)) (C := RX4) (T := TX4) (N := 12) hx hb hts (by decide +kernel) hown hG.1 hI ha (hSm _ (by omega) (by omega)) (hS.1) rfl 11 (by decide) (hts (.fieldLink RX4 3 "CoracleRaceModel$State" "this$0" "LCoracleRaceModel;") (by decide +kernel)) rfl dX4_paddles_103 ?_
            refine f_getN (ci := 5) (v := .ref (ad 54)) (C := RX5) (T := TX5) (N := 9) hx hb hts (by decide +kernel) hown hG.1 hI rfl (hMm _ (by omega) (by omega)) (hM.1) rfl 6 (by decide) (hG.2.1 (.fieldLinkNest RX4 80 RX5 "strength" "[I" RX5) (by simp [fNest])) rfl dX4_paddles_106 ?_
            refine lv_iload_n hx hb dX4_paddles_109 rfl (lv_at hl 2 rfl) ?_
            refine f_iald hx hb hG.1 hI rfl (hMm _ (by omega) (by omega)) (hM.2.2.2.2) (vp_in_nI (by omega) (by omega)) dX4_paddles_110 ?_
            refine lv_topi (fun tv etv => ?_)
            have etv : tv = (bf 2) := etv.trans (by rw [hclu]; exact hc2.symm)
            subst etv
            refine lv_iconst (v := 2) hx hb dX4_paddles_111 (by decide) ?_
            refine lv_idiv hx hb dX4_paddles_112 (by decide) ?_
            refine lv_topi (fun tv etv => ?_)
            have etv : tv = (p_push bf r1) := etv.trans (by simp [p_push, c_79, c_95])
            subst etv
            refine lv_istore_n (lv' := [(3, .int (p_push bf r1)), (2, .int r1), (0, .ref a), (1, .int (nI u))]) hx hb dX4_paddles_113 rfl hl (by decide) rfl (fun ls hl => ?_)
            refine lv_iconst (v := 0) hx hb dX4_paddles_114 (by decide) ?_
            refine lv_iload_n hx hb dX4_paddles_115 rfl (lv_at hl 0 rfl) ?_
            refine lv_aload_n hx hb dX4_paddles_116 rfl (lv_at hl 2 rfl) ?_
            refine f_get (ci := 4) (v := .ref (ad (sb + 1 + 3))) (C := RX4) (T := TX4) (N := 12) hx hb hts (by decide +kernel) hown hG.1 hI ha (hSm _ (by omega) (by omega)) (hS.1) rfl 4 (by decide) (hts (.fieldLink RX4 25 "CoracleRaceModel$State" "soaked" "[I") (by decide +kernel)) rfl dX4_paddles_117 ?_
            refine lv_iload_n hx hb dX4_paddles_120 rfl (lv_at hl 3 rfl) ?_
            refine f_iald hx hb hG.1 hI rfl (hSm _ (by omega) (by omega)) (hS.2 3 (by decide)) (vp_in_nI (by omega) (by omega)) dX4_paddles_121 ?_
            refine lv_topi (fun tv etv => ?_)
            have etv : tv = (bf 6) := etv.trans (by rw [hclu]; exact pk_us)
            subst etv
            refine lv_bipush (v := 6) hx hb dX4_paddles_122 (by decide) ?_
            refine lv_idiv hx hb dX4_paddles_124 (by decide) ?_
            refine lv_isub hx hb dX4_paddles_125 ?_
            refine va_mmax hx hb (hml.trans hl.1.symm) hown (hts (.methodLink RX4 83 Lib.Math.max.name) (by decide +kernel)) (hts (.static Lib.Math.max.name) (by decide +kernel)) (hts (.initialized "java/lang/Math") (by decide +kernel)) (hts (.code Lib.Math.max.name Lib.Math.max.code 2 (some .int)) (by decide +kernel)) (Nat.le_of_ble_eq_true rfl) (Nat.le_of_ble_eq_true rfl) (Nat.zero_le _) (Nat.zero_le _) dX4_paddles_126 ?_
            refine lv_topi (fun tv etv => ?_)
            have etv : tv = (p_max 0 (p_push bf r1 - bf 6 / 6)) := etv.trans (rfl)
            subst etv
            exact f_reti hQ hx hb hr hlocks hI.2.2 (by omega) (by omega) dX4_paddles_129 E12 (fB_of hI) (⟨by rw [← he]; exact (if_neg p_55).symm, by rw [← he, show p_turn bf r1 = (va_up bf 5 (p_head (bf 5) r1)) from if_neg p_55]; exact hS, hfr⟩)
          · refine lv_iconst (v := 0) hx hb dX4_paddles_98 (by decide) ?_
            refine lv_goto (tgt := 113) hx hb dX4_paddles_99 (by decide) ?_
            refine lv_topi (fun tv etv => ?_)
            have etv : tv = (p_push bf r1) := etv.trans (by simp [p_push, c_79, c_95])
            subst etv
            refine lv_istore_n (lv' := [(3, .int (p_push bf r1)), (2, .int r1), (0, .ref a), (1, .int (nI u))]) hx hb dX4_paddles_113 rfl hl (by decide) rfl (fun ls hl => ?_)
            refine lv_iconst (v := 0) hx hb dX4_paddles_114 (by decide) ?_
            refine lv_iload_n hx hb dX4_paddles_115 rfl (lv_at hl 0 rfl) ?_
            refine lv_aload_n hx hb dX4_paddles_116 rfl (lv_at hl 2 rfl) ?_
            refine f_get (ci := 4) (v := .ref (ad (sb + 1 + 3))) (C := RX4) (T := TX4) (N := 12) hx hb hts (by decide +kernel) hown hG.1 hI ha (hSm _ (by omega) (by omega)) (hS.1) rfl 4 (by decide) (hts (.fieldLink RX4 25 "CoracleRaceModel$State" "soaked" "[I") (by decide +kernel)) rfl dX4_paddles_117 ?_
            refine lv_iload_n hx hb dX4_paddles_120 rfl (lv_at hl 3 rfl) ?_
            refine f_iald hx hb hG.1 hI rfl (hSm _ (by omega) (by omega)) (hS.2 3 (by decide)) (vp_in_nI (by omega) (by omega)) dX4_paddles_121 ?_
            refine lv_topi (fun tv etv => ?_)
            have etv : tv = (bf 6) := etv.trans (by rw [hclu]; exact pk_us)
            subst etv
            refine lv_bipush (v := 6) hx hb dX4_paddles_122 (by decide) ?_
            refine lv_idiv hx hb dX4_paddles_124 (by decide) ?_
            refine lv_isub hx hb dX4_paddles_125 ?_
            refine va_mmax hx hb (hml.trans hl.1.symm) hown (hts (.methodLink RX4 83 Lib.Math.max.name) (by decide +kernel)) (hts (.static Lib.Math.max.name) (by decide +kernel)) (hts (.initialized "java/lang/Math") (by decide +kernel)) (hts (.code Lib.Math.max.name Lib.Math.max.code 2 (some .int)) (by decide +kernel)) (Nat.le_of_ble_eq_true rfl) (Nat.le_of_ble_eq_true rfl) (Nat.zero_le _) (Nat.zero_le _) dX4_paddles_126 ?_
            refine lv_topi (fun tv etv => ?_)
            have etv : tv = (p_max 0 (p_push bf r1 - bf 6 / 6)) := etv.trans (rfl)
            subst etv
            exact f_reti hQ hx hb hr hlocks hI.2.2 (by omega) (by omega) dX4_paddles_129 E12 (fB_of hI) (⟨by rw [← he]; exact (if_neg p_55).symm, by rw [← he, show p_turn bf r1 = (va_up bf 5 (p_head (bf 5) r1)) from if_neg p_55]; exact hS, hfr⟩)
        · refine lv_aload_n hx hb dX4_paddles_82 rfl (lv_at hl 1 rfl) ?_
          refine f_get (ci := 4) (v := .ref (ad 50)) (C := RX4) (T := TX4) (N := 12) hx hb hts (by decide +kernel) hown hG.1 hI ha (hSm _ (by omega) (by omega)) (hS.1) rfl 11 (by decide) (hts (.fieldLink RX4 3 "CoracleRaceModel$State" "this$0" "LCoracleRaceModel;") (by decide +kernel)) rfl dX4_paddles_83 ?_
          refine f_getN (ci := 5) (v := .ref (ad 54)) (C := RX5) (T := TX5) (N := 9) hx hb hts (by decide +kernel) hown hG.1 hI rfl (hMm _ (by omega) (by omega)) (hM.1) rfl 6 (by decide) (hG.2.1 (.fieldLinkNest RX4 80 RX5 "strength" "[I" RX5) (by simp [fNest])) rfl dX4_paddles_86 ?_
          refine lv_iload_n hx hb dX4_paddles_89 rfl (lv_at hl 2 rfl) ?_
          refine f_iald hx hb hG.1 hI rfl (hMm _ (by omega) (by omega)) (hM.2.2.2.2) (vp_in_nI (by omega) (by omega)) dX4_paddles_90 ?_
          refine lv_topi (fun tv etv => ?_)
          have etv : tv = (bf 2) := etv.trans (by rw [hclu]; exact hc2.symm)
          subst etv
          refine lv_goto (tgt := 113) hx hb dX4_paddles_91 (by decide) ?_
          refine lv_topi (fun tv etv => ?_)
          have etv : tv = (p_push bf r1) := etv.trans (by simp [p_push, c_79])
          subst etv
          refine lv_istore_n (lv' := [(3, .int (p_push bf r1)), (2, .int r1), (0, .ref a), (1, .int (nI u))]) hx hb dX4_paddles_113 rfl hl (by decide) rfl (fun ls hl => ?_)
          refine lv_iconst (v := 0) hx hb dX4_paddles_114 (by decide) ?_
          refine lv_iload_n hx hb dX4_paddles_115 rfl (lv_at hl 0 rfl) ?_
          refine lv_aload_n hx hb dX4_paddles_116 rfl (lv_at hl 2 rfl) ?_
          refine f_get (ci := 4) (v := .ref (ad (sb + 1 + 3))) (C := RX4) (T := TX4) (N := 12) hx hb hts (by decide +kernel) hown hG.1 hI ha (hSm _ (by omega) (by omega)) (hS.1) rfl 4 (by decide) (hts (.fieldLink RX4 25 "CoracleRaceModel$State" "soaked" "[I") (by decide +kernel)) rfl dX4_paddles_117 ?_
          refine lv_iload_n hx hb dX4_paddles_120 rfl (lv_at hl 3 rfl) ?_
          refine f_iald hx hb hG.1 hI rfl (hSm _ (by omega) (by omega)) (hS.2 3 (by decide)) (vp_in_nI (by omega) (by omega)) dX4_paddles_121 ?_
          refine lv_topi (fun tv etv => ?_)
          have etv : tv = (bf 6) := etv.trans (by rw [hclu]; exact pk_us)
          subst etv
          refine lv_bipush (v := 6) hx hb dX4_paddles_122 (by decide) ?_
          refine lv_idiv hx hb dX4_paddles_124 (by decide) ?_
          refine lv_isub hx hb dX4_paddles_125 ?_
          refine va_mmax hx hb (hml.trans hl.1.symm) hown (hts (.methodLink RX4 83 Lib.Math.max.name) (by decide +kernel)) (hts (.static Lib.Math.max.name) (by decide +kernel)) (hts (.initialized "java/lang/Math") (by decide +kernel)) (hts (.code Lib.Math.max.name Lib.Math.max.code 2 (some .int)) (by decide +kernel)) (Nat.le_of_ble_eq_true rfl) (Nat.le_of_ble_eq_true rfl) (Nat.zero_le _) (Nat.zero_le _) dX4_paddles_126 ?_
          refine lv_topi (fun tv etv => ?_)
          have etv : tv = (p_max 0 (p_push bf r1 - bf 6 / 6)) := etv.trans (rfl)
          subst etv
          exact f_reti hQ hx hb hr hlocks hI.2.2 (by omega) (by omega) dX4_paddles_129 E12 (fB_of hI) (⟨by rw [← he]; exact (if_neg p_55).symm, by rw [← he, show p_turn bf r1 = (va_up bf 5 (p_head (bf 5) r1)) from if_neg p_55]; exact hS, hfr⟩)
      · have p_55 : p_spun (p_head (bf 5) r1) := (head_spun h5).1.mp c_55
        refine lv_aload_n hx hb dX4_paddles_58 rfl (lv_at hl 1 rfl) ?_
        refine f_get (ci := 4) (v := .ref (ad (sb + 1 + 2))) (C := RX4) (T := TX4) (N := 12) hx hb hts (by decide +kernel) hown hG.1 hI ha (hSm _ (by omega) (by omega)) (hS.1) rfl 3 (by decide) (hts (.fieldLink RX4 22 "CoracleRaceModel$State" "heads" "[I") (by decide +kernel)) rfl dX4_paddles_59 ?_
        refine lv_iload_n hx hb dX4_paddles_62 rfl (lv_at hl 2 rfl) ?_
        refine lv_iconst (v := 0) hx hb dX4_paddles_63 (by decide) ?_
        refine f_iast hx hb hG.1 hI rfl (hSm _ (by omega) (by omega)) (hS.2 2 (by decide)) (vp_in_nI (by omega) (by omega)) dX4_paddles_64 (fun E15 H locs hE16 hn17 hI => ?_)
        rw [hclu] at hE16
        have hS := hS.row (j := 2) (by decide) hE16 (fun q hq => hn17 q hq)
        have hS : st_at cI ad E15 sb T (su S u (va_up (va_up bf 5 (p_head (bf 5) r1)) 5 0)) := by rw [su_put _ _ _ _ (by decide)] at hS; exact hS
        have hS : st_at cI ad E15 sb T (su S u (va_up bf 5 0)) := by rw [va_up_twice] at hS; exact hS
        have hM := hM.kept (fun q h1 h2 => hn17 q (by omega))
        have hfr : ∀ q : Nat, (q < sb ∨ sb + 11 ≤ q) → E15 q = E q := fun q hq => (hn17 q (by omega)).trans (hfr q hq)
        refine lv_aload_n hx hb dX4_paddles_65 rfl (lv_at hl 1 rfl) ?_
        refine f_get (ci := 4) (v := .ref (ad (sb + 1 + 6))) (C := RX4) (T := TX4) (N := 12) hx hb hts (by decide +kernel) hown hG.1 hI ha (hSm _ (by omega) (by omega)) (hS.1) rfl 7 (by decide) (hts (.fieldLink RX4 34 "CoracleRaceModel$State" "spins" "[I") (by decide +kernel)) rfl dX4_paddles_66 ?_
        refine lv_iload_n hx hb dX4_paddles_69 rfl (lv_at hl 2 rfl) ?_
        refine lv_dup2_11 hx hb dX4_paddles_70 rfl rfl ?_
        refine f_iald hx hb hG.1 hI rfl (hSm _ (by omega) (by omega)) (hS.2 6 (by decide)) (vp_in_nI (by omega) (by omega)) dX4_paddles_71 ?_
        refine lv_topi (fun tv etv => ?_)
        have etv : tv = (bf 10) := etv.trans (by rw [hclu]; exact pk_us)
        subst etv
        refine lv_iconst (v := 1) hx hb dX4_paddles_72 (by decide) ?_
        refine lv_iadd hx hb dX4_paddles_73 ?_
        refine f_iast hx hb hG.1 hI rfl (hSm _ (by omega) (by omega)) (hS.2 6 (by decide)) (vp_in_nI (by omega) (by omega)) dX4_paddles_74 (fun E18 H locs hE19 hn20 hI => ?_)
        rw [hclu] at hE19
        have hS := hS.row (j := 6) (by decide) hE19 (fun q hq => hn20 q hq)
        have hS : st_at cI ad E18 sb T (su S u (va_up (va_up bf 5 0) 10 ((bf 10) + 1))) := by rw [su_put _ _ _ _ (by decide)] at hS; exact hS
        have hM := hM.kept (fun q h1 h2 => hn20 q (by omega))
        have hfr : ∀ q : Nat, (q < sb ∨ sb + 11 ≤ q) → E18 q = E q := fun q hq => (hn20 q (by omega)).trans (hfr q hq)
        refine lv_iconst (v := 0) hx hb dX4_paddles_75 (by decide) ?_
        exact f_reti hQ hx hb hr hlocks hI.2.2 (by omega) (by omega) dX4_paddles_76 E18 (fB_of hI) (⟨by rw [← he]; exact (if_pos p_55).symm, by rw [← he, show p_turn bf r1 = (va_up (va_up bf 5 0) 10 ((bf 10) + 1)) from if_pos p_55]; exact hS, hfr⟩)
  · refine lv_iconst (v := 1) hx hb dX4_paddles_29 (by decide) ?_
    refine lv_goto (tgt := 43) hx hb dX4_paddles_30 (by decide) ?_
    refine lv_iadd hx hb dX4_paddles_43 ?_
    refine lv_topi (fun tv etv => ?_)
    have etv : tv = (p_head (bf 5) r1) := etv.trans (by simp [p_head, c_26, Int32.sub_eq_add_neg])
    subst etv
    refine f_iast hx hb hG.1 hI rfl (hSm _ (by omega) (by omega)) (hS.2 2 (by decide)) (vp_in_nI (by omega) (by omega)) dX4_paddles_44 (fun E21 H locs hE22 hn23 hI => ?_)
    rw [hclu] at hE22
    have hS := hS.row (j := 2) (by decide) hE22 (fun q hq => hn23 q hq)
    have hS : st_at cI ad E21 sb T (su S u (va_up bf 5 (p_head (bf 5) r1))) := by rw [su_put _ _ _ _ (by decide)] at hS; exact hS
    have hM := hM.kept (fun q h1 h2 => hn23 q (by omega))
    have hfr : ∀ q : Nat, (q < sb ∨ sb + 11 ≤ q) → E21 q = E q := fun q hq => (hn23 q (by omega)).trans (hfr q hq)
    refine lv_aload_n hx hb dX4_paddles_45 rfl (lv_at hl 1 rfl) ?_
    refine f_get (ci := 4) (v := .ref (ad (sb + 1 + 2))) (C := RX4) (T := TX4) (N := 12) hx hb hts (by decide +kernel) hown hG.1 hI ha (hSm _ (by omega) (by omega)) (hS.1) rfl 3 (by decide) (hts (.fieldLink RX4 22 "CoracleRaceModel$State" "heads" "[I") (by decide +kernel)) rfl dX4_paddles_46 ?_
    refine lv_iload_n hx hb dX4_paddles_49 rfl (lv_at hl 2 rfl) ?_
    refine f_iald hx hb hG.1 hI rfl (hSm _ (by omega) (by omega)) (hS.2 2 (by decide)) (vp_in_nI (by omega) (by omega)) dX4_paddles_50 ?_
    refine lv_topi (fun tv etv => ?_)
    have etv : tv = (p_head (bf 5) r1) := etv.trans (by rw [hclu]; exact pk_us)
    subst etv
    refine va_mabs hx hb (hml.trans hl.1.symm) hown (hts (.methodLink RX4 76 Lib.Math.abs.name) (by decide +kernel)) (hts (.static Lib.Math.abs.name) (by decide +kernel)) (hts (.initialized "java/lang/Math") (by decide +kernel)) (hts (.code Lib.Math.abs.name Lib.Math.abs.code 1 (some .int)) (by decide +kernel)) (Nat.le_of_ble_eq_true rfl) (Nat.le_of_ble_eq_true rfl) (Nat.zero_le _) (Nat.zero_le _) dX4_paddles_51 ?_
    refine lv_topi (fun tv etv => ?_)
    have etv : tv = (p_abs (p_head (bf 5) r1)) := etv.trans (rfl)
    subst etv
    refine lv_iconst (v := 5) hx hb dX4_paddles_54 (by decide) ?_
    refine lv_icmp_ne (tgt := 77) hx hb dX4_paddles_55 (by decide) (fun c_55 => ?_) (fun c_55 => ?_)
    · have p_55 : ¬ p_spun (p_head (bf 5) r1) := fun q => c_55 ((head_spun h5).1.mpr q)
      refine lv_iload_n hx hb dX4_paddles_77 rfl (lv_at hl 0 rfl) ?_
      refine lv_iconst (v := 3) hx hb dX4_paddles_78 (by decide) ?_
      refine lv_icmp_ne (tgt := 94) hx hb dX4_paddles_79 (by decide) (fun c_79 => ?_) (fun c_79 => ?_)
      · refine lv_iload_n hx hb dX4_paddles_94 rfl (lv_at hl 0 rfl) ?_
        refine lv_if_ne (tgt := 102) hx hb dX4_paddles_95 (by decide) (fun c_95 => ?_) (fun c_95 => ?_)
        · refine lv_aload_n hx hb dX4_paddles_102 rfl (lv_at hl 1 rfl) ?_
          refine f_get (ci := 4) (v := .ref (ad 50)) (C := RX4) (T := TX4) (N := 12) hx hb hts (by decide +kernel) hown hG.1 hI ha (hSm _ (by omega) (by omega)) (hS.1) rfl 11 (by decide) (hts (.fieldLink RX4 3 "CoracleRaceModel$State" "this$0" "LCoracleRaceModel;") (by decide +kernel)) rfl dX4_paddles_103 ?_
          refine f_getN (ci := 5) (v := .ref (ad 54)) (C := RX5) (T := TX5) (N := 9) hx hb hts (by decide +kernel) hown hG.1 hI rfl (hMm _ (by omega) (by omega)) (hM.1) rfl 6 (by decide) (hG.2.1 (.fieldLinkNest RX4 80 RX5 "strength" "[I" RX5) (by simp [fNest])) rfl dX4_paddles_106 ?_
          refine lv_iload_n hx hb dX4_paddles_109 rfl (lv_at hl 2 rfl) ?_
          refine f_iald hx hb hG.1 hI rfl (hMm _ (by omega) (by omega)) (hM.2.2.2.2) (vp_in_nI (by omega) (by omega)) dX4_paddles_110 ?_
          refine lv_topi (fun tv etv => ?_)
          have etv : tv = (bf 2) := etv.trans (by rw [hclu]; exact hc2.symm)
          subst etv
          refine lv_iconst (v := 2) hx hb dX4_paddles_111 (by decide) ?_
          refine lv_idiv hx hb dX4_paddles_112 (by decide) ?_
          refine lv_topi (fun tv etv => ?_)
          have etv : tv = (p_push bf r1) := etv.trans (by simp [p_push, c_79, c_95])
          subst etv
          refine lv_istore_n (lv' := [(3, .int (p_push bf r1)), (2, .int r1), (0, .ref a), (1, .int (nI u))]) hx hb dX4_paddles_113 rfl hl (by decide) rfl (fun ls hl => ?_)
          refine lv_iconst (v := 0) hx hb dX4_paddles_114 (by decide) ?_
          refine lv_iload_n hx hb dX4_paddles_115 rfl (lv_at hl 0 rfl) ?_
          refine lv_aload_n hx hb dX4_paddles_116 rfl (lv_at hl 2 rfl) ?_
          refine f_get (ci := 4) (v := .ref (ad (sb + 1 + 3))) (C := RX4) (T := TX4) (N := 12) hx hb hts (by decide +kernel) hown hG.1 hI ha (hSm _ (by omega) (by omega)) (hS.1) rfl 4 (by decide) (hts (.fieldLink RX4 25 "CoracleRaceModel$State" "soaked" "[I") (by decide +kernel)) rfl dX4_paddles_117 ?_
          refine lv_iload_n hx hb dX4_paddles_120 rfl (lv_at hl 3 rfl) ?_
          refine f_iald hx hb hG.1 hI rfl (hSm _ (by omega) (by omega)) (hS.2 3 (by decide)) (vp_in_nI (by omega) (by omega)) dX4_paddles_121 ?_
          refine lv_topi (fun tv etv => ?_)
          have etv : tv = (bf 6) := etv.trans (by rw [hclu]; exact pk_us)
          subst etv
          refine lv_bipush (v := 6) hx hb dX4_paddles_122 (by decide) ?_
          refine lv_idiv hx hb dX4_paddles_124 (by decide) ?_
          refine lv_isub hx hb dX4_paddles_125 ?_
          refine va_mmax hx hb (hml.trans hl.1.symm) hown (hts (.methodLink RX4 83 Lib.Math.max.name) (by decide +kernel)) (hts (.static Lib.Math.max.name) (by decide +kernel)) (hts (.initialized "java/lang/Math") (by decide +kernel)) (hts (.code Lib.Math.max.name Lib.Math.max.code 2 (some .int)) (by decide +kernel)) (Nat.le_of_ble_eq_true rfl) (Nat.le_of_ble_eq_true rfl) (Nat.zero_le _) (Nat.zero_le _) dX4_paddles_126 ?_
          refine lv_topi (fun tv etv => ?_)
          have etv : tv = (p_max 0 (p_push bf r1 - bf 6 / 6)) := etv.trans (rfl)
          subst etv
          exact f_reti hQ hx hb hr hlocks hI.2.2 (by omega) (by omega) dX4_paddles_129 E21 (fB_of hI) (⟨by rw [← he]; exact (if_neg p_55).symm, by rw [← he, show p_turn bf r1 = (va_up bf 5 (p_head (bf 5) r1)) from if_neg p_55]; exact hS, hfr⟩)
        · refine lv_iconst (v := 0) hx hb dX4_paddles_98 (by decide) ?_
          refine lv_goto (tgt := 113) hx hb dX4_paddles_99 (by decide) ?_
          refine lv_topi (fun tv etv => ?_)
          have etv : tv = (p_push bf r1) := etv.trans (by simp [p_push, c_79, c_95])
          subst etv
          refine lv_istore_n (lv' := [(3, .int (p_push bf r1)), (2, .int r1), (0, .ref a), (1, .int (nI u))]) hx hb dX4_paddles_113 rfl hl (by decide) rfl (fun ls hl => ?_)
          refine lv_iconst (v := 0) hx hb dX4_paddles_114 (by decide) ?_
          refine lv_iload_n hx hb dX4_paddles_115 rfl (lv_at hl 0 rfl) ?_
          refine lv_aload_n hx hb dX4_paddles_116 rfl (lv_at hl 2 rfl) ?_
          refine f_get (ci := 4) (v := .ref (ad (sb + 1 + 3))) (C := RX4) (T := TX4) (N := 12) hx hb hts (by decide +kernel) hown hG.1 hI ha (hSm _ (by omega) (by omega)) (hS.1) rfl 4 (by decide) (hts (.fieldLink RX4 25 "CoracleRaceModel$State" "soaked" "[I") (by decide +kernel)) rfl dX4_paddles_117 ?_
          refine lv_iload_n hx hb dX4_paddles_120 rfl (lv_at hl 3 rfl) ?_
          refine f_iald hx hb hG.1 hI rfl (hSm _ (by omega) (by omega)) (hS.2 3 (by decide)) (vp_in_nI (by omega) (by omega)) dX4_paddles_121 ?_
          refine lv_topi (fun tv etv => ?_)
          have etv : tv = (bf 6) := etv.trans (by rw [hclu]; exact pk_us)
          subst etv
          refine lv_bipush (v := 6) hx hb dX4_paddles_122 (by decide) ?_
          refine lv_idiv hx hb dX4_paddles_124 (by decide) ?_
          refine lv_isub hx hb dX4_paddles_125 ?_
          refine va_mmax hx hb (hml.trans hl.1.symm) hown (hts (.methodLink RX4 83 Lib.Math.max.name) (by decide +kernel)) (hts (.static Lib.Math.max.name) (by decide +kernel)) (hts (.initialized "java/lang/Math") (by decide +kernel)) (hts (.code Lib.Math.max.name Lib.Math.max.code 2 (some .int)) (by decide +kernel)) (Nat.le_of_ble_eq_true rfl) (Nat.le_of_ble_eq_true rfl) (Nat.zero_le _) (Nat.zero_le _) dX4_paddles_126 ?_
          refine lv_topi (fun tv etv => ?_)
          have etv : tv = (p_max 0 (p_push bf r1 - bf 6 / 6)) := etv.trans (rfl)
          subst etv
          exact f_reti hQ hx hb hr hlocks hI.2.2 (by omega) (by omega) dX4_paddles_129 E21 (fB_of hI) (⟨by rw [← he]; exact (if_neg p_55).symm, by rw [← he, show p_turn bf r1 = (va_up bf 5 (p_head (bf 5) r1)) from if_neg p_55]; exact hS, hfr⟩)
      · refine lv_aload_n hx hb dX4_paddles_82 rfl (lv_at hl 1 rfl) ?_
        refine f_get (ci := 4) (v := .ref (ad 50)) (C := RX4) (T := TX4) (N := 12) hx hb hts (by decide +kernel) hown hG.1 hI ha (hSm _ (by omega) (by omega)) (hS.1) rfl 11 (by decide) (hts (.fieldLink RX4 3 "CoracleRaceModel$State" "this$0" "LCoracleRaceModel;") (by decide +kernel)) rfl dX4_paddles_83 ?_
        refine f_getN (ci := 5) (v := .ref (ad 54)) (C := RX5) (T := TX5) (N := 9) hx hb hts (by decide +kernel) hown hG.1 hI rfl (hMm _ (by omega) (by omega)) (hM.1) rfl 6 (by decide) (hG.2.1 (.fieldLinkNest RX4 80 RX5 "strength" "[I" RX5) (by simp [fNest])) rfl dX4_paddles_86 ?_
        refine lv_iload_n hx hb dX4_paddles_89 rfl (lv_at hl 2 rfl) ?_
        refine f_iald hx hb hG.1 hI rfl (hMm _ (by omega) (by omega)) (hM.2.2.2.2) (vp_in_nI (by omega) (by omega)) dX4_paddles_90 ?_
        refine lv_topi (fun tv etv => ?_)
        have etv : tv = (bf 2) := etv.trans (by rw [hclu]; exact hc2.symm)
        subst etv
        refine lv_goto (tgt := 113) hx hb dX4_paddles_91 (by decide) ?_
        refine lv_topi (fun tv etv => ?_)
        have etv : tv = (p_push bf r1) := etv.trans (by simp [p_push, c_79])
        subst etv
        refine lv_istore_n (lv' := [(3, .int (p_push bf r1)), (2, .int r1), (0, .ref a), (1, .int (nI u))]) hx hb dX4_paddles_113 rfl hl (by decide) rfl (fun ls hl => ?_)
        refine lv_iconst (v := 0) hx hb dX4_paddles_114 (by decide) ?_
        refine lv_iload_n hx hb dX4_paddles_115 rfl (lv_at hl 0 rfl) ?_
        refine lv_aload_n hx hb dX4_paddles_116 rfl (lv_at hl 2 rfl) ?_
        refine f_get (ci := 4) (v := .ref (ad (sb + 1 + 3))) (C := RX4) (T := TX4) (N := 12) hx hb hts (by decide +kernel) hown hG.1 hI ha (hSm _ (by omega) (by omega)) (hS.1) rfl 4 (by decide) (hts (.fieldLink RX4 25 "CoracleRaceModel$State" "soaked" "[I") (by decide +kernel)) rfl dX4_paddles_117 ?_
        refine lv_iload_n hx hb dX4_paddles_120 rfl (lv_at hl 3 rfl) ?_
        refine f_iald hx hb hG.1 hI rfl (hSm _ (by omega) (by omega)) (hS.2 3 (by decide)) (vp_in_nI (by omega) (by omega)) dX4_paddles_121 ?_
        refine lv_topi (fun tv etv => ?_)
        have etv : tv = (bf 6) := etv.trans (by rw [hclu]; exact pk_us)
        subst etv
        refine lv_bipush (v := 6) hx hb dX4_paddles_122 (by decide) ?_
        refine lv_idiv hx hb dX4_paddles_124 (by decide) ?_
        refine lv_isub hx hb dX4_paddles_125 ?_
        refine va_mmax hx hb (hml.trans hl.1.symm) hown (hts (.methodLink RX4 83 Lib.Math.max.name) (by decide +kernel)) (hts (.static Lib.Math.max.name) (by decide +kernel)) (hts (.initialized "java/lang/Math") (by decide +kernel)) (hts (.code Lib.Math.max.name Lib.Math.max.code 2 (some .int)) (by decide +kernel)) (Nat.le_of_ble_eq_true rfl) (Nat.le_of_ble_eq_true rfl) (Nat.zero_le _) (Nat.zero_le _) dX4_paddles_126 ?_
        refine lv_topi (fun tv etv => ?_)
        have etv : tv = (p_max 0 (p_push bf r1 - bf 6 / 6)) := etv.trans (rfl)
        subst etv
        exact f_reti hQ hx hb hr hlocks hI.2.2 (by omega) (by omega) dX4_paddles_129 E21 (fB_of hI) (⟨by rw [← he]; exact (if_neg p_55).symm, by rw [← he, show p_turn bf r1 = (va_up bf 5 (p_head (bf 5) r1)) from if_neg p_55]; exact hS, hfr⟩)
    · have p_55 : p_spun (p_head (bf 5) r1) := (head_spun h5).1.mp c_55
      refine lv_aload_n hx hb dX4_paddles_58 rfl (lv_at hl 1 rfl) ?_
      refine f_get (ci := 4) (v := .ref (ad (sb + 1 + 2))) (C := RX4) (T := TX4) (N := 12) hx hb hts (by decide +kernel) hown hG.1 hI ha (hSm _ (by omega) (by omega)) (hS.1) rfl 3 (by decide) (hts (.fieldLink RX4 22 "CoracleRaceModel$State" "heads" "[I") (by decide +kernel)) rfl dX4_paddles_59 ?_
      refine lv_iload_n hx hb dX4_paddles_62 rfl (lv_at hl 2 rfl) ?_
      refine lv_iconst (v := 0) hx hb dX4_paddles_63 (by decide) ?_
      refine f_iast hx hb hG.1 hI rfl (hSm _ (by omega) (by omega)) (hS.2 2 (by decide)) (vp_in_nI (by omega) (by omega)) dX4_paddles_64 (fun E24 H locs hE25 hn26 hI => ?_)
      rw [hclu] at hE25
      have hS := hS.row (j := 2) (by decide) hE25 (fun q hq => hn26 q hq)
      have hS : st_at cI ad E24 sb T (su S u (va_up (va_up bf 5 (p_head (bf 5) r1)) 5 0)) := by rw [su_put _ _ _ _ (by decide)] at hS; exact hS
      have hS : st_at cI ad E24 sb T (su S u (va_up bf 5 0)) := by rw [va_up_twice] at hS; exact hS
      have hM := hM.kept (fun q h1 h2 => hn26 q (by omega))
      have hfr : ∀ q : Nat, (q < sb ∨ sb + 11 ≤ q) → E24 q = E q := fun q hq => (hn26 q (by omega)).trans (hfr q hq)
      refine lv_aload_n hx hb dX4_paddles_65 rfl (lv_at hl 1 rfl) ?_
      refine f_get (ci := 4) (v := .ref (ad (sb + 1 + 6))) (C := RX4) (T := TX4) (N := 12) hx hb hts (by decide +kernel) hown hG.1 hI ha (hSm _ (by omega) (by omega)) (hS.1) rfl 7 (by decide) (hts (.fieldLink RX4 34 "CoracleRaceModel$State" "spins" "[I") (by decide +kernel)) rfl dX4_paddles_66 ?_
      refine lv_iload_n hx hb dX4_paddles_69 rfl (lv_at hl 2 rfl) ?_
      refine lv_dup2_11 hx hb dX4_paddles_70 rfl rfl ?_
      refine f_iald hx hb hG.1 hI rfl (hSm _ (by omega) (by omega)) (hS.2 6 (by decide)) (vp_in_nI (by omega) (by omega)) dX4_paddles_71 ?_
      refine lv_topi (fun tv etv => ?_)
      have etv : tv = (bf 10) := etv.trans (by rw [hclu]; exact pk_us)
      subst etv
      refine lv_iconst (v := 1) hx hb dX4_paddles_72 (by decide) ?_
      refine lv_iadd hx hb dX4_paddles_73 ?_
      refine f_iast hx hb hG.1 hI rfl (hSm _ (by omega) (by omega)) (hS.2 6 (by decide)) (vp_in_nI (by omega) (by omega)) dX4_paddles_74 (fun E27 H locs hE28 hn29 hI => ?_)
      rw [hclu] at hE28
      have hS := hS.row (j := 6) (by decide) hE28 (fun q hq => hn29 q hq)
      have hS : st_at cI ad E27 sb T (su S u (va_up (va_up bf 5 0) 10 ((bf 10) + 1))) := by rw [su_put _ _ _ _ (by decide)] at hS; exact hS
      have hM := hM.kept (fun q h1 h2 => hn29 q (by omega))
      have hfr : ∀ q : Nat, (q < sb ∨ sb + 11 ≤ q) → E27 q = E q := fun q hq => (hn29 q (by omega)).trans (hfr q hq)
      refine lv_iconst (v := 0) hx hb dX4_paddles_75 (by decide) ?_
      exact f_reti hQ hx hb hr hlocks hI.2.2 (by omega) (by omega) dX4_paddles_76 E27 (fB_of hI) (⟨by rw [← he]; exact (if_pos p_55).symm, by rw [← he, show p_turn bf r1 = (va_up (va_up bf 5 0) 10 ((bf 10) + 1)) from if_pos p_55]; exact hS, hfr⟩)

set_option maxHeartbeats 4000000 in
set_option maxRecDepth 100000 in
theorem m_X4_drift (l : Launch) {D : va_G} {cI cJ cB : ClassId} {t0 z : Nat} {tx ad : Nat → Nat} {L : List Nat} {E : Nat → va_E} {sb a : Nat} (ha : ad sb = a) (h60 : 60 ≤ sb) (hSm : ∀ k, sb ≤ k → k < sb + 11 → k ∈ L) {T : Nat} (hTb : T < 2 ^ 31) {S : Nat → Nat → Int32} {u : Nat} (hu6 : u < 6) {bf : Nat → Int32} (hS : st_at cI ad E sb T (su S u bf)) (h4 : p_lane (bf 4)) : Met l yX4_drift wsX4_drift ({ frames := 0, cells := 0, slots := 0, locals := 0 } : Room) (va_Pc [.ref a, .int (nI u)] (fPre D cI cJ cB t0 z tx ad L E)) (va_Qv (fun (E1 : Nat → va_E) => st_at cI ad E1 sb T (su S u (p_drift bf)) ∧ ∀ q : Nat, (q < sb ∨ sb + 11 ≤ q) → E1 q = E q) (fB D z ad L) (fA z)) 0 0 (fA z) := by
  refine f_ofW (cc := cX4_drift) (maxL := 3) (ret := none) (by decide) rfl (Nat.le_of_ble_eq_true rfl) ?_
  intro pr e s m args below meth c Q hx hb hr hml hts hown hlocks hin hG H locs hI hQ ls hl
  have hl : lv_has ls 3 [(0, .ref a), (1, .int (nI u))] := hl
  have hfr : ∀ q : Nat, (q < sb ∨ sb + 11 ≤ q) → E q = E q := fun _ _ => rfl
  have hclu : (nI u).toNatClampNeg = u := nI_clamp (by omega)
  refine lv_aload_n hx hb dX4_drift_0 rfl (lv_at hl 0 rfl) ?_
  refine f_get (ci := 4) (v := .ref (ad (sb + 1 + 1))) (C := RX4) (T := TX4) (N := 12) hx hb hts (by decide +kernel) hown hG.1 hI ha (hSm _ (by omega) (by omega)) (hS.1) rfl 2 (by decide) (hts (.fieldLink RX4 19 "CoracleRaceModel$State" "lane" "[I") (by decide +kernel)) rfl dX4_drift_1 ?_
  refine lv_iload_n hx hb dX4_drift_4 rfl (lv_at hl 1 rfl) ?_
  refine f_iald hx hb hG.1 hI rfl (hSm _ (by omega) (by omega)) (hS.2 1 (by decide)) (vp_in_nI (by omega) (by omega)) dX4_drift_5 ?_
  refine lv_topi (fun tv etv => ?_)
  have etv : tv = (bf 4) := etv.trans (by rw [hclu]; exact pk_us)
  subst etv
  refine lv_aload_n hx hb dX4_drift_6 rfl (lv_at hl 0 rfl) ?_
  refine f_get (ci := 4) (v := .ref (ad (sb + 1 + 2))) (C := RX4) (T := TX4) (N := 12) hx hb hts (by decide +kernel) hown hG.1 hI ha (hSm _ (by omega) (by omega)) (hS.1) rfl 3 (by decide) (hts (.fieldLink RX4 22 "CoracleRaceModel$State" "heads" "[I") (by decide +kernel)) rfl dX4_drift_7 ?_
  refine lv_iload_n hx hb dX4_drift_10 rfl (lv_at hl 1 rfl) ?_
  refine f_iald hx hb hG.1 hI rfl (hSm _ (by omega) (by omega)) (hS.2 2 (by decide)) (vp_in_nI (by omega) (by omega)) dX4_drift_11 ?_
  refine lv_topi (fun tv etv => ?_)
  have etv : tv = (bf 5) := etv.trans (by rw [hclu]; exact pk_us)
  subst etv
  refine lv_iconst (v := 2) hx hb dX4_drift_12 (by decide) ?_
  refine lv_icmp_lt (tgt := 20) hx hb dX4_drift_13 (by decide) (fun c_13 => ?_) (fun c_13 => ?_)
  · have n_13 := i_nle.mpr c_13
    refine lv_aload_n hx hb dX4_drift_20 rfl (lv_at hl 0 rfl) ?_
    refine f_get (ci := 4) (v := .ref (ad (sb + 1 + 2))) (C := RX4) (T := TX4) (N := 12) hx hb hts (by decide +kernel) hown hG.1 hI ha (hSm _ (by omega) (by omega)) (hS.1) rfl 3 (by decide) (hts (.fieldLink RX4 22 "CoracleRaceModel$State" "heads" "[I") (by decide +kernel)) rfl dX4_drift_21 ?_
    refine lv_iload_n hx hb dX4_drift_24 rfl (lv_at hl 1 rfl) ?_
    refine f_iald hx hb hG.1 hI rfl (hSm _ (by omega) (by omega)) (hS.2 2 (by decide)) (vp_in_nI (by omega) (by omega)) dX4_drift_25 ?_
    refine lv_topi (fun tv etv => ?_)
    have etv : tv = (bf 5) := etv.trans (by rw [hclu]; exact pk_us)
    subst etv
    refine lv_bipush (v := -2) hx hb dX4_drift_26 (by decide) ?_
    refine lv_icmp_gt (tgt := 35) hx hb dX4_drift_28 (by decide) (fun c_28 => ?_) (fun c_28 => ?_)
    · have n_28 := i_nle.mpr c_28
      refine lv_iconst (v := 0) hx hb dX4_drift_35 (by decide) ?_
      refine lv_iadd hx hb dX4_drift_36 ?_
      refine lv_topi (fun tv etv => ?_)
      have etv : tv = (p_want bf) := etv.trans (by simp [p_want, c_13, n_13, c_28, n_28, Int32.sub_eq_add_neg])
      subst etv
      refine lv_istore_n (lv' := [(2, .int (p_want bf)), (0, .ref a), (1, .int (nI u))]) hx hb dX4_drift_37 rfl hl (by decide) rfl (fun ls hl => ?_)
      refine lv_iload_n hx hb dX4_drift_38 rfl (lv_at hl 0 rfl) ?_
      refine lv_if_lt (tgt := 47) hx hb dX4_drift_39 (by decide) (fun c_39 => ?_) (fun c_39 => ?_)
      · have n_39 := i_nle.mpr c_39
        have hw : ¬ p_lane (p_want bf) := fun q => ((want_lane h4).mp q).1 c_39
        refine lv_aload_n hx hb dX4_drift_47 rfl (lv_at hl 1 rfl) ?_
        refine f_get (ci := 4) (v := .ref (ad (sb + 1 + 4))) (C := RX4) (T := TX4) (N := 12) hx hb hts (by decide +kernel) hown hG.1 hI ha (hSm _ (by omega) (by omega)) (hS.1) rfl 5 (by decide) (hts (.fieldLink RX4 28 "CoracleRaceModel$State" "fouls" "[I") (by decide +kernel)) rfl dX4_drift_48 ?_
        refine lv_iload_n hx hb dX4_drift_51 rfl (lv_at hl 2 rfl) ?_
        refine lv_dup2_11 hx hb dX4_drift_52 rfl rfl ?_
        refine f_iald hx hb hG.1 hI rfl (hSm _ (by omega) (by omega)) (hS.2 4 (by decide)) (vp_in_nI (by omega) (by omega)) dX4_drift_53 ?_
        refine lv_topi (fun tv etv => ?_)
        have etv : tv = (bf 7) := etv.trans (by rw [hclu]; exact pk_us)
        subst etv
        refine lv_iconst (v := 3) hx hb dX4_drift_54 (by decide) ?_
        refine lv_iadd hx hb dX4_drift_55 ?_
        refine f_iast hx hb hG.1 hI rfl (hSm _ (by omega) (by omega)) (hS.2 4 (by decide)) (vp_in_nI (by omega) (by omega)) dX4_drift_56 (fun E1 H locs hE2 hn3 hI => ?_)
        rw [hclu] at hE2
        have hS := hS.row (j := 4) (by decide) hE2 (fun q hq => hn3 q hq)
        have hS : st_at cI ad E1 sb T (su S u (va_up bf 7 ((bf 7) + 3))) := by rw [su_put _ _ _ _ (by decide)] at hS; exact hS
        have hfr : ∀ q : Nat, (q < sb ∨ sb + 11 ≤ q) → E1 q = E q := fun q hq => (hn3 q (by omega)).trans (hfr q hq)
        refine lv_goto (tgt := 67) hx hb dX4_drift_57 (by decide) ?_
        exact f_retv hQ hx hb hr hlocks hI.2.2 (by omega) (by omega) dX4_drift_67 E1 (fB_of hI) (⟨by rw [show p_drift bf = (va_up bf 7 ((bf 7) + 3)) from if_neg hw]; exact hS, hfr⟩)
      · have n_39 := c_39
        have c_39 := i_nlt.mp n_39
        refine lv_iload_n hx hb dX4_drift_42 rfl (lv_at hl 0 rfl) ?_
        refine lv_iconst (v := 5) hx hb dX4_drift_43 (by decide) ?_
        refine lv_icmp_ne (tgt := 60) hx hb dX4_drift_44 (by decide) (fun c_44 => ?_) (fun c_44 => ?_)
        · have hw : p_lane (p_want bf) := (want_lane h4).mpr ⟨n_39, c_44⟩
          refine lv_aload_n hx hb dX4_drift_60 rfl (lv_at hl 1 rfl) ?_
          refine f_get (ci := 4) (v := .ref (ad (sb + 1 + 1))) (C := RX4) (T := TX4) (N := 12) hx hb hts (by decide +kernel) hown hG.1 hI ha (hSm _ (by omega) (by omega)) (hS.1) rfl 2 (by decide) (hts (.fieldLink RX4 19 "CoracleRaceModel$State" "lane" "[I") (by decide +kernel)) rfl dX4_drift_61 ?_
          refine lv_iload_n hx hb dX4_drift_64 rfl (lv_at hl 2 rfl) ?_
          refine lv_iload_n hx hb dX4_drift_65 rfl (lv_at hl 0 rfl) ?_
          refine f_iast hx hb hG.1 hI rfl (hSm _ (by omega) (by omega)) (hS.2 1 (by decide)) (vp_in_nI (by omega) (by omega)) dX4_drift_66 (fun E4 H locs hE5 hn6 hI => ?_)
          rw [hclu] at hE5
          have hS := hS.row (j := 1) (by decide) hE5 (fun q hq => hn6 q hq)
          have hS : st_at cI ad E4 sb T (su S u (va_up bf 4 (p_want bf))) := by rw [su_put _ _ _ _ (by decide)] at hS; exact hS
          have hfr : ∀ q : Nat, (q < sb ∨ sb + 11 ≤ q) → E4 q = E q := fun q hq => (hn6 q (by omega)).trans (hfr q hq)
          exact f_retv hQ hx hb hr hlocks hI.2.2 (by omega) (by omega) dX4_drift_67 E4 (fB_of hI) (⟨by rw [show p_drift bf = (va_up bf 4 (p_want bf)) from if_pos hw]; exact hS, hfr⟩)
        · have hw : ¬ p_lane (p_want bf) := fun q => ((want_lane h4).mp q).2 c_44
          refine lv_aload_n hx hb dX4_drift_47 rfl (lv_at hl 1 rfl) ?_
          refine f_get (ci := 4) (v := .ref (ad (sb + 1 + 4))) (C := RX4) (T := TX4) (N := 12) hx hb hts (by decide +kernel) hown hG.1 hI ha (hSm _ (by omega) (by omega)) (hS.1) rfl 5 (by decide) (hts (.fieldLink RX4 28 "CoracleRaceModel$State" "fouls" "[I") (by decide +kernel)) rfl dX4_drift_48 ?_
          refine lv_iload_n hx hb dX4_drift_51 rfl (lv_at hl 2 rfl) ?_
          refine lv_dup2_11 hx hb dX4_drift_52 rfl rfl ?_
          refine f_iald hx hb hG.1 hI rfl (hSm _ (by omega) (by omega)) (hS.2 4 (by decide)) (vp_in_nI (by omega) (by omega)) dX4_drift_53 ?_
          refine lv_topi (fun tv etv => ?_)
          have etv : tv = (bf 7) := etv.trans (by rw [hclu]; exact pk_us)
          subst etv
          refine lv_iconst (v := 3) hx hb dX4_drift_54 (by decide) ?_
          refine lv_iadd hx hb dX4_drift_55 ?_
          refine f_iast hx hb hG.1 hI rfl (hSm _ (by omega) (by omega)) (hS.2 4 (by decide)) (vp_in_nI (by omega) (by omega)) dX4_drift_56 (fun E7 H locs hE8 hn9 hI => ?_)
          rw [hclu] at hE8
          have hS := hS.row (j := 4) (by decide) hE8 (fun q hq => hn9 q hq)
          have hS : st_at cI ad E7 sb T (su S u (va_up bf 7 ((bf 7) + 3))) := by rw [su_put _ _ _ _ (by decide)] at hS; exact hS
          have hfr : ∀ q : Nat, (q < sb ∨ sb + 11 ≤ q) → E7 q = E q := fun q hq => (hn9 q (by omega)).trans (hfr q hq)
          refine lv_goto (tgt := 67) hx hb dX4_drift_57 (by decide) ?_
          exact f_retv hQ hx hb hr hlocks hI.2.2 (by omega) (by omega) dX4_drift_67 E7 (fB_of hI) (⟨by rw [show p_drift bf = (va_up bf 7 ((bf 7) + 3)) from if_neg hw]; exact hS, hfr⟩)
    · have n_28 := c_28
      have c_28 := i_nlt.mp n_28
      refine lv_iconst (v := -1) hx hb dX4_drift_31 (by decide) ?_
      refine lv_goto (tgt := 36) hx hb dX4_drift_32 (by decide) ?_
      refine lv_iadd hx hb dX4_drift_36 ?_
      refine lv_topi (fun tv etv => ?_)
      have etv : tv = (p_want bf) := etv.trans (by simp [p_want, c_13, n_13, c_28, n_28, Int32.sub_eq_add_neg])
      subst etv
      refine lv_istore_n (lv' := [(2, .int (p_want bf)), (0, .ref a), (1, .int (nI u))]) hx hb dX4_drift_37 rfl hl (by decide) rfl (fun ls hl => ?_)
      refine lv_iload_n hx hb dX4_drift_38 rfl (lv_at hl 0 rfl) ?_
      refine lv_if_lt (tgt := 47) hx hb dX4_drift_39 (by decide) (fun c_39 => ?_) (fun c_39 => ?_)
      · have n_39 := i_nle.mpr c_39
        have hw : ¬ p_lane (p_want bf) := fun q => ((want_lane h4).mp q).1 c_39
        refine lv_aload_n hx hb dX4_drift_47 rfl (lv_at hl 1 rfl) ?_
        refine f_get (ci := 4) (v := .ref (ad (sb + 1 + 4))) (C := RX4) (T := TX4) (N := 12) hx hb hts (by decide +kernel) hown hG.1 hI ha (hSm _ (by omega) (by omega)) (hS.1) rfl 5 (by decide) (hts (.fieldLink RX4 28 "CoracleRaceModel$State" "fouls" "[I") (by decide +kernel)) rfl dX4_drift_48 ?_
        refine lv_iload_n hx hb dX4_drift_51 rfl (lv_at hl 2 rfl) ?_
        refine lv_dup2_11 hx hb dX4_drift_52 rfl rfl ?_
        refine f_iald hx hb hG.1 hI rfl (hSm _ (by omega) (by omega)) (hS.2 4 (by decide)) (vp_in_nI (by omega) (by omega)) dX4_drift_53 ?_
        refine lv_topi (fun tv etv => ?_)
        have etv : tv = (bf 7) := etv.trans (by rw [hclu]; exact pk_us)
        subst etv
        refine lv_iconst (v := 3) hx hb dX4_drift_54 (by decide) ?_
        refine lv_iadd hx hb dX4_drift_55 ?_
        refine f_iast hx hb hG.1 hI rfl (hSm _ (by omega) (by omega)) (hS.2 4 (by decide)) (vp_in_nI (by omega) (by omega)) dX4_drift_56 (fun E10 H locs hE11 hn12 hI => ?_)
        rw [hclu] at hE11
        have hS := hS.row (j := 4) (by decide) hE11 (fun q hq => hn12 q hq)
        have hS : st_at cI ad E10 sb T (su S u (va_up bf 7 ((bf 7) + 3))) := by rw [su_put _ _ _ _ (by decide)] at hS; exact hS
        have hfr : ∀ q : Nat, (q < sb ∨ sb + 11 ≤ q) → E10 q = E q := fun q hq => (hn12 q (by omega)).trans (hfr q hq)
        refine lv_goto (tgt := 67) hx hb dX4_drift_57 (by decide) ?_
        exact f_retv hQ hx hb hr hlocks hI.2.2 (by omega) (by omega) dX4_drift_67 E10 (fB_of hI) (⟨by rw [show p_drift bf = (va_up bf 7 ((bf 7) + 3)) from if_neg hw]; exact hS, hfr⟩)
      · have n_39 := c_39
        have c_39 := i_nlt.mp n_39
        refine lv_iload_n hx hb dX4_drift_42 rfl (lv_at hl 0 rfl) ?_
        refine lv_iconst (v := 5) hx hb dX4_drift_43 (by decide) ?_
        refine lv_icmp_ne (tgt := 60) hx hb dX4_drift_44 (by decide) (fun c_44 => ?_) (fun c_44 => ?_)
        · have hw : p_lane (p_want bf) := (want_lane h4).mpr ⟨n_39, c_44⟩
          refine lv_aload_n hx hb dX4_drift_60 rfl (lv_at hl 1 rfl) ?_
          refine f_get (ci := 4) (v := .ref (ad (sb + 1 + 1))) (C := RX4) (T := TX4) (N := 12) hx hb hts (by decide +kernel) hown hG.1 hI ha (hSm _ (by omega) (by omega)) (hS.1) rfl 2 (by decide) (hts (.fieldLink RX4 19 "CoracleRaceModel$State" "lane" "[I") (by decide +kernel)) rfl dX4_drift_61 ?_
          refine lv_iload_n hx hb dX4_drift_64 rfl (lv_at hl 2 rfl) ?_
          refine lv_iload_n hx hb dX4_drift_65 rfl (lv_at hl 0 rfl) ?_
          refine f_iast hx hb hG.1 hI rfl (hSm _ (by omega) (by omega)) (hS.2 1 (by decide)) (vp_in_nI (by omega) (by omega)) dX4_drift_66 (fun E13 H locs hE14 hn15 hI => ?_)
          rw [hclu] at hE14
          have hS := hS.row (j := 1) (by decide) hE14 (fun q hq => hn15 q hq)
          have hS : st_at cI ad E13 sb T (su S u (va_up bf 4 (p_want bf))) := by rw [su_put _ _ _ _ (by decide)] at hS; exact hS
          have hfr : ∀ q : Nat, (q < sb ∨ sb + 11 ≤ q) → E13 q = E q := fun q hq => (hn15 q (by omega)).trans (hfr q hq)
          exact f_retv hQ hx hb hr hlocks hI.2.2 (by omega) (by omega) dX4_drift_67 E13 (fB_of hI) (⟨by rw [show p_drift bf = (va_up bf 4 (p_want bf)) from if_pos hw]; exact hS, hfr⟩)
        · have hw : ¬ p_lane (p_want bf) := fun q => ((want_lane h4).mp q).2 c_44
          refine lv_aload_n hx hb dX4_drift_47 rfl (lv_at hl 1 rfl) ?_
          refine f_get (ci := 4) (v := .ref (ad (sb + 1 + 4))) (C := RX4) (T := TX4) (N := 12) hx hb hts (by decide +kernel) hown hG.1 hI ha (hSm _ (by omega) (by omega)) (hS.1) rfl 5 (by decide) (hts (.fieldLink RX4 28 "CoracleRaceModel$State" "fouls" "[I") (by decide +kernel)) rfl dX4_drift_48 ?_
          refine lv_iload_n hx hb dX4_drift_51 rfl (lv_at hl 2 rfl) ?_
          refine lv_dup2_11 hx hb dX4_drift_52 rfl rfl ?_
          refine f_iald hx hb hG.1 hI rfl (hSm _ (by omega) (by omega)) (hS.2 4 (by decide)) (vp_in_nI (by omega) (by omega)) dX4_drift_53 ?_
          refine lv_topi (fun tv etv => ?_)
          have etv : tv = (bf 7) := etv.trans (by rw [hclu]; exact pk_us)
          subst etv
          refine lv_iconst (v := 3) hx hb dX4_drift_54 (by decide) ?_
          refine lv_iadd hx hb dX4_drift_55 ?_
          refine f_iast hx hb hG.1 hI rfl (hSm _ (by omega) (by omega)) (hS.2 4 (by decide)) (vp_in_nI (by omega) (by omega)) dX4_drift_56 (fun E16 H locs hE17 hn18 hI => ?_)
          rw [hclu] at hE17
          have hS := hS.row (j := 4) (by decide) hE17 (fun q hq => hn18 q hq)
          have hS : st_at cI ad E16 sb T (su S u (va_up bf 7 ((bf 7) + 3))) := by rw [su_put _ _ _ _ (by decide)] at hS; exact hS
          have hfr : ∀ q : Nat, (q < sb ∨ sb + 11 ≤ q) → E16 q = E q := fun q hq => (hn18 q (by omega)).trans (hfr q hq)
          refine lv_goto (tgt := 67) hx hb dX4_drift_57 (by decide) ?_
          exact f_retv hQ hx hb hr hlocks hI.2.2 (by omega) (by omega) dX4_drift_67 E16 (fB_of hI) (⟨by rw [show p_drift bf = (va_up bf 7 ((bf 7) + 3)) from if_neg hw]; exact hS, hfr⟩)
  · have n_13 := c_13
    have c_13 := i_nlt.mp n_13
    refine lv_iconst (v := 1) hx hb dX4_drift_16 (by decide) ?_
    refine lv_goto (tgt := 36) hx hb dX4_drift_17 (by decide) ?_
    refine lv_iadd hx hb dX4_drift_36 ?_
    refine lv_topi (fun tv etv => ?_)
    have etv : tv = (p_want bf) := etv.trans (by simp [p_want, c_13, n_13, Int32.sub_eq_add_neg])
    subst etv
    refine lv_istore_n (lv' := [(2, .int (p_want bf)), (0, .ref a), (1, .int (nI u))]) hx hb dX4_drift_37 rfl hl (by decide) rfl (fun ls hl => ?_)
    refine lv_iload_n hx hb dX4_drift_38 rfl (lv_at hl 0 rfl) ?_
    refine lv_if_lt (tgt := 47) hx hb dX4_drift_39 (by decide) (fun c_39 => ?_) (fun c_39 => ?_)
    · have n_39 := i_nle.mpr c_39
      have hw : ¬ p_lane (p_want bf) := fun q => ((want_lane h4).mp q).1 c_39
      refine lv_aload_n hx hb dX4_drift_47 rfl (lv_at hl 1 rfl) ?_
      refine f_get (ci := 4) (v := .ref (ad (sb + 1 + 4))) (C := RX4) (T := TX4) (N := 12) hx hb hts (by decide +kernel) hown hG.1 hI ha (hSm _ (by omega) (by omega)) (hS.1) rfl 5 (by decide) (hts (.fieldLink RX4 28 "CoracleRaceModel$State" "fouls" "[I") (by decide +kernel)) rfl dX4_drift_48 ?_
      refine lv_iload_n hx hb dX4_drift_51 rfl (lv_at hl 2 rfl) ?_
      refine lv_dup2_11 hx hb dX4_drift_52 rfl rfl ?_
      refine f_iald hx hb hG.1 hI rfl (hSm _ (by omega) (by omega)) (hS.2 4 (by decide)) (vp_in_nI (by omega) (by omega)) dX4_drift_53 ?_
      refine lv_topi (fun tv etv => ?_)
      have etv : tv = (bf 7) := etv.trans (by rw [hclu]; exact pk_us)
      subst etv
      refine lv_iconst (v := 3) hx hb dX4_drift_54 (by decide) ?_
      refine lv_iadd hx hb dX4_drift_55 ?_
      refine f_iast hx hb hG.1 hI rfl (hSm _ (by omega) (by omega)) (hS.2 4 (by decide)) (vp_in_nI (by omega) (by omega)) dX4_drift_56 (fun E19 H locs hE20 hn21 hI => ?_)
      rw [hclu] at hE20
      have hS := hS.row (j := 4) (by decide) hE20 (fun q hq => hn21 q hq)
      have hS : st_at cI ad E19 sb T (su S u (va_up bf 7 ((bf 7) + 3))) := by rw [su_put _ _ _ _ (by decide)] at hS; exact hS
      have hfr : ∀ q : Nat, (q < sb ∨ sb + 11 ≤ q) → E19 q = E q := fun q hq => (hn21 q (by omega)).trans (hfr q hq)
      refine lv_goto (tgt := 67) hx hb dX4_drift_57 (by decide) ?_
      exact f_retv hQ hx hb hr hlocks hI.2.2 (by omega) (by omega) dX4_drift_67 E19 (fB_of hI) (⟨by rw [show p_drift bf = (va_up bf 7 ((bf 7) + 3)) from if_neg hw]; exact hS, hfr⟩)
    · have n_39 := c_39
      have c_39 := i_nlt.mp n_39
      refine lv_iload_n hx hb dX4_drift_42 rfl (lv_at hl 0 rfl) ?_
      refine lv_iconst (v := 5) hx hb dX4_drift_43 (by decide) ?_
      refine lv_icmp_ne (tgt := 60) hx hb dX4_drift_44 (by decide) (fun c_44 => ?_) (fun c_44 => ?_)
      · have hw : p_lane (p_want bf) := (want_lane h4).mpr ⟨n_39, c_44⟩
        refine lv_aload_n hx hb dX4_drift_60 rfl (lv_at hl 1 rfl) ?_
        refine f_get (ci := 4) (v := .ref (ad (sb + 1 + 1))) (C := RX4) (T := TX4) (N := 12) hx hb hts (by decide +kernel) hown hG.1 hI ha (hSm _ (by omega) (by omega)) (hS.1) rfl 2 (by decide) (hts (.fieldLink RX4 19 "CoracleRaceModel$State" "lane" "[I") (by decide +kernel)) rfl dX4_drift_61 ?_
        refine lv_iload_n hx hb dX4_drift_64 rfl (lv_at hl 2 rfl) ?_
        refine lv_iload_n hx hb dX4_drift_65 rfl (lv_at hl 0 rfl) ?_
        refine f_iast hx hb hG.1 hI rfl (hSm _ (by omega) (by omega)) (hS.2 1 (by decide)) (vp_in_nI (by omega) (by omega)) dX4_drift_66 (fun E22 H locs hE23 hn24 hI => ?_)
        rw [hclu] at hE23
        have hS := hS.row (j := 1) (by decide) hE23 (fun q hq => hn24 q hq)
        have hS : st_at cI ad E22 sb T (su S u (va_up bf 4 (p_want bf))) := by rw [su_put _ _ _ _ (by decide)] at hS; exact hS
        have hfr : ∀ q : Nat, (q < sb ∨ sb + 11 ≤ q) → E22 q = E q := fun q hq => (hn24 q (by omega)).trans (hfr q hq)
        exact f_retv hQ hx hb hr hlocks hI.2.2 (by omega) (by omega) dX4_drift_67 E22 (fB_of hI) (⟨by rw [show p_drift bf = (va_up bf 4 (p_want bf)) from if_pos hw]; exact hS, hfr⟩)
      · have hw : ¬ p_lane (p_want bf) := fun q => ((want_lane h4).mp q).2 c_44
        refine lv_aload_n hx hb dX4_drift_47 rfl (lv_at hl 1 rfl) ?_
        refine f_get (ci := 4) (v := .ref (ad (sb + 1 + 4))) (C := RX4) (T := TX4) (N := 12) hx hb hts (by decide +kernel) hown hG.1 hI ha (hSm _ (by omega) (by omega)) (hS.1) rfl 5 (by decide) (hts (.fieldLink RX4 28 "CoracleRaceModel$State" "fouls" "[I") (by decide +kernel)) rfl dX4_drift_48 ?_
        refine lv_iload_n hx hb dX4_drift_51 rfl (lv_at hl 2 rfl) ?_
        refine lv_dup2_11 hx hb dX4_drift_52 rfl rfl ?_
        refine f_iald hx hb hG.1 hI rfl (hSm _ (by omega) (by omega)) (hS.2 4 (by decide)) (vp_in_nI (by omega) (by omega)) dX4_drift_53 ?_
        refine lv_topi (fun tv etv => ?_)
        have etv : tv = (bf 7) := etv.trans (by rw [hclu]; exact pk_us)
        subst etv
        refine lv_iconst (v := 3) hx hb dX4_drift_54 (by decide) ?_
        refine lv_iadd hx hb dX4_drift_55 ?_
        refine f_iast hx hb hG.1 hI rfl (hSm _ (by omega) (by omega)) (hS.2 4 (by decide)) (vp_in_nI (by omega) (by omega)) dX4_drift_56 (fun E25 H locs hE26 hn27 hI => ?_)
        rw [hclu] at hE26
        have hS := hS.row (j := 4) (by decide) hE26 (fun q hq => hn27 q hq)
        have hS : st_at cI ad E25 sb T (su S u (va_up bf 7 ((bf 7) + 3))) := by rw [su_put _ _ _ _ (by decide)] at hS; exact hS
        have hfr : ∀ q : Nat, (q < sb ∨ sb + 11 ≤ q) → E25 q = E q := fun q hq => (hn27 q (by omega)).trans (hfr q hq)
        refine lv_goto (tgt := 67) hx hb dX4_drift_57 (by decide) ?_
        exact f_retv hQ hx hb hr hlocks hI.2.2 (by omega) (by omega) dX4_drift_67 E25 (fB_of hI) (⟨by rw [show p_drift bf = (va_up bf 7 ((bf 7) + 3)) from if_neg hw]; exact hS, hfr⟩)

set_option maxHeartbeats 4000000 in
set_option maxRecDepth 100000 in
theorem m_X4_go (l : Launch) {D : va_G} {cI cJ cB : ClassId} {t0 z : Nat} {tx ad : Nat → Nat} {L : List Nat} {E : Nat → va_E} {sb a : Nat} (ha : ad sb = a) (h60 : 60 ≤ sb) (hSm : ∀ k, sb ≤ k → k < sb + 11 → k ∈ L) {T : Nat} (hTb : T < 2 ^ 31) {S : Nat → Nat → Int32} {u : Nat} (hu6 : u < 6) {bf : Nat → Int32} (hS : st_at cI ad E sb T (su S u bf)) {len : Nat} (h1l : 0 < len) (hl6 : len ≤ 6) (hln : S 8 u = nI len) (hMm : ∀ k, 50 ≤ k → k < 55 → k ∈ L) {th : Int32} {w p g : Nat → Int32} {nw n : Nat} {str : Nat → Int32} (hM : m_at cI ad E th w p g nw n str) (hNW : nw ≤ 6) (hN6 : n ≤ 6) (hc2 : bf 2 = str u) (h4 : p_lane (bf 4)) (h5 : -4 ≤ bf 5 ∧ bf 5 ≤ 4) : Met l yX4_go wsX4_go ({ frames := 2, cells := 0, slots := 0, locals := 45 } : Room) (va_Pc [.ref a, .int (nI u)] (fPre D cI cJ cB t0 z tx ad L E)) (va_Qv (fun (E1 : Nat → va_E) => st_at cI ad E1 sb T (su S u (p_tickK w p g nw (nI T) (m_row (S 9 u) (nI len) (T % len)) bf)) ∧ ∀ q : Nat, (q < sb ∨ sb + 11 ≤ q) → E1 q = E q) (fB D z ad L) (fA z)) 0 0 (fA z) := by
  refine f_ofW (cc := cX4_go) (maxL := 5) (ret := none) (by decide) rfl (Nat.le_of_ble_eq_true rfl) ?_
  intro pr e s m args below meth c Q hx hb hr hml hts hown hlocks hin hG H locs hI hQ ls hl
  have hl : lv_has ls 5 [(0, .ref a), (1, .int (nI u))] := hl
  have hfr : ∀ q : Nat, (q < sb ∨ sb + 11 ≤ q) → E q = E q := fun _ _ => rfl
  have hclu : (nI u).toNatClampNeg = u := nI_clamp (by omega)
  refine lv_aload_n hx hb dX4_go_0 rfl (lv_at hl 0 rfl) ?_
  refine lv_iload_n hx hb dX4_go_1 rfl (lv_at hl 1 rfl) ?_
  refine f_calli1 (va_runV (As := [.int (nI u)]) (rest := []) ⟨hx, hb, hml, hown, hts⟩ (m_X4_paddles l ha h60 hSm hTb hu6 hS h1l hl6 hln hMm hM hNW hN6 hc2 h5) (cwV 1 hts gX4_go_X4_paddles rfl rfl rfl (by decide +kernel) ⟨Nat.le_of_ble_eq_true rfl, Nat.le_of_ble_eq_true rfl⟩) (fPre_ofV hG hI ha (hSm _ (by omega) (by omega)) (hS.1) rfl rfl) rfl rfl hl.1 rfl (lv_room (Nat.le_of_ble_eq_true rfl)) dX4_go_2 ⟨Nat.le_of_ble_eq_true rfl, Nat.le_of_ble_eq_true rfl⟩) hI (fun r1 E2 H locs hp hI => ?_)
  obtain ⟨he, hS, hn9⟩ := hp
  obtain ⟨K, hK⟩ : ∃ K, K = (m_row (S 9 u) (nI len) (T % len)) := ⟨_, rfl⟩
  rw [← hK] at he hS
  subst he
  have hM := hM.kept (fun q h1 h2 => hn9 q (by omega))
  have hfr : ∀ q : Nat, (q < sb ∨ sb + 11 ≤ q) → E2 q = E q := fun q hq => (hn9 q hq).trans (hfr q hq)
  refine lv_istore_n (lv' := [(2, .int (p_force bf K)), (0, .ref a), (1, .int (nI u))]) hx hb dX4_go_5 rfl hl (by decide) rfl (fun ls hl => ?_)
  refine lv_aload_n hx hb dX4_go_6 rfl (lv_at hl 1 rfl) ?_
  refine lv_iload_n hx hb dX4_go_7 rfl (lv_at hl 2 rfl) ?_
  refine f_callv1 (va_runV (As := [.int (nI u)]) (rest := []) ⟨hx, hb, hml, hown, hts⟩ (m_X4_drift l ha h60 hSm hTb hu6 hS (by rw [turn_o (by decide) (by decide)]; exact h4)) (cwV 1 hts gX4_go_X4_drift rfl rfl rfl (by decide +kernel) ⟨Nat.le_of_ble_eq_true rfl, Nat.le_of_ble_eq_true rfl⟩) (fPre_ofV hG hI ha (hSm _ (by omega) (by omega)) (hS.1) rfl rfl) rfl rfl hl.1 rfl (lv_room (Nat.le_of_ble_eq_true rfl)) dX4_go_8 ⟨Nat.le_of_ble_eq_true rfl, Nat.le_of_ble_eq_true rfl⟩) hI (fun E3 H locs hp hI => ?_)
  obtain ⟨hS, hn9⟩ := hp
  have hM := hM.kept (fun q h1 h2 => hn9 q (by omega))
  have hfr : ∀ q : Nat, (q < sb ∨ sb + 11 ≤ q) → E3 q = E q := fun q hq => (hn9 q hq).trans (hfr q hq)
  have h4d : p_lane ((p_drift (p_turn bf K)) 4) := drift_lane (by rw [turn_o (by decide) (by decide)]; exact h4)
  refine lv_aload_n hx hb dX4_go_11 rfl (lv_at hl 1 rfl) ?_
  refine f_get (ci := 4) (v := .ref (ad (sb + 1 + 0))) (C := RX4) (T := TX4) (N := 12) hx hb hts (by decide +kernel) hown hG.1 hI ha (hSm _ (by omega) (by omega)) (hS.1) rfl 1 (by decide) (hts (.fieldLink RX4 15 "CoracleRaceModel$State" "place" "[I") (by decide +kernel)) rfl dX4_go_12 ?_
  refine lv_iload_n hx hb dX4_go_15 rfl (lv_at hl 2 rfl) ?_
  refine f_iald hx hb hG.1 hI rfl (hSm _ (by omega) (by omega)) (hS.2 0 (by decide)) (vp_in_nI (by omega) (by omega)) dX4_go_16 ?_
  refine lv_topi (fun tv etv => ?_)
  have etv : tv = ((p_drift (p_turn bf K)) 3) := etv.trans (by rw [hclu]; exact pk_us)
  subst etv
  refine lv_iload_n hx hb dX4_go_17 rfl (lv_at hl 0 rfl) ?_
  refine lv_iconst (v := 4) hx hb dX4_go_18 (by decide) ?_
  refine lv_aload_n hx hb dX4_go_19 rfl (lv_at hl 1 rfl) ?_
  refine f_get (ci := 4) (v := .ref (ad (sb + 1 + 2))) (C := RX4) (T := TX4) (N := 12) hx hb hts (by decide +kernel) hown hG.1 hI ha (hSm _ (by omega) (by omega)) (hS.1) rfl 3 (by decide) (hts (.fieldLink RX4 22 "CoracleRaceModel$State" "heads" "[I") (by decide +kernel)) rfl dX4_go_20 ?_
  refine lv_iload_n hx hb dX4_go_23 rfl (lv_at hl 2 rfl) ?_
  refine f_iald hx hb hG.1 hI rfl (hSm _ (by omega) (by omega)) (hS.2 2 (by decide)) (vp_in_nI (by omega) (by omega)) dX4_go_24 ?_
  refine lv_topi (fun tv etv => ?_)
  have etv : tv = ((p_drift (p_turn bf K)) 5) := etv.trans (by rw [hclu]; exact pk_us)
  subst etv
  refine va_mabs hx hb (hml.trans hl.1.symm) hown (hts (.methodLink RX4 76 Lib.Math.abs.name) (by decide +kernel)) (hts (.static Lib.Math.abs.name) (by decide +kernel)) (hts (.initialized "java/lang/Math") (by decide +kernel)) (hts (.code Lib.Math.abs.name Lib.Math.abs.code 1 (some .int)) (by decide +kernel)) (Nat.le_of_ble_eq_true rfl) (Nat.le_of_ble_eq_true rfl) (Nat.zero_le _) (Nat.zero_le _) dX4_go_25 ?_
  refine lv_topi (fun tv etv => ?_)
  have etv : tv = (p_abs ((p_drift (p_turn bf K)) 5)) := etv.trans (rfl)
  subst etv
  refine lv_isub hx hb dX4_go_28 ?_
  refine lv_imul hx hb dX4_go_29 ?_
  refine lv_iconst (v := 4) hx hb dX4_go_30 (by decide) ?_
  refine lv_idiv hx hb dX4_go_31 (by decide) ?_
  refine lv_iadd hx hb dX4_go_32 ?_
  refine lv_aload_n hx hb dX4_go_33 rfl (lv_at hl 1 rfl) ?_
  refine f_get (ci := 4) (v := .ref (ad 50)) (C := RX4) (T := TX4) (N := 12) hx hb hts (by decide +kernel) hown hG.1 hI ha (hSm _ (by omega) (by omega)) (hS.1) rfl 11 (by decide) (hts (.fieldLink RX4 3 "CoracleRaceModel$State" "this$0" "LCoracleRaceModel;") (by decide +kernel)) rfl dX4_go_34 ?_
  refine f_getN (ci := 5) (v := .ref (ad 51)) (C := RX5) (T := TX5) (N := 9) hx hb hts (by decide +kernel) hown hG.1 hI rfl (hMm _ (by omega) (by omega)) (hM.1) rfl 1 (by decide) (hG.2.1 (.fieldLinkNest RX4 102 RX5 "water" "[I" RX5) (by simp [fNest])) rfl dX4_go_37 ?_
  refine lv_aload_n hx hb dX4_go_40 rfl (lv_at hl 1 rfl) ?_
  refine f_get (ci := 4) (v := .ref (ad (sb + 1 + 1))) (C := RX4) (T := TX4) (N := 12) hx hb hts (by decide +kernel) hown hG.1 hI ha (hSm _ (by omega) (by omega)) (hS.1) rfl 2 (by decide) (hts (.fieldLink RX4 19 "CoracleRaceModel$State" "lane" "[I") (by decide +kernel)) rfl dX4_go_41 ?_
  refine lv_iload_n hx hb dX4_go_44 rfl (lv_at hl 2 rfl) ?_
  refine f_iald hx hb hG.1 hI rfl (hSm _ (by omega) (by omega)) (hS.2 1 (by decide)) (vp_in_nI (by omega) (by omega)) dX4_go_45 ?_
  refine lv_topi (fun tv etv => ?_)
  have etv : tv = ((p_drift (p_turn bf K)) 4) := etv.trans (by rw [hclu]; exact pk_us)
  subst etv
  refine f_iald hx hb hG.1 hI rfl (hMm _ (by omega) (by omega)) (hM.2.1) (lane_ix h4d) dX4_go_46 ?_
  refine lv_iadd hx hb dX4_go_47 ?_
  refine lv_topi (fun tv etv => ?_)
  have etv : tv = ((p_drift (p_turn bf K)) 3 + p_way w (p_drift (p_turn bf K)) (p_force bf K)) := etv.trans (Int32.add_assoc _ _ _)
  subst etv
  refine lv_istore_n (lv' := [(3, .int ((p_drift (p_turn bf K)) 3 + p_way w (p_drift (p_turn bf K)) (p_force bf K))), (2, .int (p_force bf K)), (0, .ref a), (1, .int (nI u))]) hx hb dX4_go_48 rfl hl (by decide) rfl (fun ls hl => ?_)
  refine lv_aload_n hx hb dX4_go_49 rfl (lv_at hl 2 rfl) ?_
  refine lv_iload_n hx hb dX4_go_50 rfl (lv_at hl 3 rfl) ?_
  refine lv_iload_n hx hb dX4_go_51 rfl (lv_at hl 0 rfl) ?_
  refine f_calli1 (va_runV (As := [.int (nI u), .int ((p_drift (p_turn bf K)) 3 + p_way w (p_drift (p_turn bf K)) (p_force bf K))]) (rest := []) ⟨hx, hb, hml, hown, hts⟩ (m_X4_stopsAt l ha h60 hSm hTb hu6 hS hMm hM hNW hN6 ((p_drift (p_turn bf K)) 3 + p_way w (p_drift (p_turn bf K)) (p_force bf K))) (cwV 2 hts gX4_go_X4_stopsAt rfl rfl rfl (by decide +kernel) ⟨Nat.le_of_ble_eq_true rfl, Nat.le_of_ble_eq_true rfl⟩) (fPre_ofV hG hI ha (hSm _ (by omega) (by omega)) (hS.1) rfl rfl) rfl rfl hl.1 rfl (lv_room (Nat.le_of_ble_eq_true rfl)) dX4_go_52 ⟨Nat.le_of_ble_eq_true rfl, Nat.le_of_ble_eq_true rfl⟩) hI (fun r4 E5 H locs hp hI => ?_)
  obtain ⟨he, hq⟩ := hp
  rw [hq] at hI
  have he : r4 = (p_stops w p g nw (p_drift (p_turn bf K)) (p_force bf K)) := he
  subst he
  refine lv_istore (lv' := [(4, .int (p_stops w p g nw (p_drift (p_turn bf K)) (p_force bf K))), (3, .int ((p_drift (p_turn bf K)) 3 + p_way w (p_drift (p_turn bf K)) (p_force bf K))), (2, .int (p_force bf K)), (0, .ref a), (1, .int (nI u))]) hx hb dX4_go_55 hl (by decide) rfl (fun ls hl => ?_)
  refine lv_iload hx hb dX4_go_57 (lv_at hl 0 rfl) ?_
  refine lv_iconst (v := -1) hx hb dX4_go_59 (by decide) ?_
  refine lv_icmp_eq (tgt := 86) hx hb dX4_go_60 (by decide) (fun c_60 => ?_) (fun c_60 => ?_)
  · refine lv_aload_n hx hb dX4_go_86 rfl (lv_at hl 3 rfl) ?_
    refine f_get (ci := 4) (v := .ref (ad (sb + 1 + 0))) (C := RX4) (T := TX4) (N := 12) hx hb hts (by decide +kernel) hown hG.1 hI ha (hSm _ (by omega) (by omega)) (hS.1) rfl 1 (by decide) (hts (.fieldLink RX4 15 "CoracleRaceModel$State" "place" "[I") (by decide +kernel)) rfl dX4_go_87 ?_
    refine lv_iload_n hx hb dX4_go_90 rfl (lv_at hl 4 rfl) ?_
    refine lv_iload hx hb dX4_go_91 (lv_at hl 0 rfl) ?_
    refine lv_iconst (v := -1) hx hb dX4_go_93 (by decide) ?_
    refine lv_icmp_ne (tgt := 107) hx hb dX4_go_94 (by decide) (fun c_94 => ?_) (fun c_94 => ?_)
    · exact absurd c_60 c_94
    · refine lv_sipush (v := 200) hx hb dX4_go_97 (by decide) ?_
      refine lv_iload_n hx hb dX4_go_100 rfl (lv_at hl 1 rfl) ?_
      refine va_mmin hx hb (hml.trans hl.1.symm) hown (hts (.methodLink RX4 67 Lib.Math.min.name) (by decide +kernel)) (hts (.static Lib.Math.min.name) (by decide +kernel)) (hts (.initialized "java/lang/Math") (by decide +kernel)) (hts (.code Lib.Math.min.name Lib.Math.min.code 2 (some .int)) (by decide +kernel)) (Nat.le_of_ble_eq_true rfl) (Nat.le_of_ble_eq_true rfl) (Nat.zero_le _) (Nat.zero_le _) dX4_go_101 ?_
      refine lv_topi (fun tv etv => ?_)
      have etv : tv = (p_min ((p_drift (p_turn bf K)) 3 + p_way w (p_drift (p_turn bf K)) (p_force bf K)) 200) := etv.trans (min_comm _ _)
      subst etv
      refine lv_goto (tgt := 109) hx hb dX4_go_104 (by decide) ?_
      refine f_iast hx hb hG.1 hI rfl (hSm _ (by omega) (by omega)) (hS.2 0 (by decide)) (vp_in_nI (by omega) (by omega)) dX4_go_109 (fun E6 H locs hE7 hn8 hI => ?_)
      rw [hclu] at hE7
      have hS := hS.row (j := 0) (by decide) hE7 (fun q hq => hn8 q hq)
      have hS : st_at cI ad E6 sb T (su S u (va_up (p_drift (p_turn bf K)) 3 (p_min ((p_drift (p_turn bf K)) 3 + p_way w (p_drift (p_turn bf K)) (p_force bf K)) 200))) := by rw [su_put _ _ _ _ (by decide)] at hS; exact hS
      have hM := hM.kept (fun q h1 h2 => hn8 q (by omega))
      have hfr : ∀ q : Nat, (q < sb ∨ sb + 11 ≤ q) → E6 q = E q := fun q hq => (hn8 q (by omega)).trans (hfr q hq)
      have hS : st_at cI ad E6 sb T (su S u (p_adv w p g nw (p_drift (p_turn bf K)) (p_force bf K))) := by rw [show (p_adv w p g nw (p_drift (p_turn bf K)) (p_force bf K)) = (va_up (p_drift (p_turn bf K)) 3 (p_min ((p_drift (p_turn bf K)) 3 + p_way w (p_drift (p_turn bf K)) (p_force bf K)) 200)) from (if_pos h4d).trans (if_pos c_60)]; exact hS
      refine lv_aload_n hx hb dX4_go_110 rfl (lv_at hl 3 rfl) ?_
      refine f_get (ci := 4) (v := .int (nI T)) (C := RX4) (T := TX4) (N := 12) hx hb hts (by decide +kernel) hown hG.1 hI ha (hSm _ (by omega) (by omega)) (hS.1) rfl 0 (by decide) (hts (.fieldLink RX4 52 "CoracleRaceModel$State" "tick" "I") (by decide +kernel)) rfl dX4_go_111 ?_
      refine lv_iconst (v := 4) hx hb dX4_go_114 (by decide) ?_
      refine lv_irem hx hb dX4_go_115 (by decide) ?_
      refine lv_topi (fun tv etv => ?_)
      have etv : tv = (p_rem (nI T) 4) := etv.trans (rfl)
      subst etv
      refine lv_if_ne (tgt := 125) hx hb dX4_go_116 (by decide) (fun c_116 => ?_) (fun c_116 => ?_)
      · have hS : st_at cI ad E6 sb T (su S u (p_wet (nI T) (p_adv w p g nw (p_drift (p_turn bf K)) (p_force bf K)))) := by rw [show (p_wet (nI T) (p_adv w p g nw (p_drift (p_turn bf K)) (p_force bf K))) = (p_adv w p g nw (p_drift (p_turn bf K)) (p_force bf K)) from if_neg c_116]; exact hS
        refine lv_aload_n hx hb dX4_go_125 rfl (lv_at hl 3 rfl) ?_
        refine f_get (ci := 4) (v := .ref (ad (sb + 1 + 0))) (C := RX4) (T := TX4) (N := 12) hx hb hts (by decide +kernel) hown hG.1 hI ha (hSm _ (by omega) (by omega)) (hS.1) rfl 1 (by decide) (hts (.fieldLink RX4 15 "CoracleRaceModel$State" "place" "[I") (by decide +kernel)) rfl dX4_go_126 ?_
        refine lv_iload_n hx hb dX4_go_129 rfl (lv_at hl 4 rfl) ?_
        refine f_iald hx hb hG.1 hI rfl (hSm _ (by omega) (by omega)) (hS.2 0 (by decide)) (vp_in_nI (by omega) (by omega)) dX4_go_130 ?_
        refine lv_topi (fun tv etv => ?_)
        have etv : tv = ((p_wet (nI T) (p_adv w p g nw (p_drift (p_turn bf K)) (p_force bf K))) 3) := etv.trans (by rw [hclu]; exact pk_us)
        subst etv
        refine lv_sipush (v := 200) hx hb dX4_go_131 (by decide) ?_
        refine lv_icmp_ne (tgt := 147) hx hb dX4_go_134 (by decide) (fun c_134 => ?_) (fun c_134 => ?_)
        · exact f_retv hQ hx hb hr hlocks hI.2.2 (by omega) (by omega) dX4_go_147 E6 (fB_of hI) (⟨by rw [← hK, show p_tickK w p g nw (nI T) K bf = (p_wet (nI T) (p_adv w p g nw (p_drift (p_turn bf K)) (p_force bf K))) from if_neg c_134]; exact hS, hfr⟩)
        · refine lv_aload_n hx hb dX4_go_137 rfl (lv_at hl 3 rfl) ?_
          refine f_get (ci := 4) (v := .ref (ad (sb + 1 + 5))) (C := RX4) (T := TX4) (N := 12) hx hb hts (by decide +kernel) hown hG.1 hI ha (hSm _ (by omega) (by omega)) (hS.1) rfl 6 (by decide) (hts (.fieldLink RX4 31 "CoracleRaceModel$State" "came" "[I") (by decide +kernel)) rfl dX4_go_138 ?_
          refine lv_iload_n hx hb dX4_go_141 rfl (lv_at hl 4 rfl) ?_
          refine lv_aload_n hx hb dX4_go_142 rfl (lv_at hl 3 rfl) ?_
          refine f_get (ci := 4) (v := .int (nI T)) (C := RX4) (T := TX4) (N := 12) hx hb hts (by decide +kernel) hown hG.1 hI ha (hSm _ (by omega) (by omega)) (hS.1) rfl 0 (by decide) (hts (.fieldLink RX4 52 "CoracleRaceModel$State" "tick" "I") (by decide +kernel)) rfl dX4_go_143 ?_
          refine f_iast hx hb hG.1 hI rfl (hSm _ (by omega) (by omega)) (hS.2 5 (by decide)) (vp_in_nI (by omega) (by omega)) dX4_go_146 (fun E9 H locs hE10 hn11 hI => ?_)
          rw [hclu] at hE10
          have hS := hS.row (j := 5) (by decide) hE10 (fun q hq => hn11 q hq)
          have hS : st_at cI ad E9 sb T (su S u (va_up (va_up (p_wet (nI T) (p_adv w p g nw (p_drift (p_turn bf K)) (p_force bf K))) 8 1) 9 (nI T))) := by rw [su_came] at hS; exact hS
          have hM := hM.kept (fun q h1 h2 => hn11 q (by omega))
          have hfr : ∀ q : Nat, (q < sb ∨ sb + 11 ≤ q) → E9 q = E q := fun q hq => (hn11 q (by omega)).trans (hfr q hq)
          exact f_retv hQ hx hb hr hlocks hI.2.2 (by omega) (by omega) dX4_go_147 E9 (fB_of hI) (⟨by rw [← hK, show p_tickK w p g nw (nI T) K bf = (va_up (va_up (p_wet (nI T) (p_adv w p g nw (p_drift (p_turn bf K)) (p_force bf K))) 8 1) 9 (nI T)) from if_pos c_134]; exact hS, hfr⟩)
      · refine lv_aload_n hx hb dX4_go_119 rfl (lv_at hl 3 rfl) ?_
        refine lv_iload_n hx hb dX4_go_120 rfl (lv_at hl 4 rfl) ?_
        refine lv_iconst (v := 1) hx hb dX4_go_121 (by decide) ?_
        refine f_callv1 (va_runV (As := [.int (nI u), .int 1]) (rest := []) ⟨hx, hb, hml, hown, hts⟩ (m_X4_soak l ha h60 hSm hTb hu6 hS 1) (cwV 2 hts gX4_go_X4_soak rfl rfl rfl (by decide +kernel) ⟨Nat.le_of_ble_eq_true rfl, Nat.le_of_ble_eq_true rfl⟩) (fPre_ofV hG hI ha (hSm _ (by omega) (by omega)) (hS.1) rfl rfl) rfl rfl hl.1 rfl (lv_room (Nat.le_of_ble_eq_true rfl)) dX4_go_122 ⟨Nat.le_of_ble_eq_true rfl, Nat.le_of_ble_eq_true rfl⟩) hI (fun E12 H locs hp hI => ?_)
        obtain ⟨hS, hn9⟩ := hp
        have hM := hM.kept (fun q h1 h2 => hn9 q (by omega))
        have hfr : ∀ q : Nat, (q < sb ∨ sb + 11 ≤ q) → E12 q = E q := fun q hq => (hn9 q hq).trans (hfr q hq)
        have hS : st_at cI ad E12 sb T (su S u (p_wet (nI T) (p_adv w p g nw (p_drift (p_turn bf K)) (p_force bf K)))) := by rw [show (p_wet (nI T) (p_adv w p g nw (p_drift (p_turn bf K)) (p_force bf K))) = (p_soak (p_adv w p g nw (p_drift (p_turn bf K)) (p_force bf K)) 1) from if_pos c_116]; exact hS
        refine lv_aload_n hx hb dX4_go_125 rfl (lv_at hl 3 rfl) ?_
        refine f_get (ci := 4) (v := .ref (ad (sb + 1 + 0))) (C := RX4) (T := TX4) (N := 12) hx hb hts (by decide +kernel) hown hG.1 hI ha (hSm _ (by omega) (by omega)) (hS.1) rfl 1 (by decide) (hts (.fieldLink RX4 15 "CoracleRaceModel$State" "place" "[I") (by decide +kernel)) rfl dX4_go_126 ?_
        refine lv_iload_n hx hb dX4_go_129 rfl (lv_at hl 4 rfl) ?_
        refine f_iald hx hb hG.1 hI rfl (hSm _ (by omega) (by omega)) (hS.2 0 (by decide)) (vp_in_nI (by omega) (by omega)) dX4_go_130 ?_
        refine lv_topi (fun tv etv => ?_)
        have etv : tv = ((p_wet (nI T) (p_adv w p g nw (p_drift (p_turn bf K)) (p_force bf K))) 3) := etv.trans (by rw [hclu]; exact pk_us)
        subst etv
        refine lv_sipush (v := 200) hx hb dX4_go_131 (by decide) ?_
        refine lv_icmp_ne (tgt := 147) hx hb dX4_go_134 (by decide) (fun c_134 => ?_) (fun c_134 => ?_)
        · exact f_retv hQ hx hb hr hlocks hI.2.2 (by omega) (by omega) dX4_go_147 E12 (fB_of hI) (⟨by rw [← hK, show p_tickK w p g nw (nI T) K bf = (p_wet (nI T) (p_adv w p g nw (p_drift (p_turn bf K)) (p_force bf K))) from if_neg c_134]; exact hS, hfr⟩)
        · refine lv_aload_n hx hb dX4_go_137 rfl (lv_at hl 3 rfl) ?_
          refine f_get (ci := 4) (v := .ref (ad (sb + 1 + 5))) (C := RX4) (T := TX4) (N := 12) hx hb hts (by decide +kernel) hown hG.1 hI ha (hSm _ (by omega) (by omega)) (hS.1) rfl 6 (by decide) (hts (.fieldLink RX4 31 "CoracleRaceModel$State" "came" "[I") (by decide +kernel)) rfl dX4_go_138 ?_
          refine lv_iload_n hx hb dX4_go_141 rfl (lv_at hl 4 rfl) ?_
          refine lv_aload_n hx hb dX4_go_142 rfl (lv_at hl 3 rfl) ?_
          refine f_get (ci := 4) (v := .int (nI T)) (C := RX4) (T := TX4) (N := 12) hx hb hts (by decide +kernel) hown hG.1 hI ha (hSm _ (by omega) (by omega)) (hS.1) rfl 0 (by decide) (hts (.fieldLink RX4 52 "CoracleRaceModel$State" "tick" "I") (by decide +kernel)) rfl dX4_go_143 ?_
          refine f_iast hx hb hG.1 hI rfl (hSm _ (by omega) (by omega)) (hS.2 5 (by decide)) (vp_in_nI (by omega) (by omega)) dX4_go_146 (fun E13 H locs hE14 hn15 hI => ?_)
          rw [hclu] at hE14
          have hS := hS.row (j := 5) (by decide) hE14 (fun q hq => hn15 q hq)
          have hS : st_at cI ad E13 sb T (su S u (va_up (va_up (p_wet (nI T) (p_adv w p g nw (p_drift (p_turn bf K)) (p_force bf K))) 8 1) 9 (nI T))) := by rw [su_came] at hS; exact hS
          have hM := hM.kept (fun q h1 h2 => hn15 q (by omega))
          have hfr : ∀ q : Nat, (q < sb ∨ sb + 11 ≤ q) → E13 q = E q := fun q hq => (hn15 q (by omega)).trans (hfr q hq)
          exact f_retv hQ hx hb hr hlocks hI.2.2 (by omega) (by omega) dX4_go_147 E13 (fB_of hI) (⟨by rw [← hK, show p_tickK w p g nw (nI T) K bf = (va_up (va_up (p_wet (nI T) (p_adv w p g nw (p_drift (p_turn bf K)) (p_force bf K))) 8 1) 9 (nI T)) from if_pos c_134]; exact hS, hfr⟩)
  · refine lv_aload_n hx hb dX4_go_63 rfl (lv_at hl 3 rfl) ?_
    refine f_get (ci := 4) (v := .ref (ad (sb + 1 + 2))) (C := RX4) (T := TX4) (N := 12) hx hb hts (by decide +kernel) hown hG.1 hI ha (hSm _ (by omega) (by omega)) (hS.1) rfl 3 (by decide) (hts (.fieldLink RX4 22 "CoracleRaceModel$State" "heads" "[I") (by decide +kernel)) rfl dX4_go_64 ?_
    refine lv_iload_n hx hb dX4_go_67 rfl (lv_at hl 4 rfl) ?_
    refine lv_iconst (v := 0) hx hb dX4_go_68 (by decide) ?_
    refine f_iast hx hb hG.1 hI rfl (hSm _ (by omega) (by omega)) (hS.2 2 (by decide)) (vp_in_nI (by omega) (by omega)) dX4_go_69 (fun E16 H locs hE17 hn18 hI => ?_)
    rw [hclu] at hE17
    have hS := hS.row (j := 2) (by decide) hE17 (fun q hq => hn18 q hq)
    have hS : st_at cI ad E16 sb T (su S u (va_up (p_drift (p_turn bf K)) 5 0)) := by rw [su_put _ _ _ _ (by decide)] at hS; exact hS
    have hM := hM.kept (fun q h1 h2 => hn18 q (by omega))
    have hfr : ∀ q : Nat, (q < sb ∨ sb + 11 ≤ q) → E16 q = E q := fun q hq => (hn18 q (by omega)).trans (hfr q hq)
    refine lv_aload_n hx hb dX4_go_70 rfl (lv_at hl 3 rfl) ?_
    refine f_get (ci := 4) (v := .ref (ad (sb + 1 + 7))) (C := RX4) (T := TX4) (N := 12) hx hb hts (by decide +kernel) hown hG.1 hI ha (hSm _ (by omega) (by omega)) (hS.1) rfl 8 (by decide) (hts (.fieldLink RX4 37 "CoracleRaceModel$State" "stops" "[I") (by decide +kernel)) rfl dX4_go_71 ?_
    refine lv_iload_n hx hb dX4_go_74 rfl (lv_at hl 4 rfl) ?_
    refine lv_dup2_11 hx hb dX4_go_75 rfl rfl ?_
    refine f_iald hx hb hG.1 hI rfl (hSm _ (by omega) (by omega)) (hS.2 7 (by decide)) (vp_in_nI (by omega) (by omega)) dX4_go_76 ?_
    refine lv_topi (fun tv etv => ?_)
    have etv : tv = ((p_drift (p_turn bf K)) 11) := etv.trans (by rw [hclu]; exact pk_us)
    subst etv
    refine lv_iconst (v := 1) hx hb dX4_go_77 (by decide) ?_
    refine lv_iadd hx hb dX4_go_78 ?_
    refine f_iast hx hb hG.1 hI rfl (hSm _ (by omega) (by omega)) (hS.2 7 (by decide)) (vp_in_nI (by omega) (by omega)) dX4_go_79 (fun E19 H locs hE20 hn21 hI => ?_)
    rw [hclu] at hE20
    have hS := hS.row (j := 7) (by decide) hE20 (fun q hq => hn21 q hq)
    have hS : st_at cI ad E19 sb T (su S u (va_up (va_up (p_drift (p_turn bf K)) 5 0) 11 (((p_drift (p_turn bf K)) 11) + 1))) := by rw [su_put _ _ _ _ (by decide)] at hS; exact hS
    have hM := hM.kept (fun q h1 h2 => hn21 q (by omega))
    have hfr : ∀ q : Nat, (q < sb ∨ sb + 11 ≤ q) → E19 q = E q := fun q hq => (hn21 q (by omega)).trans (hfr q hq)
    refine lv_aload_n hx hb dX4_go_80 rfl (lv_at hl 3 rfl) ?_
    refine lv_iload_n hx hb dX4_go_81 rfl (lv_at hl 4 rfl) ?_
    refine lv_iconst (v := 5) hx hb dX4_go_82 (by decide) ?_
    refine f_callv1 (va_runV (As := [.int (nI u), .int 5]) (rest := []) ⟨hx, hb, hml, hown, hts⟩ (m_X4_soak l ha h60 hSm hTb hu6 hS 5) (cwV 2 hts gX4_go_X4_soak rfl rfl rfl (by decide +kernel) ⟨Nat.le_of_ble_eq_true rfl, Nat.le_of_ble_eq_true rfl⟩) (fPre_ofV hG hI ha (hSm _ (by omega) (by omega)) (hS.1) rfl rfl) rfl rfl hl.1 rfl (lv_room (Nat.le_of_ble_eq_true rfl)) dX4_go_83 ⟨Nat.le_of_ble_eq_true rfl, Nat.le_of_ble_eq_true rfl⟩) hI (fun E22 H locs hp hI => ?_)
    obtain ⟨hS, hn9⟩ := hp
    have hM := hM.kept (fun q h1 h2 => hn9 q (by omega))
    have hfr : ∀ q : Nat, (q < sb ∨ sb + 11 ≤ q) → E22 q = E q := fun q hq => (hn9 q hq).trans (hfr q hq)
    refine lv_aload_n hx hb dX4_go_86 rfl (lv_at hl 3 rfl) ?_
    refine f_get (ci := 4) (v := .ref (ad (sb + 1 + 0))) (C := RX4) (T := TX4) (N := 12) hx hb hts (by decide +kernel) hown hG.1 hI ha (hSm _ (by omega) (by omega)) (hS.1) rfl 1 (by decide) (hts (.fieldLink RX4 15 "CoracleRaceModel$State" "place" "[I") (by decide +kernel)) rfl dX4_go_87 ?_
    refine lv_iload_n hx hb dX4_go_90 rfl (lv_at hl 4 rfl) ?_
    refine lv_iload hx hb dX4_go_91 (lv_at hl 0 rfl) ?_
    refine lv_iconst (v := -1) hx hb dX4_go_93 (by decide) ?_
    refine lv_icmp_ne (tgt := 107) hx hb dX4_go_94 (by decide) (fun c_94 => ?_) (fun c_94 => ?_)
    · refine lv_iload hx hb dX4_go_107 (lv_at hl 0 rfl) ?_
      refine f_iast hx hb hG.1 hI rfl (hSm _ (by omega) (by omega)) (hS.2 0 (by decide)) (vp_in_nI (by omega) (by omega)) dX4_go_109 (fun E23 H locs hE24 hn25 hI => ?_)
      rw [hclu] at hE24
      have hS := hS.row (j := 0) (by decide) hE24 (fun q hq => hn25 q hq)
      have hS : st_at cI ad E23 sb T (su S u (va_up (p_soak (va_up (va_up (p_drift (p_turn bf K)) 5 0) 11 (((p_drift (p_turn bf K)) 11) + 1)) 5) 3 (p_stops w p g nw (p_drift (p_turn bf K)) (p_force bf K)))) := by rw [su_put _ _ _ _ (by decide)] at hS; exact hS
      have hM := hM.kept (fun q h1 h2 => hn25 q (by omega))
      have hfr : ∀ q : Nat, (q < sb ∨ sb + 11 ≤ q) → E23 q = E q := fun q hq => (hn25 q (by omega)).trans (hfr q hq)
      have hS : st_at cI ad E23 sb T (su S u (p_halt (p_drift (p_turn bf K)) (p_stops w p g nw (p_drift (p_turn bf K)) (p_force bf K)))) := by rw [halt_eq] at hS; exact hS
      have hS : st_at cI ad E23 sb T (su S u (p_adv w p g nw (p_drift (p_turn bf K)) (p_force bf K))) := by rw [show (p_adv w p g nw (p_drift (p_turn bf K)) (p_force bf K)) = (p_halt (p_drift (p_turn bf K)) (p_stops w p g nw (p_drift (p_turn bf K)) (p_force bf K))) from (if_pos h4d).trans (if_neg c_60)]; exact hS
      refine lv_aload_n hx hb dX4_go_110 rfl (lv_at hl 3 rfl) ?_
      refine f_get (ci := 4) (v := .int (nI T)) (C := RX4) (T := TX4) (N := 12) hx hb hts (by decide +kernel) hown hG.1 hI ha (hSm _ (by omega) (by omega)) (hS.1) rfl 0 (by decide) (hts (.fieldLink RX4 52 "CoracleRaceModel$State" "tick" "I") (by decide +kernel)) rfl dX4_go_111 ?_
      refine lv_iconst (v := 4) hx hb dX4_go_114 (by decide) ?_
      refine lv_irem hx hb dX4_go_115 (by decide) ?_
      refine lv_topi (fun tv etv => ?_)
      have etv : tv = (p_rem (nI T) 4) := etv.trans (rfl)
      subst etv
      refine lv_if_ne (tgt := 125) hx hb dX4_go_116 (by decide) (fun c_116 => ?_) (fun c_116 => ?_)
      · have hS : st_at cI ad E23 sb T (su S u (p_wet (nI T) (p_adv w p g nw (p_drift (p_turn bf K)) (p_force bf K)))) := by rw [show (p_wet (nI T) (p_adv w p g nw (p_drift (p_turn bf K)) (p_force bf K))) = (p_adv w p g nw (p_drift (p_turn bf K)) (p_force bf K)) from if_neg c_116]; exact hS
        refine lv_aload_n hx hb dX4_go_125 rfl (lv_at hl 3 rfl) ?_
        refine f_get (ci := 4) (v := .ref (ad (sb + 1 + 0))) (C := RX4) (T := TX4) (N := 12) hx hb hts (by decide +kernel) hown hG.1 hI ha (hSm _ (by omega) (by omega)) (hS.1) rfl 1 (by decide) (hts (.fieldLink RX4 15 "CoracleRaceModel$State" "place" "[I") (by decide +kernel)) rfl dX4_go_126 ?_
        refine lv_iload_n hx hb dX4_go_129 rfl (lv_at hl 4 rfl) ?_
        refine f_iald hx hb hG.1 hI rfl (hSm _ (by omega) (by omega)) (hS.2 0 (by decide)) (vp_in_nI (by omega) (by omega)) dX4_go_130 ?_
        refine lv_topi (fun tv etv => ?_)
        have etv : tv = ((p_wet (nI T) (p_adv w p g nw (p_drift (p_turn bf K)) (p_force bf K))) 3) := etv.trans (by rw [hclu]; exact pk_us)
        subst etv
        refine lv_sipush (v := 200) hx hb dX4_go_131 (by decide) ?_
        refine lv_icmp_ne (tgt := 147) hx hb dX4_go_134 (by decide) (fun c_134 => ?_) (fun c_134 => ?_)
        · exact f_retv hQ hx hb hr hlocks hI.2.2 (by omega) (by omega) dX4_go_147 E23 (fB_of hI) (⟨by rw [← hK, show p_tickK w p g nw (nI T) K bf = (p_wet (nI T) (p_adv w p g nw (p_drift (p_turn bf K)) (p_force bf K))) from if_neg c_134]; exact hS, hfr⟩)
        · refine lv_aload_n hx hb dX4_go_137 rfl (lv_at hl 3 rfl) ?_
          refine f_get (ci := 4) (v := .ref (ad (sb + 1 + 5))) (C := RX4) (T := TX4) (N := 12) hx hb hts (by decide +kernel) hown hG.1 hI ha (hSm _ (by omega) (by omega)) (hS.1) rfl 6 (by decide) (hts (.fieldLink RX4 31 "CoracleRaceModel$State" "came" "[I") (by decide +kernel)) rfl dX4_go_138 ?_
          refine lv_iload_n hx hb dX4_go_141 rfl (lv_at hl 4 rfl) ?_
          refine lv_aload_n hx hb dX4_go_142 rfl (lv_at hl 3 rfl) ?_
          refine f_get (ci := 4) (v := .int (nI T)) (C := RX4) (T := TX4) (N := 12) hx hb hts (by decide +kernel) hown hG.1 hI ha (hSm _ (by omega) (by omega)) (hS.1) rfl 0 (by decide) (hts (.fieldLink RX4 52 "CoracleRaceModel$State" "tick" "I") (by decide +kernel)) rfl dX4_go_143 ?_
          refine f_iast hx hb hG.1 hI rfl (hSm _ (by omega) (by omega)) (hS.2 5 (by decide)) (vp_in_nI (by omega) (by omega)) dX4_go_146 (fun E26 H locs hE27 hn28 hI => ?_)
          rw [hclu] at hE27
          have hS := hS.row (j := 5) (by decide) hE27 (fun q hq => hn28 q hq)
          have hS : st_at cI ad E26 sb T (su S u (va_up (va_up (p_wet (nI T) (p_adv w p g nw (p_drift (p_turn bf K)) (p_force bf K))) 8 1) 9 (nI T))) := by rw [su_came] at hS; exact hS
          have hM := hM.kept (fun q h1 h2 => hn28 q (by omega))
          have hfr : ∀ q : Nat, (q < sb ∨ sb + 11 ≤ q) → E26 q = E q := fun q hq => (hn28 q (by omega)).trans (hfr q hq)
          exact f_retv hQ hx hb hr hlocks hI.2.2 (by omega) (by omega) dX4_go_147 E26 (fB_of hI) (⟨by rw [← hK, show p_tickK w p g nw (nI T) K bf = (va_up (va_up (p_wet (nI T) (p_adv w p g nw (p_drift (p_turn bf K)) (p_force bf K))) 8 1) 9 (nI T)) from if_pos c_134]; exact hS, hfr⟩)
      · refine lv_aload_n hx hb dX4_go_119 rfl (lv_at hl 3 rfl) ?_
        refine lv_iload_n hx hb dX4_go_120 rfl (lv_at hl 4 rfl) ?_
        refine lv_iconst (v := 1) hx hb dX4_go_121 (by decide) ?_
        refine f_callv1 (va_runV (As := [.int (nI u), .int 1]) (rest := []) ⟨hx, hb, hml, hown, hts⟩ (m_X4_soak l ha h60 hSm hTb hu6 hS 1) (cwV 2 hts gX4_go_X4_soak rfl rfl rfl (by decide +kernel) ⟨Nat.le_of_ble_eq_true rfl, Nat.le_of_ble_eq_true rfl⟩) (fPre_ofV hG hI ha (hSm _ (by omega) (by omega)) (hS.1) rfl rfl) rfl rfl hl.1 rfl (lv_room (Nat.le_of_ble_eq_true rfl)) dX4_go_122 ⟨Nat.le_of_ble_eq_true rfl, Nat.le_of_ble_eq_true rfl⟩) hI (fun E29 H locs hp hI => ?_)
        obtain ⟨hS, hn9⟩ := hp
        have hM := hM.kept (fun q h1 h2 => hn9 q (by omega))
        have hfr : ∀ q : Nat, (q < sb ∨ sb + 11 ≤ q) → E29 q = E q := fun q hq => (hn9 q hq).trans (hfr q hq)
        have hS : st_at cI ad E29 sb T (su S u (p_wet (nI T) (p_adv w p g nw (p_drift (p_turn bf K)) (p_force bf K)))) := by rw [show (p_wet (nI T) (p_adv w p g nw (p_drift (p_turn bf K)) (p_force bf K))) = (p_soak (p_adv w p g nw (p_drift (p_turn bf K)) (p_force bf K)) 1) from if_pos c_116]; exact hS
        refine lv_aload_n hx hb dX4_go_125 rfl (lv_at hl 3 rfl) ?_
        refine f_get (ci := 4) (v := .ref (ad (sb + 1 + 0))) (C := RX4) (T := TX4) (N := 12) hx hb hts (by decide +kernel) hown hG.1 hI ha (hSm _ (by omega) (by omega)) (hS.1) rfl 1 (by decide) (hts (.fieldLink RX4 15 "CoracleRaceModel$State" "place" "[I") (by decide +kernel)) rfl dX4_go_126 ?_
        refine lv_iload_n hx hb dX4_go_129 rfl (lv_at hl 4 rfl) ?_
        refine f_iald hx hb hG.1 hI rfl (hSm _ (by omega) (by omega)) (hS.2 0 (by decide)) (vp_in_nI (by omega) (by omega)) dX4_go_130 ?_
        refine lv_topi (fun tv etv => ?_)
        have etv : tv = ((p_wet (nI T) (p_adv w p g nw (p_drift (p_turn bf K)) (p_force bf K))) 3) := etv.trans (by rw [hclu]; exact pk_us)
        subst etv
        refine lv_sipush (v := 200) hx hb dX4_go_131 (by decide) ?_
        refine lv_icmp_ne (tgt := 147) hx hb dX4_go_134 (by decide) (fun c_134 => ?_) (fun c_134 => ?_)
        · exact f_retv hQ hx hb hr hlocks hI.2.2 (by omega) (by omega) dX4_go_147 E29 (fB_of hI) (⟨by rw [← hK, show p_tickK w p g nw (nI T) K bf = (p_wet (nI T) (p_adv w p g nw (p_drift (p_turn bf K)) (p_force bf K))) from if_neg c_134]; exact hS, hfr⟩)
        · refine lv_aload_n hx hb dX4_go_137 rfl (lv_at hl 3 rfl) ?_
          refine f_get (ci := 4) (v := .ref (ad (sb + 1 + 5))) (C := RX4) (T := TX4) (N := 12) hx hb hts (by decide +kernel) hown hG.1 hI ha (hSm _ (by omega) (by omega)) (hS.1) rfl 6 (by decide) (hts (.fieldLink RX4 31 "CoracleRaceModel$State" "came" "[I") (by decide +kernel)) rfl dX4_go_138 ?_
          refine lv_iload_n hx hb dX4_go_141 rfl (lv_at hl 4 rfl) ?_
          refine lv_aload_n hx hb dX4_go_142 rfl (lv_at hl 3 rfl) ?_
          refine f_get (ci := 4) (v := .int (nI T)) (C := RX4) (T := TX4) (N := 12) hx hb hts (by decide +kernel) hown hG.1 hI ha (hSm _ (by omega) (by omega)) (hS.1) rfl 0 (by decide) (hts (.fieldLink RX4 52 "CoracleRaceModel$State" "tick" "I") (by decide +kernel)) rfl dX4_go_143 ?_
          refine f_iast hx hb hG.1 hI rfl (hSm _ (by omega) (by omega)) (hS.2 5 (by decide)) (vp_in_nI (by omega) (by omega)) dX4_go_146 (fun E30 H locs hE31 hn32 hI => ?_)
          rw [hclu] at hE31
          have hS := hS.row (j := 5) (by decide) hE31 (fun q hq => hn32 q hq)
          have hS : st_at cI ad E30 sb T (su S u (va_up (va_up (p_wet (nI T) (p_adv w p g nw (p_drift (p_turn bf K)) (p_force bf K))) 8 1) 9 (nI T))) := by rw [su_came] at hS; exact hS
          have hM := hM.kept (fun q h1 h2 => hn32 q (by omega))
          have hfr : ∀ q : Nat, (q < sb ∨ sb + 11 ≤ q) → E30 q = E q := fun q hq => (hn32 q (by omega)).trans (hfr q hq)
          exact f_retv hQ hx hb hr hlocks hI.2.2 (by omega) (by omega) dX4_go_147 E30 (fB_of hI) (⟨by rw [← hK, show p_tickK w p g nw (nI T) K bf = (va_up (va_up (p_wet (nI T) (p_adv w p g nw (p_drift (p_turn bf K)) (p_force bf K))) 8 1) 9 (nI T)) from if_pos c_134]; exact hS, hfr⟩)
    · exact absurd c_94 c_60
