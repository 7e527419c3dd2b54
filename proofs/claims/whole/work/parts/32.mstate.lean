theorem va_up_twice {α : Type} (f : Nat → α) (k : Nat) (x y : α) : va_up (va_up f k x) k y = va_up f k y := by
  funext q
  by_cases h : q = k
  · subst h; rw [va_up_self, va_up_self]
  · rw [va_up_ne _ _ h, va_up_ne _ _ h, va_up_ne _ _ h]
theorem su_came {S : Nat → Nat → Int32} {i : Nat} {c : Nat → Int32} {v : Int32} : va_up (su S i c) 5 (upd (su S i c 5) i v) = su S i (va_up (va_up c 8 1) 9 v) := by
  funext q
  match q with
  | 0 => rfl
  | 1 => rfl
  | 2 => rfl
  | 3 => rfl
  | 4 => rfl
  | 5 => exact fa_upd_twice _ _ _ _
  | 6 => rfl
  | 7 => rfl
  | q + 8 => rw [va_up_ne _ _ (by omega)]; rfl
set_option maxHeartbeats 4000000 in
set_option maxRecDepth 100000 in
theorem m_X4_isIn (l : Launch) {D : va_G} {cI cJ cB : ClassId} {t0 z : Nat} {tx ad : Nat → Nat} {L : List Nat} {E : Nat → va_E} {sb a : Nat} (ha : ad sb = a) (h60 : 60 ≤ sb) (hSm : ∀ k, sb ≤ k → k < sb + 11 → k ∈ L) {T : Nat} (hTb : T < 2 ^ 31) {S : Nat → Nat → Int32} {u : Nat} (hu6 : u < 6) (hS : st_at cI ad E sb T S) : Met l yX4_isIn wsX4_isIn ({ frames := 0, cells := 0, slots := 0, locals := 0 } : Room) (va_Pc [.ref a, .int (nI u)] (fPre D cI cJ cB t0 z tx ad L E)) (va_Qi (fun (r : Int32) (E1 : Nat → va_E) => r = (if ¬ S 5 u = -1 then 1 else 0) ∧ E1 = E) (fB D z ad L) (fA z)) 0 0 (fA z) := by
  refine f_ofW (cc := cX4_isIn) (maxL := 2) (ret := some .boolean) (by decide) rfl (Nat.le_of_ble_eq_true rfl) ?_
  intro pr e s m args below meth c Q hx hb hr hml hts hown hlocks hin hG H locs hI hQ ls hl
  have hl : lv_has ls 2 [(0, .ref a), (1, .int (nI u))] := hl
  have hclu : (nI u).toNatClampNeg = u := nI_clamp (by omega)
  refine lv_aload_n hx hb dX4_isIn_0 rfl (lv_at hl 0 rfl) ?_
  refine f_get (ci := 4) (v := .ref (ad (sb + 1 + 5))) (C := RX4) (T := TX4) (N := 12) hx hb hts (by decide +kernel) hown hG.1 hI ha (hSm _ (by omega) (by omega)) (hS.1) rfl 6 (by decide) (hts (.fieldLink RX4 31 "CoracleRaceModel$State" "came" "[I") (by decide +kernel)) rfl dX4_isIn_1 ?_
  refine lv_iload_n hx hb dX4_isIn_4 rfl (lv_at hl 1 rfl) ?_
  refine f_iald hx hb hG.1 hI rfl (hSm _ (by omega) (by omega)) (hS.2 5 (by decide)) (vp_in_nI (by omega) (by omega)) dX4_isIn_5 ?_
  rw [hclu]
  refine lv_iconst (v := -1) hx hb dX4_isIn_6 (by decide) ?_
  refine lv_icmp_eq (tgt := 14) hx hb dX4_isIn_7 (by decide) (fun c_7 => ?_) (fun c_7 => ?_)
  · refine lv_iconst (v := 0) hx hb dX4_isIn_14 (by decide) ?_
    exact f_retz hQ hx hb hr hlocks hI.2.2 (by omega) (by omega) dX4_isIn_15 rfl E (fB_of hI) (⟨by simp [c_7], rfl⟩)
  · refine lv_iconst (v := 1) hx hb dX4_isIn_10 (by decide) ?_
    refine lv_goto (tgt := 15) hx hb dX4_isIn_11 (by decide) ?_
    exact f_retz hQ hx hb hr hlocks hI.2.2 (by omega) (by omega) dX4_isIn_15 rfl E (fB_of hI) (⟨by simp [c_7], rfl⟩)

set_option maxHeartbeats 4000000 in
set_option maxRecDepth 100000 in
theorem m_X4_time (l : Launch) {D : va_G} {cI cJ cB : ClassId} {t0 z : Nat} {tx ad : Nat → Nat} {L : List Nat} {E : Nat → va_E} {sb a : Nat} (ha : ad sb = a) (h60 : 60 ≤ sb) (hSm : ∀ k, sb ≤ k → k < sb + 11 → k ∈ L) {T : Nat} (hTb : T < 2 ^ 31) {S : Nat → Nat → Int32} {u : Nat} (hu6 : u < 6) (hS : st_at cI ad E sb T S) : Met l yX4_time wsX4_time ({ frames := 1, cells := 0, slots := 0, locals := 21 } : Room) (va_Pc [.ref a, .int (nI u)] (fPre D cI cJ cB t0 z tx ad L E)) (va_Qi (fun (r : Int32) (E1 : Nat → va_E) => r = m_time S u ∧ E1 = E) (fB D z ad L) (fA z)) 0 0 (fA z) := by
  refine f_ofW (cc := cX4_time) (maxL := 2) (ret := some .int) (by decide) rfl (Nat.le_of_ble_eq_true rfl) ?_
  intro pr e s m args below meth c Q hx hb hr hml hts hown hlocks hin hG H locs hI hQ ls hl
  have hl : lv_has ls 2 [(0, .ref a), (1, .int (nI u))] := hl
  have hclu : (nI u).toNatClampNeg = u := nI_clamp (by omega)
  refine lv_aload_n hx hb dX4_time_0 rfl (lv_at hl 0 rfl) ?_
  refine lv_iload_n hx hb dX4_time_1 rfl (lv_at hl 1 rfl) ?_
  refine f_calli1 (va_runV (As := [.int (nI u)]) (rest := []) ⟨hx, hb, hml, hown, hts⟩ (m_X4_isIn l ha h60 hSm hTb hu6 hS) (cwV 1 hts gX4_time_X4_isIn rfl rfl rfl (by decide +kernel) ⟨Nat.le_of_ble_eq_true rfl, Nat.le_of_ble_eq_true rfl⟩) (fPre_ofV hG hI ha (hSm _ (by omega) (by omega)) (hS.1) rfl rfl) rfl rfl hl.1 rfl (lv_room (Nat.le_of_ble_eq_true rfl)) dX4_time_2 ⟨Nat.le_of_ble_eq_true rfl, Nat.le_of_ble_eq_true rfl⟩) hI (fun r1 E2 H locs hp hI => ?_)
  obtain ⟨he, hq⟩ := hp
  rw [hq] at hI
  refine lv_if_eq (tgt := 26) hx hb dX4_time_5 (by decide) (fun c_5 => ?_) (fun c_5 => ?_)
  · have p_5 := bl_f he c_5
    refine lv_iconst (v := -1) hx hb dX4_time_26 (by decide) ?_
    exact f_reti hQ hx hb hr hlocks hI.2.2 (by omega) (by omega) dX4_time_27 E (fB_of hI) (⟨(if_pos (Decidable.not_not.mp p_5)).symm, rfl⟩)
  · have p_5 := bl_t he c_5
    refine lv_aload_n hx hb dX4_time_8 rfl (lv_at hl 0 rfl) ?_
    refine f_get (ci := 4) (v := .ref (ad (sb + 1 + 5))) (C := RX4) (T := TX4) (N := 12) hx hb hts (by decide +kernel) hown hG.1 hI ha (hSm _ (by omega) (by omega)) (hS.1) rfl 6 (by decide) (hts (.fieldLink RX4 31 "CoracleRaceModel$State" "came" "[I") (by decide +kernel)) rfl dX4_time_9 ?_
    refine lv_iload_n hx hb dX4_time_12 rfl (lv_at hl 1 rfl) ?_
    refine f_iald hx hb hG.1 hI rfl (hSm _ (by omega) (by omega)) (hS.2 5 (by decide)) (vp_in_nI (by omega) (by omega)) dX4_time_13 ?_
    rw [hclu]
    refine lv_iconst (v := 1) hx hb dX4_time_14 (by decide) ?_
    refine lv_iadd hx hb dX4_time_15 ?_
    refine lv_aload_n hx hb dX4_time_16 rfl (lv_at hl 0 rfl) ?_
    refine f_get (ci := 4) (v := .ref (ad (sb + 1 + 4))) (C := RX4) (T := TX4) (N := 12) hx hb hts (by decide +kernel) hown hG.1 hI ha (hSm _ (by omega) (by omega)) (hS.1) rfl 5 (by decide) (hts (.fieldLink RX4 28 "CoracleRaceModel$State" "fouls" "[I") (by decide +kernel)) rfl dX4_time_17 ?_
    refine lv_iload_n hx hb dX4_time_20 rfl (lv_at hl 1 rfl) ?_
    refine f_iald hx hb hG.1 hI rfl (hSm _ (by omega) (by omega)) (hS.2 4 (by decide)) (vp_in_nI (by omega) (by omega)) dX4_time_21 ?_
    rw [hclu]
    refine lv_iadd hx hb dX4_time_22 ?_
    refine lv_goto (tgt := 27) hx hb dX4_time_23 (by decide) ?_
    exact f_reti hQ hx hb hr hlocks hI.2.2 (by omega) (by omega) dX4_time_27 E (fB_of hI) (⟨(if_neg p_5).symm, rfl⟩)

set_option maxHeartbeats 4000000 in
set_option maxRecDepth 100000 in
theorem m_X4_stroke (l : Launch) {D : va_G} {cI cJ cB : ClassId} {t0 z : Nat} {tx ad : Nat → Nat} {L : List Nat} {E : Nat → va_E} {sb a : Nat} (ha : ad sb = a) (h60 : 60 ≤ sb) (hSm : ∀ k, sb ≤ k → k < sb + 11 → k ∈ L) {T : Nat} (hTb : T < 2 ^ 31) {S : Nat → Nat → Int32} {u : Nat} (hu6 : u < 6) (hS : st_at cI ad E sb T S) {t len : Nat} (ht : t < len) (hl6 : len ≤ 6) (hln : S 8 u = nI len) : Met l yX4_stroke wsX4_stroke ({ frames := 0, cells := 0, slots := 0, locals := 0 } : Room) (va_Pc [.ref a, .int (nI u), .int (nI t)] (fPre D cI cJ cB t0 z tx ad L E)) (va_Qi (fun (r : Int32) (E1 : Nat → va_E) => r = m_row (S 9 u) (nI len) t ∧ E1 = E) (fB D z ad L) (fA z)) 0 0 (fA z) := by
  refine f_ofW (cc := cX4_stroke) (maxL := 3) (ret := some .int) (by decide) rfl (Nat.le_of_ble_eq_true rfl) ?_
  intro pr e s m args below meth c Q hx hb hr hml hts hown hlocks hin hG H locs hI hQ ls hl
  have hl : lv_has ls 3 [(0, .ref a), (1, .int (nI u)), (2, .int (nI t))] := hl
  have hclu : (nI u).toNatClampNeg = u := nI_clamp (by omega)
  refine lv_aload_n hx hb dX4_stroke_0 rfl (lv_at hl 0 rfl) ?_
  refine f_get (ci := 4) (v := .ref (ad (sb + 1 + 9))) (C := RX4) (T := TX4) (N := 12) hx hb hts (by decide +kernel) hown hG.1 hI ha (hSm _ (by omega) (by omega)) (hS.1) rfl 10 (by decide) (hts (.fieldLink RX4 43 "CoracleRaceModel$State" "strokes" "[I") (by decide +kernel)) rfl dX4_stroke_1 ?_
  refine lv_iload_n hx hb dX4_stroke_4 rfl (lv_at hl 1 rfl) ?_
  refine f_iald hx hb hG.1 hI rfl (hSm _ (by omega) (by omega)) (hS.2 9 (by decide)) (vp_in_nI (by omega) (by omega)) dX4_stroke_5 ?_
  rw [hclu]
  refine va_getsN hx hb hG.2.2.1 hI.2.2 hown (hG.2.1 (.fieldLinkNest RX4 64 RX5 "TENS" "[I" RX5) (by simp [fNest])) (fun _ h9 => h9) dX4_stroke_6 ?_
  refine lv_aload_n hx hb dX4_stroke_9 rfl (lv_at hl 0 rfl) ?_
  refine f_get (ci := 4) (v := .ref (ad (sb + 1 + 8))) (C := RX4) (T := TX4) (N := 12) hx hb hts (by decide +kernel) hown hG.1 hI ha (hSm _ (by omega) (by omega)) (hS.1) rfl 9 (by decide) (hts (.fieldLink RX4 40 "CoracleRaceModel$State" "length" "[I") (by decide +kernel)) rfl dX4_stroke_10 ?_
  refine lv_iload_n hx hb dX4_stroke_13 rfl (lv_at hl 1 rfl) ?_
  refine f_iald hx hb hG.1 hI rfl (hSm _ (by omega) (by omega)) (hS.2 8 (by decide)) (vp_in_nI (by omega) (by omega)) dX4_stroke_14 ?_
  refine lv_topi (fun tv etv => ?_)
  have etv : tv = (nI len) := etv.trans (by rw [hclu]; exact hln)
  subst etv
  refine lv_iconst (v := 1) hx hb dX4_stroke_15 (by decide) ?_
  refine lv_isub hx hb dX4_stroke_16 ?_
  refine lv_iload_n hx hb dX4_stroke_17 rfl (lv_at hl 2 rfl) ?_
  refine lv_isub hx hb dX4_stroke_18 ?_
  refine f_ten hx hb hG hI.2.2 (ten_ix ht hl6) dX4_stroke_19 ?_
  refine lv_idiv hx hb dX4_stroke_20 (fTen_ne _) ?_
  refine lv_bipush (v := 10) hx hb dX4_stroke_21 (by decide) ?_
  refine lv_irem hx hb dX4_stroke_23 (by decide) ?_
  exact f_reti hQ hx hb hr hlocks hI.2.2 (by omega) (by omega) dX4_stroke_24 E (fB_of hI) (⟨rfl, rfl⟩)

set_option maxHeartbeats 4000000 in
set_option maxRecDepth 100000 in
theorem m_X4_soak (l : Launch) {D : va_G} {cI cJ cB : ClassId} {t0 z : Nat} {tx ad : Nat → Nat} {L : List Nat} {E : Nat → va_E} {sb a : Nat} (ha : ad sb = a) (h60 : 60 ≤ sb) (hSm : ∀ k, sb ≤ k → k < sb + 11 → k ∈ L) {T : Nat} (hTb : T < 2 ^ 31) {S : Nat → Nat → Int32} {u : Nat} (hu6 : u < 6) {bf : Nat → Int32} (hS : st_at cI ad E sb T (su S u bf)) (x : Int32) : Met l yX4_soak wsX4_soak ({ frames := 1, cells := 0, slots := 0, locals := 15 } : Room) (va_Pc [.ref a, .int (nI u), .int x] (fPre D cI cJ cB t0 z tx ad L E)) (va_Qv (fun (E1 : Nat → va_E) => st_at cI ad E1 sb T (su S u (p_soak bf x)) ∧ ∀ q : Nat, (q < sb ∨ sb + 11 ≤ q) → E1 q = E q) (fB D z ad L) (fA z)) 0 0 (fA z) := by
  refine f_ofW (cc := cX4_soak) (maxL := 3) (ret := none) (by decide) rfl (Nat.le_of_ble_eq_true rfl) ?_
  intro pr e s m args below meth c Q hx hb hr hml hts hown hlocks hin hG H locs hI hQ ls hl
  have hl : lv_has ls 3 [(0, .ref a), (1, .int (nI u)), (2, .int x)] := hl
  have hfr : ∀ q : Nat, (q < sb ∨ sb + 11 ≤ q) → E q = E q := fun _ _ => rfl
  have hclu : (nI u).toNatClampNeg = u := nI_clamp (by omega)
  refine lv_aload_n hx hb dX4_soak_0 rfl (lv_at hl 0 rfl) ?_
  refine f_get (ci := 4) (v := .ref (ad (sb + 1 + 3))) (C := RX4) (T := TX4) (N := 12) hx hb hts (by decide +kernel) hown hG.1 hI ha (hSm _ (by omega) (by omega)) (hS.1) rfl 4 (by decide) (hts (.fieldLink RX4 25 "CoracleRaceModel$State" "soaked" "[I") (by decide +kernel)) rfl dX4_soak_1 ?_
  refine lv_iload_n hx hb dX4_soak_4 rfl (lv_at hl 1 rfl) ?_
  refine lv_bipush (v := 30) hx hb dX4_soak_5 (by decide) ?_
  refine lv_aload_n hx hb dX4_soak_7 rfl (lv_at hl 0 rfl) ?_
  refine f_get (ci := 4) (v := .ref (ad (sb + 1 + 3))) (C := RX4) (T := TX4) (N := 12) hx hb hts (by decide +kernel) hown hG.1 hI ha (hSm _ (by omega) (by omega)) (hS.1) rfl 4 (by decide) (hts (.fieldLink RX4 25 "CoracleRaceModel$State" "soaked" "[I") (by decide +kernel)) rfl dX4_soak_8 ?_
  refine lv_iload_n hx hb dX4_soak_11 rfl (lv_at hl 1 rfl) ?_
  refine f_iald hx hb hG.1 hI rfl (hSm _ (by omega) (by omega)) (hS.2 3 (by decide)) (vp_in_nI (by omega) (by omega)) dX4_soak_12 ?_
  refine lv_topi (fun tv etv => ?_)
  have etv : tv = (bf 6) := etv.trans (by rw [hclu]; exact pk_us)
  subst etv
  refine lv_iload_n hx hb dX4_soak_13 rfl (lv_at hl 2 rfl) ?_
  refine lv_iadd hx hb dX4_soak_14 ?_
  refine va_mmin hx hb (hml.trans hl.1.symm) hown (hts (.methodLink RX4 67 Lib.Math.min.name) (by decide +kernel)) (hts (.static Lib.Math.min.name) (by decide +kernel)) (hts (.initialized "java/lang/Math") (by decide +kernel)) (hts (.code Lib.Math.min.name Lib.Math.min.code 2 (some .int)) (by decide +kernel)) (Nat.le_of_ble_eq_true rfl) (Nat.le_of_ble_eq_true rfl) (Nat.zero_le _) (Nat.zero_le _) dX4_soak_15 ?_
  refine lv_topi (fun tv etv => ?_)
  have etv : tv = (p_min (bf 6 + x) 30) := etv.trans (min_comm _ _)
  subst etv
  refine f_iast hx hb hG.1 hI rfl (hSm _ (by omega) (by omega)) (hS.2 3 (by decide)) (vp_in_nI (by omega) (by omega)) dX4_soak_18 (fun E1 H locs hE2 hn3 hI => ?_)
  rw [hclu] at hE2
  have hS := hS.row (j := 3) (by decide) hE2 (fun q hq => hn3 q hq)
  have hS : st_at cI ad E1 sb T (su S u (va_up bf 6 (p_min (bf 6 + x) 30))) := by rw [su_put _ _ _ _ (by decide)] at hS; exact hS
  have hfr : ∀ q : Nat, (q < sb ∨ sb + 11 ≤ q) → E1 q = E q := fun q hq => (hn3 q (by omega)).trans (hfr q hq)
  exact f_retv hQ hx hb hr hlocks hI.2.2 (by omega) (by omega) dX4_soak_19 E1 (fB_of hI) (⟨hS, hfr⟩)

set_option maxHeartbeats 4000000 in
set_option maxRecDepth 100000 in
theorem m_X4_stopsAt (l : Launch) {D : va_G} {cI cJ cB : ClassId} {t0 z : Nat} {tx ad : Nat → Nat} {L : List Nat} {E : Nat → va_E} {sb a : Nat} (ha : ad sb = a) (h60 : 60 ≤ sb) (hSm : ∀ k, sb ≤ k → k < sb + 11 → k ∈ L) {T : Nat} (hTb : T < 2 ^ 31) {S : Nat → Nat → Int32} {u : Nat} (hu6 : u < 6) {bf : Nat → Int32} (hS : st_at cI ad E sb T (su S u bf)) (hMm : ∀ k, 50 ≤ k → k < 55 → k ∈ L) {th : Int32} {w p g : Nat → Int32} {nw n : Nat} {str : Nat → Int32} (hM : m_at cI ad E th w p g nw n str) (hnw : nw ≤ 6) (hn6 : n ≤ 6) (to : Int32) : Met l yX4_stopsAt wsX4_stopsAt ({ frames := 0, cells := 0, slots := 0, locals := 0 } : Room) (va_Pc [.ref a, .int (nI u), .int to] (fPre D cI cJ cB t0 z tx ad L E)) (va_Qi (fun (r : Int32) (E1 : Nat → va_E) => r = p_stop p g (bf 3) to (bf 4) nw ∧ E1 = E) (fB D z ad L) (fA z)) 0 0 (fA z) := by
  refine f_ofW (cc := cX4_stopsAt) (maxL := 5) (ret := some .int) (by decide) rfl (Nat.le_of_ble_eq_true rfl) ?_
  intro pr e s m args below meth c Q hx hb hr hml hts hown hlocks hin hG H locs hI hQ ls hl
  have hl : lv_has ls 5 [(0, .ref a), (1, .int (nI u)), (2, .int to)] := hl
  have hclu : (nI u).toNatClampNeg = u := nI_clamp (by omega)
  refine lv_iconst (v := -1) hx hb dX4_stopsAt_0 (by decide) ?_
  refine lv_istore_n (lv' := [(3, .int (-1)), (0, .ref a), (1, .int (nI u)), (2, .int to)]) hx hb dX4_stopsAt_1 rfl hl (by decide) rfl (fun ls hl => ?_)
  refine lv_iconst (v := 0) hx hb dX4_stopsAt_2 (by decide) ?_
  refine lv_istore (lv' := [(4, .int 0), (3, .int (-1)), (0, .ref a), (1, .int (nI u)), (2, .int to)]) hx hb dX4_stopsAt_3 hl (by decide) rfl (fun ls hl => ?_)
  have K : ∀ (k i : Nat), i ≤ nw → nw + 1 ≤ i + k → ∀ (H : Heap) (locs : List Loc) (ls : Array Slot), fI D (fA z) s.heap ad L E H locs → lv_has ls 5 [(0, .ref a), (1, .int (nI u)), (2, .int to), (3, .int (p_stop p g (bf 3) to (bf 4) i)), (4, .int (nI i))] → W pr l e ({ frames := 0, cells := 0, slots := 0, locals := 0 } : Room) s m args below meth c H locs 0 0 Q (F0 m 5 ls []) := by
    intro k
    induction k with
    | zero => intro i h1 h2; exact absurd h2 (by omega)
    | succ k ih =>
      intro i hi1 hi2 H locs ls hI hl
      refine lv_iload hx hb dX4_stopsAt_5 (lv_at hl 4 rfl) ?_
      refine lv_aload_n hx hb dX4_stopsAt_7 rfl (lv_at hl 0 rfl) ?_
      refine f_get (ci := 4) (v := .ref (ad 50)) (C := RX4) (T := TX4) (N := 12) hx hb hts (by decide +kernel) hown hG.1 hI ha (hSm _ (by omega) (by omega)) (hS.1) rfl 11 (by decide) (hts (.fieldLink RX4 3 "CoracleRaceModel$State" "this$0" "LCoracleRaceModel;") (by decide +kernel)) rfl dX4_stopsAt_8 ?_
      refine f_getN (ci := 5) (v := .int (nI nw)) (C := RX5) (T := TX5) (N := 9) hx hb hts (by decide +kernel) hown hG.1 hI rfl (hMm _ (by omega) (by omega)) (hM.1) rfl 2 (by decide) (hG.2.1 (.fieldLinkNest RX4 86 RX5 "weirs" "I" RX5) (by simp [fNest])) rfl dX4_stopsAt_11 ?_
      refine lv_icmp_ge (tgt := 105) hx hb dX4_stopsAt_14 (by decide) (fun c_14 => ?_) (fun c_14 => ?_)
      · have n_14 := i_nlt.mpr c_14
        have hi : i = nw := by have := (nI_leI (by omega) (by omega)).mp c_14; omega
        refine lv_iload_n hx hb dX4_stopsAt_105 rfl (lv_at hl 3 rfl) ?_
        exact f_reti hQ hx hb hr hlocks hI.2.2 (by omega) (by omega) dX4_stopsAt_106 E (fB_of hI) (⟨by rw [hi], rfl⟩)
      · have n_14 := c_14
        have c_14 := i_nle.mp n_14
        have hi : i < nw := (nI_ltI (by omega) (by omega)).mp c_14
        have hcl : (nI i).toNatClampNeg = i := nI_clamp (by omega)
        refine lv_aload_n hx hb dX4_stopsAt_17 rfl (lv_at hl 0 rfl) ?_
        refine f_get (ci := 4) (v := .ref (ad 50)) (C := RX4) (T := TX4) (N := 12) hx hb hts (by decide +kernel) hown hG.1 hI ha (hSm _ (by omega) (by omega)) (hS.1) rfl 11 (by decide) (hts (.fieldLink RX4 3 "CoracleRaceModel$State" "this$0" "LCoracleRaceModel;") (by decide +kernel)) rfl dX4_stopsAt_18 ?_
        refine f_getN (ci := 5) (v := .ref (ad 52)) (C := RX5) (T := TX5) (N := 9) hx hb hts (by decide +kernel) hown hG.1 hI rfl (hMm _ (by omega) (by omega)) (hM.1) rfl 3 (by decide) (hG.2.1 (.fieldLinkNest RX4 89 RX5 "weirAt" "[I" RX5) (by simp [fNest])) rfl dX4_stopsAt_21 ?_
        refine lv_iload hx hb dX4_stopsAt_24 (lv_at hl 4 rfl) ?_
        refine f_iald hx hb hG.1 hI rfl (hMm _ (by omega) (by omega)) (hM.2.2.1) (vp_in_nI (by omega) (by omega)) dX4_stopsAt_26 ?_
        rw [hcl]
        refine lv_aload_n hx hb dX4_stopsAt_27 rfl (lv_at hl 0 rfl) ?_
        refine f_get (ci := 4) (v := .ref (ad (sb + 1 + 0))) (C := RX4) (T := TX4) (N := 12) hx hb hts (by decide +kernel) hown hG.1 hI ha (hSm _ (by omega) (by omega)) (hS.1) rfl 1 (by decide) (hts (.fieldLink RX4 15 "CoracleRaceModel$State" "place" "[I") (by decide +kernel)) rfl dX4_stopsAt_28 ?_
        refine lv_iload_n hx hb dX4_stopsAt_31 rfl (lv_at hl 1 rfl) ?_
        refine f_iald hx hb hG.1 hI rfl (hSm _ (by omega) (by omega)) (hS.2 0 (by decide)) (vp_in_nI (by omega) (by omega)) dX4_stopsAt_32 ?_
        refine lv_topi (fun tv etv => ?_)
        have etv : tv = (bf 3) := etv.trans (by rw [hclu]; exact pk_us)
        subst etv
        refine lv_icmp_le (tgt := 99) hx hb dX4_stopsAt_33 (by decide) (fun c_33 => ?_) (fun c_33 => ?_)
        · have n_33 := i_nlt.mpr c_33
          refine lv_iinc (v := (nI (i + 1))) (lv' := [(4, .int (nI (i + 1))), (0, .ref a), (1, .int (nI u)), (2, .int to), (3, .int (p_stop p g (bf 3) to (bf 4) i))]) hx hb dX4_stopsAt_99 hl (k := 4) rfl (nI_1 i) (by decide) rfl (fun ls hl => ?_)
          refine lv_goto (tgt := 5) hx hb dX4_stopsAt_102 (by decide) ?_
          refine ih (i + 1) (by omega) (by omega) H locs ls hI ?_
          rw [show p_stop p g (bf 3) to (bf 4) (i + 1) = (p_stop p g (bf 3) to (bf 4) i) by first | rfl | (rw [p_stop]; simp [c_14, n_14, c_33, n_33]; done)]
          exact lv_sub hl [1, 2, 3, 4, 0] rfl
        · have n_33 := c_33
          have c_33 := i_nle.mp n_33
          refine lv_aload_n hx hb dX4_stopsAt_36 rfl (lv_at hl 0 rfl) ?_
          refine f_get (ci := 4) (v := .ref (ad 50)) (C := RX4) (T := TX4) (N := 12) hx hb hts (by decide +kernel) hown hG.1 hI ha (hSm _ (by omega) (by omega)) (hS.1) rfl 11 (by decide) (hts (.fieldLink RX4 3 "CoracleRaceModel$State" "this$0" "LCoracleRaceModel;") (by decide +kernel)) rfl dX4_stopsAt_37 ?_
          refine f_getN (ci := 5) (v := .ref (ad 52)) (C := RX5) (T := TX5) (N := 9) hx hb hts (by decide +kernel) hown hG.1 hI rfl (hMm _ (by omega) (by omega)) (hM.1) rfl 3 (by decide) (hG.2.1 (.fieldLinkNest RX4 89 RX5 "weirAt" "[I" RX5) (by simp [fNest])) rfl dX4_stopsAt_40 ?_
          refine lv_iload hx hb dX4_stopsAt_43 (lv_at hl 4 rfl) ?_
          refine f_iald hx hb hG.1 hI rfl (hMm _ (by omega) (by omega)) (hM.2.2.1) (vp_in_nI (by omega) (by omega)) dX4_stopsAt_45 ?_
          rw [hcl]
          refine lv_iload_n hx hb dX4_stopsAt_46 rfl (lv_at hl 2 rfl) ?_
          refine lv_icmp_gt (tgt := 99) hx hb dX4_stopsAt_47 (by decide) (fun c_47 => ?_) (fun c_47 => ?_)
          · have n_47 := i_nle.mpr c_47
            refine lv_iinc (v := (nI (i + 1))) (lv' := [(4, .int (nI (i + 1))), (0, .ref a), (1, .int (nI u)), (2, .int to), (3, .int (p_stop p g (bf 3) to (bf 4) i))]) hx hb dX4_stopsAt_99 hl (k := 4) rfl (nI_1 i) (by decide) rfl (fun ls hl => ?_)
            refine lv_goto (tgt := 5) hx hb dX4_stopsAt_102 (by decide) ?_
            refine ih (i + 1) (by omega) (by omega) H locs ls hI ?_
            rw [show p_stop p g (bf 3) to (bf 4) (i + 1) = (p_stop p g (bf 3) to (bf 4) i) by first | rfl | (rw [p_stop]; simp [c_14, n_14, c_33, n_33, c_47, n_47]; done)]
            exact lv_sub hl [1, 2, 3, 4, 0] rfl
          · have n_47 := c_47
            have c_47 := i_nlt.mp n_47
            refine lv_aload_n hx hb dX4_stopsAt_50 rfl (lv_at hl 0 rfl) ?_
            refine f_get (ci := 4) (v := .ref (ad 50)) (C := RX4) (T := TX4) (N := 12) hx hb hts (by decide +kernel) hown hG.1 hI ha (hSm _ (by omega) (by omega)) (hS.1) rfl 11 (by decide) (hts (.fieldLink RX4 3 "CoracleRaceModel$State" "this$0" "LCoracleRaceModel;") (by decide +kernel)) rfl dX4_stopsAt_51 ?_
            refine f_getN (ci := 5) (v := .ref (ad 53)) (C := RX5) (T := TX5) (N := 9) hx hb hts (by decide +kernel) hown hG.1 hI rfl (hMm _ (by omega) (by omega)) (hM.1) rfl 4 (by decide) (hG.2.1 (.fieldLinkNest RX4 92 RX5 "gap" "[I" RX5) (by simp [fNest])) rfl dX4_stopsAt_54 ?_
            refine lv_iload hx hb dX4_stopsAt_57 (lv_at hl 4 rfl) ?_
            refine f_iald hx hb hG.1 hI rfl (hMm _ (by omega) (by omega)) (hM.2.2.2.1) (vp_in_nI (by omega) (by omega)) dX4_stopsAt_59 ?_
            rw [hcl]
            refine lv_aload_n hx hb dX4_stopsAt_60 rfl (lv_at hl 0 rfl) ?_
            refine f_get (ci := 4) (v := .ref (ad (sb + 1 + 1))) (C := RX4) (T := TX4) (N := 12) hx hb hts (by decide +kernel) hown hG.1 hI ha (hSm _ (by omega) (by omega)) (hS.1) rfl 2 (by decide) (hts (.fieldLink RX4 19 "CoracleRaceModel$State" "lane" "[I") (by decide +kernel)) rfl dX4_stopsAt_61 ?_
            refine lv_iload_n hx hb dX4_stopsAt_64 rfl (lv_at hl 1 rfl) ?_
            refine f_iald hx hb hG.1 hI rfl (hSm _ (by omega) (by omega)) (hS.2 1 (by decide)) (vp_in_nI (by omega) (by omega)) dX4_stopsAt_65 ?_
            refine lv_topi (fun tv etv => ?_)
            have etv : tv = (bf 4) := etv.trans (by rw [hclu]; exact pk_us)
            subst etv
            refine lv_icmp_eq (tgt := 99) hx hb dX4_stopsAt_66 (by decide) (fun c_66 => ?_) (fun c_66 => ?_)
            · refine lv_iinc (v := (nI (i + 1))) (lv' := [(4, .int (nI (i + 1))), (0, .ref a), (1, .int (nI u)), (2, .int to), (3, .int (p_stop p g (bf 3) to (bf 4) i))]) hx hb dX4_stopsAt_99 hl (k := 4) rfl (nI_1 i) (by decide) rfl (fun ls hl => ?_)
              refine lv_goto (tgt := 5) hx hb dX4_stopsAt_102 (by decide) ?_
              refine ih (i + 1) (by omega) (by omega) H locs ls hI ?_
              rw [show p_stop p g (bf 3) to (bf 4) (i + 1) = (p_stop p g (bf 3) to (bf 4) i) by first | rfl | (rw [p_stop]; simp [c_14, n_14, c_33, n_33, c_47, n_47, c_66]; done)]
              exact lv_sub hl [1, 2, 3, 4, 0] rfl
            · refine lv_iload_n hx hb dX4_stopsAt_69 rfl (lv_at hl 3 rfl) ?_
              refine lv_iconst (v := -1) hx hb dX4_stopsAt_70 (by decide) ?_
              refine lv_icmp_eq (tgt := 88) hx hb dX4_stopsAt_71 (by decide) (fun c_71 => ?_) (fun c_71 => ?_)
              · refine lv_aload_n hx hb dX4_stopsAt_88 rfl (lv_at hl 0 rfl) ?_
                refine f_get (ci := 4) (v := .ref (ad 50)) (C := RX4) (T := TX4) (N := 12) hx hb hts (by decide +kernel) hown hG.1 hI ha (hSm _ (by omega) (by omega)) (hS.1) rfl 11 (by decide) (hts (.fieldLink RX4 3 "CoracleRaceModel$State" "this$0" "LCoracleRaceModel;") (by decide +kernel)) rfl dX4_stopsAt_89 ?_
                refine f_getN (ci := 5) (v := .ref (ad 52)) (C := RX5) (T := TX5) (N := 9) hx hb hts (by decide +kernel) hown hG.1 hI rfl (hMm _ (by omega) (by omega)) (hM.1) rfl 3 (by decide) (hG.2.1 (.fieldLinkNest RX4 89 RX5 "weirAt" "[I" RX5) (by simp [fNest])) rfl dX4_stopsAt_92 ?_
                refine lv_iload hx hb dX4_stopsAt_95 (lv_at hl 4 rfl) ?_
                refine f_iald hx hb hG.1 hI rfl (hMm _ (by omega) (by omega)) (hM.2.2.1) (vp_in_nI (by omega) (by omega)) dX4_stopsAt_97 ?_
                rw [hcl]
                refine lv_istore_n (lv' := [(3, .int (p i)), (0, .ref a), (1, .int (nI u)), (2, .int to), (4, .int (nI i))]) hx hb dX4_stopsAt_98 rfl hl (by decide) rfl (fun ls hl => ?_)
                refine lv_iinc (v := (nI (i + 1))) (lv' := [(4, .int (nI (i + 1))), (3, .int (p i)), (0, .ref a), (1, .int (nI u)), (2, .int to)]) hx hb dX4_stopsAt_99 hl (k := 4) rfl (nI_1 i) (by decide) rfl (fun ls hl => ?_)
                refine lv_goto (tgt := 5) hx hb dX4_stopsAt_102 (by decide) ?_
                refine ih (i + 1) (by omega) (by omega) H locs ls hI ?_
                rw [show p_stop p g (bf 3) to (bf 4) (i + 1) = (p i) by first | rfl | (rw [p_stop]; simp [c_14, n_14, c_33, n_33, c_47, n_47, c_66, c_71]; done)]
                exact lv_sub hl [2, 3, 4, 1, 0] rfl
              · refine lv_aload_n hx hb dX4_stopsAt_74 rfl (lv_at hl 0 rfl) ?_
                refine f_get (ci := 4) (v := .ref (ad 50)) (C := RX4) (T := TX4) (N := 12) hx hb hts (by decide +kernel) hown hG.1 hI ha (hSm _ (by omega) (by omega)) (hS.1) rfl 11 (by decide) (hts (.fieldLink RX4 3 "CoracleRaceModel$State" "this$0" "LCoracleRaceModel;") (by decide +kernel)) rfl dX4_stopsAt_75 ?_
                refine f_getN (ci := 5) (v := .ref (ad 52)) (C := RX5) (T := TX5) (N := 9) hx hb hts (by decide +kernel) hown hG.1 hI rfl (hMm _ (by omega) (by omega)) (hM.1) rfl 3 (by decide) (hG.2.1 (.fieldLinkNest RX4 89 RX5 "weirAt" "[I" RX5) (by simp [fNest])) rfl dX4_stopsAt_78 ?_
                refine lv_iload hx hb dX4_stopsAt_81 (lv_at hl 4 rfl) ?_
                refine f_iald hx hb hG.1 hI rfl (hMm _ (by omega) (by omega)) (hM.2.2.1) (vp_in_nI (by omega) (by omega)) dX4_stopsAt_83 ?_
                rw [hcl]
                refine lv_iload_n hx hb dX4_stopsAt_84 rfl (lv_at hl 3 rfl) ?_
                refine lv_icmp_ge (tgt := 99) hx hb dX4_stopsAt_85 (by decide) (fun c_85 => ?_) (fun c_85 => ?_)
                · have n_85 := i_nlt.mpr c_85
                  refine lv_iinc (v := (nI (i + 1))) (lv' := [(4, .int (nI (i + 1))), (0, .ref a), (1, .int (nI u)), (2, .int to), (3, .int (p_stop p g (bf 3) to (bf 4) i))]) hx hb dX4_stopsAt_99 hl (k := 4) rfl (nI_1 i) (by decide) rfl (fun ls hl => ?_)
                  refine lv_goto (tgt := 5) hx hb dX4_stopsAt_102 (by decide) ?_
                  refine ih (i + 1) (by omega) (by omega) H locs ls hI ?_
                  rw [show p_stop p g (bf 3) to (bf 4) (i + 1) = (p_stop p g (bf 3) to (bf 4) i) by first | rfl | (rw [p_stop]; simp [c_14, n_14, c_33, n_33, c_47, n_47, c_66, c_71, c_85, n_85]; done)]
                  exact lv_sub hl [1, 2, 3, 4, 0] rfl
                · have n_85 := c_85
                  have c_85 := i_nle.mp n_85
                  refine lv_aload_n hx hb dX4_stopsAt_88 rfl (lv_at hl 0 rfl) ?_
                  refine f_get (ci := 4) (v := .ref (ad 50)) (C := RX4) (T := TX4) (N := 12) hx hb hts (by decide +kernel) hown hG.1 hI ha (hSm _ (by omega) (by omega)) (hS.1) rfl 11 (by decide) (hts (.fieldLink RX4 3 "CoracleRaceModel$State" "this$0" "LCoracleRaceModel;") (by decide +kernel)) rfl dX4_stopsAt_89 ?_
                  refine f_getN (ci := 5) (v := .ref (ad 52)) (C := RX5) (T := TX5) (N := 9) hx hb hts (by decide +kernel) hown hG.1 hI rfl (hMm _ (by omega) (by omega)) (hM.1) rfl 3 (by decide) (hG.2.1 (.fieldLinkNest RX4 89 RX5 "weirAt" "[I" RX5) (by simp [fNest])) rfl dX4_stopsAt_92 ?_
                  refine lv_iload hx hb dX4_stopsAt_95 (lv_at hl 4 rfl) ?_
                  refine f_iald hx hb hG.1 hI rfl (hMm _ (by omega) (by omega)) (hM.2.2.1) (vp_in_nI (by omega) (by omega)) dX4_stopsAt_97 ?_
                  rw [hcl]
                  refine lv_istore_n (lv' := [(3, .int (p i)), (0, .ref a), (1, .int (nI u)), (2, .int to), (4, .int (nI i))]) hx hb dX4_stopsAt_98 rfl hl (by decide) rfl (fun ls hl => ?_)
                  refine lv_iinc (v := (nI (i + 1))) (lv' := [(4, .int (nI (i + 1))), (3, .int (p i)), (0, .ref a), (1, .int (nI u)), (2, .int to)]) hx hb dX4_stopsAt_99 hl (k := 4) rfl (nI_1 i) (by decide) rfl (fun ls hl => ?_)
                  refine lv_goto (tgt := 5) hx hb dX4_stopsAt_102 (by decide) ?_
                  refine ih (i + 1) (by omega) (by omega) H locs ls hI ?_
                  rw [show p_stop p g (bf 3) to (bf 4) (i + 1) = (p i) by first | rfl | (rw [p_stop]; simp [c_14, n_14, c_33, n_33, c_47, n_47, c_66, c_71, c_85, n_85]; done)]
                  exact lv_sub hl [2, 3, 4, 1, 0] rfl
  exact K (nw + 1) 0 (Nat.zero_le _) (by omega) H locs ls hI (lv_sub hl [2, 3, 4, 1, 0] rfl)
