set_option maxHeartbeats 4000000 in
set_option maxRecDepth 100000 in
theorem m_X3_placeWith (l : Launch) {D : va_G} {cI cJ cB : ClassId} {t0 z : Nat} {tx ad : Nat → Nat} {L : List Nat} {E : Nat → va_E} {w p g : Nat → Int32} {nw n T : Nat} {Bs Fs : Nat → Nat → Int32} (hX : x_at cI cB ad E w p g nw n T Bs Fs) (hnw : nw ≤ 6) (hn6 : n ≤ 6) (hTb : T < 2 ^ 30) (h8 : ∀ i, i < n → Bs i 8 = 0 ∨ Bs i 8 = 1) (hXm : ∀ k, k < 5 ∨ (10 ≤ k ∧ k < 24) ∨ (30 ≤ k ∧ k < 44) → k ∈ L) {i : Nat} (hi : i < n) (d : Int32) {m9 : Nat} (hm9 : m9 ≤ 60) : Met l yX3_placeWith wsX3_placeWith ({ frames := 4, cells := 0, slots := 0, locals := 82 } : Room) (va_Pc [.ref (ad 0), .int (nI i), .int d, .int (nI m9)] (fPre D cI cJ cB t0 z tx ad L E)) (va_Qi (fun (r : Int32) (E1 : Nat → va_E) => r = p_far w p g nw T (Fs i) (Bs i) m9 d ∧ x_at cI cB ad E1 w p g nw n T Bs Fs ∧ ∀ q : Nat, 44 ≤ q → E1 q = E q) (fB D z ad L) (fA z)) 0 0 (fA z) := by
  refine f_ofW (cc := cX3_placeWith) (maxL := 6) (ret := some .int) (by decide) rfl (Nat.le_of_ble_eq_true rfl) ?_
  intro pr e s m args below meth c Q hx hb hr hml hts hown hlocks hin hG H locs hI hQ ls hl
  have hl : lv_has ls 6 [(0, .ref (ad 0)), (1, .int (nI i)), (2, .int d), (3, .int (nI m9))] := hl
  obtain ⟨hX0, ⟨hR, hRw, hRp, hRg⟩, hF10, nt, Tt, Bt, Ft, hnt, hF30⟩ := id hX
  have hr1 : 1 ∈ L := hXm _ (by omega)
  have hr2 : 2 ∈ L := hXm _ (by omega)
  have hr3 : 3 ∈ L := hXm _ (by omega)
  have hr4 : 4 ∈ L := hXm _ (by omega)
  obtain ⟨hFo10, hFr10, -⟩ := id hF10
  obtain ⟨hFo30, hFr30, -⟩ := id hF30
  have hcl : (nI i).toNatClampNeg = i := nI_clamp (by omega)
  obtain ⟨hCF, hSF⟩ := hF10.2.2 i (by omega)
  obtain ⟨hCTr, hSTr⟩ := hF30.2.2 i (by omega)
  have hR0 : E 1 = rE ad nw := hR
  have hRw0 := hRw
  have hRp0 := hRp
  have hRg0 := hRg
  have hX00 := hX0
  have hFo100 := hFo10
  have hX0 : E 0 = .inr (3, [.ref (ad 1), .ref (ad 10), .ref (ad 30)]) := hX0
  have hR : E 1 = .inr (2, [.ref (ad 2), .ref (ad 3), .ref (ad 4), .int (nI nw)]) := hR
  have hRw : E 2 = .inl (cI, 5, .inl w) := hRw
  have hRp : E 3 = .inl (cI, 6, .inl p) := hRp
  have hRg : E 4 = .inl (cI, 6, .inl g) := hRg
  have hFo10 : E 10 = .inr (1, [.ref (ad (10 + 1)), .int (nI n), .int (nI T)]) := hFo10
  have hFr10 : E (10 + 1) = .inl (cB, 6, .inr (.inr (.inr (.inr (fl_row ad 10))))) := hFr10
  have hFo30 : E 30 = .inr (1, [.ref (ad (30 + 1)), .int (nI nt), .int (nI Tt)]) := hFo30
  have hFr30 : E (30 + 1) = .inl (cB, 6, .inr (.inr (.inr (.inr (fl_row ad 30))))) := hFr30
  have hCF : E (10 + 2 + 2 * i) = .inr (0, [.ref (ad ((10 + 2 + 2 * i) + 1)), .int (Bs i 1), .int (Bs i 2), .int (Bs i 3), .int (Bs i 4), .int (Bs i 5), .int (Bs i 6), .int (Bs i 7), .int (Bs i 8), .int (Bs i 9), .int (Bs i 10), .int (Bs i 11)]) := hCF
  have hSF : E ((10 + 2 + 2 * i) + 1) = .inl (cI, 6, .inl (Fs i)) := hSF
  have hCTr : E (30 + 2 + 2 * i) = .inr (0, [.ref (ad ((30 + 2 + 2 * i) + 1)), .int (Bt i 1), .int (Bt i 2), .int (Bt i 3), .int (Bt i 4), .int (Bt i 5), .int (Bt i 6), .int (Bt i 7), .int (Bt i 8), .int (Bt i 9), .int (Bt i 10), .int (Bt i 11)]) := hCTr
  have hSTr : E ((30 + 2 + 2 * i) + 1) = .inl (cI, 6, .inl (Ft i)) := hSTr
  refine lv_aload_n hx hb dX3_placeWith_0 rfl (lv_at hl 0 rfl) ?_
  refine f_get (ci := 3) (v := .ref (ad 30)) (C := RX3) (T := TX3) (N := 3) hx hb hts (by decide +kernel) hown hG.1 hI rfl (hXm _ (by omega)) hX0 rfl 2 (by decide) (hts (.fieldLink RX3 23 "CoracleRace" "trial" "LCoracleRace$Fleet;") (by decide +kernel)) rfl dX3_placeWith_1 ?_
  refine f_get (ci := 1) (v := .ref (ad (30 + 1))) (C := RX1) (T := TX1) (N := 3) hx hb hts (by decide +kernel) hown hG.1 hI rfl (hXm _ (by omega)) hFo30 rfl 0 (by decide) (hts (.fieldLink RX3 96 "CoracleRace$Fleet" "boats" "[LCoracleRace$Boat;") (by decide +kernel)) rfl dX3_placeWith_4 ?_
  refine lv_iload_n hx hb dX3_placeWith_7 rfl (lv_at hl 1 rfl) ?_
  refine f_aldq hx hb hG.1 hI rfl (hXm _ (by omega)) hFr30 (vp_in_nI (by omega) (by omega)) (v := .ref (ad (30 + 2 + 2 * i))) (by rw [hcl]; exact fl_row_at (by omega)) dX3_placeWith_8 ?_
  refine lv_astore (lv' := [(4, .ref (ad (30 + 2 + 2 * i))), (0, .ref (ad 0)), (1, .int (nI i)), (2, .int d), (3, .int (nI m9))]) hx hb dX3_placeWith_9 hl (by decide) rfl (fun ls hl => ?_)
  refine lv_aload hx hb dX3_placeWith_11 (lv_at hl 0 rfl) ?_
  refine lv_aload_n hx hb dX3_placeWith_13 rfl (lv_at hl 1 rfl) ?_
  refine f_get (ci := 3) (v := .ref (ad 10)) (C := RX3) (T := TX3) (N := 3) hx hb hts (by decide +kernel) hown hG.1 hI rfl (hXm _ (by omega)) hX0 rfl 1 (by decide) (hts (.fieldLink RX3 19 "CoracleRace" "fleet" "LCoracleRace$Fleet;") (by decide +kernel)) rfl dX3_placeWith_14 ?_
  refine f_get (ci := 1) (v := .ref (ad (10 + 1))) (C := RX1) (T := TX1) (N := 3) hx hb hts (by decide +kernel) hown hG.1 hI rfl (hXm _ (by omega)) hFo10 rfl 0 (by decide) (hts (.fieldLink RX3 96 "CoracleRace$Fleet" "boats" "[LCoracleRace$Boat;") (by decide +kernel)) rfl dX3_placeWith_17 ?_
  refine lv_iload_n hx hb dX3_placeWith_20 rfl (lv_at hl 2 rfl) ?_
  refine f_aldq hx hb hG.1 hI rfl (hXm _ (by omega)) hFr10 (vp_in_nI (by omega) (by omega)) (v := .ref (ad (10 + 2 + 2 * i))) (by rw [hcl]; exact fl_row_at (by omega)) dX3_placeWith_21 ?_
  refine f_callv1 (va_runV (As := [.ref (ad (10 + 2 + 2 * i))]) (rest := []) ⟨hx, hb, hml, hown, hts⟩ (m_X0_copyFrom l rfl (hXm _ (by omega)) (b := Bt i) hCTr (hXm _ (by omega)) hSTr rfl (hXm _ (by omega)) (o := Bs i) hCF (hXm _ (by omega)) hSF (by omega) (h8 i hi)) (cwV 1 hts gX3_placeWith_X0_copyFrom rfl rfl rfl (by decide +kernel) ⟨Nat.le_of_ble_eq_true rfl, Nat.le_of_ble_eq_true rfl⟩) (fPre_ofV hG hI rfl (hXm _ (by omega)) hCTr rfl rfl) rfl rfl hl.1 rfl (lv_room (Nat.le_of_ble_eq_true rfl)) dX3_placeWith_22 ⟨Nat.le_of_ble_eq_true rfl, Nat.le_of_ble_eq_true rfl⟩) hI (fun E1 H locs hp hI => ?_)
  obtain ⟨hC, hS, hn9⟩ := hp
  have hfr : ∀ q : Nat, q ≠ (30 + 2 + 2 * i) ∧ q ≠ (30 + 2 + 2 * i) + 1 → E1 q = E q := hn9
  have hX0 : E1 0 = .inr (3, [.ref (ad 1), .ref (ad 10), .ref (ad 30)]) := (hfr 0 (by omega)).trans hX00
  have hFo10 : E1 10 = .inr (1, [.ref (ad (10 + 1)), .int (nI n), .int (nI T)]) := (hfr 10 (by omega)).trans hFo100
  have hR : E1 1 = rE ad nw := (hfr 1 (by omega)).trans hR0
  have hRw : E1 2 = .inl (cI, 5, .inl w) := (hfr 2 (by omega)).trans hRw0
  have hRp : E1 3 = .inl (cI, 6, .inl p) := (hfr 3 (by omega)).trans hRp0
  have hRg : E1 4 = .inl (cI, 6, .inl g) := (hfr 4 (by omega)).trans hRg0
  refine lv_aload hx hb dX3_placeWith_25 (lv_at hl 0 rfl) ?_
  refine lv_iconst (v := 2) hx hb dX3_placeWith_27 (by decide) ?_
  refine lv_iload_n hx hb dX3_placeWith_28 rfl (lv_at hl 3 rfl) ?_
  refine f_callv1 (va_runV (As := [.int 2, .int d]) (rest := []) ⟨hx, hb, hml, hown, hts⟩ (m_X0_takePattern l rfl (hXm _ (by omega)) (b := Bs i) hC (hXm _ (by omega)) hS (len := 2) (by decide) (by decide) d) (cwV 2 hts gX3_placeWith_X0_takePattern rfl rfl rfl (by decide +kernel) ⟨Nat.le_of_ble_eq_true rfl, Nat.le_of_ble_eq_true rfl⟩) (fPre_ofV hG hI rfl (hXm _ (by omega)) hC rfl rfl) rfl rfl hl.1 rfl (lv_room (Nat.le_of_ble_eq_true rfl)) dX3_placeWith_29 ⟨Nat.le_of_ble_eq_true rfl, Nat.le_of_ble_eq_true rfl⟩) hI (fun E2 H locs hp hI => ?_)
  obtain ⟨hC, hS, hn8⟩ := hp
  have hfr : ∀ q : Nat, q ≠ (30 + 2 + 2 * i) ∧ q ≠ (30 + 2 + 2 * i) + 1 → E2 q = E q := fun q hq => (hn8 q hq).trans (hfr q hq)
  refine lv_iconst (v := 0) hx hb dX3_placeWith_32 (by decide) ?_
  refine lv_istore (lv' := [(5, .int 0), (4, .ref (ad (30 + 2 + 2 * i))), (0, .ref (ad 0)), (1, .int (nI i)), (2, .int d), (3, .int (nI m9))]) hx hb dX3_placeWith_33 hl (by decide) rfl (fun ls hl => ?_)
  have Kih : ∀ (k9 k : Nat), k ≤ m9 → m9 + 1 ≤ k + k9 → ∀ (Ea : Nat → va_E) (H : Heap) (locs : List Loc) (ls : Array Slot), (Ea (30 + 2 + 2 * i) = bE ad (30 + 2 + 2 * i) (p_boat w p g nw T (p_row (Fs i) 2 d) (va_up (Bs i) 1 (nI 2)) k)) → (Ea ((30 + 2 + 2 * i) + 1) = .inl (cI, 6, .inl (p_row (Fs i) 2 d))) → (∀ q : Nat, q ≠ (30 + 2 + 2 * i) ∧ q ≠ (30 + 2 + 2 * i) + 1 → Ea q = E q) → fI D (fA z) s.heap ad L Ea H locs → lv_has ls 6 [(0, .ref (ad 0)), (3, .int (nI m9)), (4, .ref (ad (30 + 2 + 2 * i))), (5, .int (nI k))] → W pr l e ({ frames := 4, cells := 0, slots := 0, locals := 82 } : Room) s m args below meth c H locs 0 0 Q (F0 m 35 ls []) := by
    intro k9
    induction k9 with
    | zero => intro k h1 h2; exact absurd h2 (by omega)
    | succ k9 ih =>
      intro k hi1k hi2k Ea H locs ls hC hS hfr hI hl
      have hX0 : Ea 0 = .inr (3, [.ref (ad 1), .ref (ad 10), .ref (ad 30)]) := (hfr 0 (by omega)).trans hX00
      have hFo10 : Ea 10 = .inr (1, [.ref (ad (10 + 1)), .int (nI n), .int (nI T)]) := (hfr 10 (by omega)).trans hFo100
      have hR : Ea 1 = rE ad nw := (hfr 1 (by omega)).trans hR0
      have hRw : Ea 2 = .inl (cI, 5, .inl w) := (hfr 2 (by omega)).trans hRw0
      have hRp : Ea 3 = .inl (cI, 6, .inl p) := (hfr 3 (by omega)).trans hRp0
      have hRg : Ea 4 = .inl (cI, 6, .inl g) := (hfr 4 (by omega)).trans hRg0
      refine lv_iload hx hb dX3_placeWith_35 (lv_at hl 3 rfl) ?_
      refine lv_iload_n hx hb dX3_placeWith_37 rfl (lv_at hl 1 rfl) ?_
      refine lv_icmp_ge (tgt := 66) hx hb dX3_placeWith_38 (by decide) (fun c_38 => ?_) (fun c_38 => ?_)
      · have n_38 := i_nlt.mpr c_38
        have hk : k = m9 := by have := (nI_leI (by omega) (by omega)).mp c_38; omega
        refine lv_aload hx hb dX3_placeWith_66 (lv_at hl 2 rfl) ?_
        refine f_get (ci := 0) (v := .int ((p_boat w p g nw T (p_row (Fs i) 2 d) (va_up (Bs i) 1 (nI 2)) k) 3)) (C := RX0) (T := TX0) (N := 12) hx hb hts (by decide +kernel) hown hG.1 hI rfl (hXm _ (by omega)) hC rfl 3 (by decide) (hts (.fieldLink RX3 196 "CoracleRace$Boat" "place" "I") (by decide +kernel)) rfl dX3_placeWith_68 ?_
        exact f_reti hQ hx hb hr hlocks hI.2.2 (by omega) (by omega) dX3_placeWith_71 Ea (fB_of hI) (⟨by rw [hk]; rfl, hX.f30 (fun q hq => hfr q (by omega)) hnt (hF30.boat (by omega) hC hS hfr), fun q hq => hfr q (by omega)⟩)
      · have n_38 := c_38
        have c_38 := i_nle.mp n_38
        have hk : k < m9 := (nI_ltI (by omega) (by omega)).mp c_38
        have hcl : (nI k).toNatClampNeg = k := nI_clamp (by omega)
        refine lv_aload hx hb dX3_placeWith_41 (lv_at hl 2 rfl) ?_
        refine lv_aload_n hx hb dX3_placeWith_43 rfl (lv_at hl 0 rfl) ?_
        refine f_get (ci := 3) (v := .ref (ad 1)) (C := RX3) (T := TX3) (N := 3) hx hb hts (by decide +kernel) hown hG.1 hI rfl (hXm _ (by omega)) hX0 rfl 0 (by decide) (hts (.fieldLink RX3 10 "CoracleRace" "river" "LCoracleRace$River;") (by decide +kernel)) rfl dX3_placeWith_44 ?_
        refine lv_aload_n hx hb dX3_placeWith_47 rfl (lv_at hl 0 rfl) ?_
        refine f_get (ci := 3) (v := .ref (ad 10)) (C := RX3) (T := TX3) (N := 3) hx hb hts (by decide +kernel) hown hG.1 hI rfl (hXm _ (by omega)) hX0 rfl 1 (by decide) (hts (.fieldLink RX3 19 "CoracleRace" "fleet" "LCoracleRace$Fleet;") (by decide +kernel)) rfl dX3_placeWith_48 ?_
        refine f_get (ci := 1) (v := .int (nI T)) (C := RX1) (T := TX1) (N := 3) hx hb hts (by decide +kernel) hown hG.1 hI rfl (hXm _ (by omega)) hFo10 rfl 2 (by decide) (hts (.fieldLink RX3 150 "CoracleRace$Fleet" "tick" "I") (by decide +kernel)) rfl dX3_placeWith_51 ?_
        refine lv_iload hx hb dX3_placeWith_54 (lv_at hl 3 rfl) ?_
        refine lv_iadd hx hb dX3_placeWith_56 ?_
        refine lv_topi (fun tv etv => ?_)
        have etv : tv = nI (T + k) := etv.trans (nI_add T k)
        subst etv
        refine f_callv1 (va_runV (As := [.ref (ad 1), .int (nI (T + k))]) (rest := []) ⟨hx, hb, hml, hown, hts⟩ (m_X0_letTickGoBy l rfl (hXm _ (by omega)) (b := (p_boat w p g nw T (p_row (Fs i) 2 d) (va_up (Bs i) 1 (nI 2)) k)) hC (hXm _ (by omega)) hS (by omega) hnw hr1 hr2 hr3 hr4 hR hRw hRp hRg (nI (T + k)) (nI_pos' (by omega))) (cwV 2 hts gX3_placeWith_X0_letTickGoBy rfl rfl rfl (by decide +kernel) ⟨Nat.le_of_ble_eq_true rfl, Nat.le_of_ble_eq_true rfl⟩) (fPre_ofV hG hI rfl (hXm _ (by omega)) hC rfl rfl) rfl rfl hl.1 rfl (lv_room (Nat.le_of_ble_eq_true rfl)) dX3_placeWith_57 ⟨Nat.le_of_ble_eq_true rfl, Nat.le_of_ble_eq_true rfl⟩) hI (fun E3 H locs hp hI => ?_)
        obtain ⟨hC, hn8⟩ := hp
        have hS : E3 ((30 + 2 + 2 * i) + 1) = .inl (cI, 6, .inl (p_row (Fs i) 2 d)) := (hn8 _ (by omega)).trans hS
        have hfr : ∀ q : Nat, q ≠ (30 + 2 + 2 * i) ∧ q ≠ (30 + 2 + 2 * i) + 1 → E3 q = E q := fun q hq => (hn8 q hq.1).trans (hfr q hq)
        refine lv_iinc (v := (nI (k + 1))) (lv' := [(5, .int (nI (k + 1))), (0, .ref (ad 0)), (3, .int (nI m9)), (4, .ref (ad (30 + 2 + 2 * i)))]) hx hb dX3_placeWith_60 hl (k := 3) rfl (nI_1 k) (by decide) rfl (fun ls hl => ?_)
        refine lv_goto (tgt := 35) hx hb dX3_placeWith_63 (by decide) ?_
        exact ih (k + 1) (by omega) (by omega) E3 H locs ls hC hS hfr hI (lv_sub hl [1, 2, 3, 0] rfl)
  exact Kih (m9 + 1) 0 (Nat.zero_le _) (by omega) E2 H locs ls hC hS hfr hI (lv_sub hl [2, 5, 1, 0] rfl)

set_option maxHeartbeats 4000000 in
set_option maxRecDepth 100000 in
theorem m_X3_arrives (l : Launch) {D : va_G} {cI cJ cB : ClassId} {t0 z : Nat} {tx ad : Nat → Nat} {L : List Nat} {E : Nat → va_E} (hl9 : l.stackTraces = false) {w p g : Nat → Int32} {nw n T : Nat} {Bs Fs : Nat → Nat → Int32} (hX : x_at cI cB ad E w p g nw n T Bs Fs) (hnw : nw ≤ 6) (hn6 : n ≤ 6) (hTb : T < 2 ^ 30) (h8 : ∀ i, i < n → Bs i 8 = 0 ∨ Bs i 8 = 1) (hXm : ∀ k, k < 5 ∨ (10 ≤ k ∧ k < 24) ∨ (30 ≤ k ∧ k < 44) → k ∈ L) (x : Int32) : vx_Met l yX3_arrives wsX3_arrives ({ frames := 6, cells := 1, slots := 6, locals := 82 } : Room) (va_Pc [.ref (ad 0), .int x] (fPre D cI cJ cB t0 z tx ad L E)) (va_Qi (fun (r : Int32) (E1 : Nat → va_E) => c_rank n x = 0 ∧ r = p_arr w p g nw T (Fs x.toNatClampNeg) (Bs x.toNatClampNeg) 0 401 ∧ x_at cI cB ad E1 w p g nw n T Bs Fs ∧ ∀ q : Nat, 44 ≤ q → E1 q = E q) (fB D z ad L) (fA z)) (f_X D z ad L E (ok1 (c_rank n x) fIO)) 1 6 (fA z) := by
  refine f_ofX (cc := cX3_arrives) (maxL := 4) (ret := some .int) (by decide) rfl (Nat.le_of_ble_eq_true rfl) ?_
  intro pr e s m args below meth c Q hx hb hr hml hT hts hown hlocks hG H locs hI hQ ls hl
  have hl : lv_has ls 4 [(0, .ref (ad 0)), (1, .int x)] := hl
  obtain ⟨hX0, ⟨hR, hRw, hRp, hRg⟩, hF10, nt, Tt, Bt, Ft, hnt, hF30⟩ := id hX
  have hr1 : 1 ∈ L := hXm _ (by omega)
  have hr2 : 2 ∈ L := hXm _ (by omega)
  have hr3 : 3 ∈ L := hXm _ (by omega)
  have hr4 : 4 ∈ L := hXm _ (by omega)
  obtain ⟨hFo10, hFr10, -⟩ := id hF10
  obtain ⟨hFo30, hFr30, -⟩ := id hF30
  have hR0 : E 1 = rE ad nw := hR
  have hRw0 := hRw
  have hRp0 := hRp
  have hRg0 := hRg
  have hX00 := hX0
  have hFo100 := hFo10
  have hX0 : E 0 = .inr (3, [.ref (ad 1), .ref (ad 10), .ref (ad 30)]) := hX0
  have hR : E 1 = .inr (2, [.ref (ad 2), .ref (ad 3), .ref (ad 4), .int (nI nw)]) := hR
  have hRw : E 2 = .inl (cI, 5, .inl w) := hRw
  have hRp : E 3 = .inl (cI, 6, .inl p) := hRp
  have hRg : E 4 = .inl (cI, 6, .inl g) := hRg
  have hFo10 : E 10 = .inr (1, [.ref (ad (10 + 1)), .int (nI n), .int (nI T)]) := hFo10
  have hFr10 : E (10 + 1) = .inl (cB, 6, .inr (.inr (.inr (.inr (fl_row ad 10))))) := hFr10
  have hFo30 : E 30 = .inr (1, [.ref (ad (30 + 1)), .int (nI nt), .int (nI Tt)]) := hFo30
  have hFr30 : E (30 + 1) = .inl (cB, 6, .inr (.inr (.inr (.inr (fl_row ad 30))))) := hFr30
  refine lv_aload_n hx hb dX3_arrives_0 rfl (lv_at hl 0 rfl) ?_
  refine f_get (ci := 3) (v := .ref (ad 10)) (C := RX3) (T := TX3) (N := 3) hx hb hts (by decide +kernel) hown hG.1 hI rfl (hXm _ (by omega)) hX0 rfl 1 (by decide) (hts (.fieldLink RX3 19 "CoracleRace" "fleet" "LCoracleRace$Fleet;") (by decide +kernel)) rfl dX3_arrives_1 ?_
  refine lv_iload_n hx hb dX3_arrives_4 rfl (lv_at hl 1 rfl) ?_
  refine f_calli1 (va_runV (As := [.int x]) (rest := []) ⟨hx, hb, hml, hown, hts⟩ (m_X1_has l (fb := 10) rfl (by decide) (fun k h1 h2 => hXm k (by omega)) hn6 hF10 x) (cwV 1 hts gX3_arrives_X1_has rfl rfl rfl (by decide +kernel) ⟨Nat.le_of_ble_eq_true rfl, Nat.le_of_ble_eq_true rfl⟩) (fPre_ofV hG hI rfl (hXm _ (by omega)) hFo10 rfl rfl) rfl rfl hl.1 rfl (lv_room (Nat.le_of_ble_eq_true rfl)) dX3_arrives_5 ⟨Nat.le_of_ble_eq_true rfl, Nat.le_of_ble_eq_true rfl⟩) hI (fun r1 E2 H locs hp hI => ?_)
  obtain ⟨he, hq⟩ := hp
  rw [hq] at hI
  refine lv_if_ne (tgt := 21) hx hb dX3_arrives_8 (by decide) (fun c_8 => ?_) (fun c_8 => ?_)
  · have p_8 := bl_t he c_8
    obtain ⟨i, hi, hxi⟩ := ix_nat p_8 (by omega)
    subst hxi
    have hcl : (nI i).toNatClampNeg = i := nI_clamp (by omega)
    obtain ⟨hCF, hSF⟩ := hF10.2.2 i (by omega)
    obtain ⟨hCTr, hSTr⟩ := hF30.2.2 i (by omega)
    refine lv_aload_n hx hb dX3_arrives_21 rfl (lv_at hl 0 rfl) ?_
    refine f_get (ci := 3) (v := .ref (ad 30)) (C := RX3) (T := TX3) (N := 3) hx hb hts (by decide +kernel) hown hG.1 hI rfl (hXm _ (by omega)) hX0 rfl 2 (by decide) (hts (.fieldLink RX3 23 "CoracleRace" "trial" "LCoracleRace$Fleet;") (by decide +kernel)) rfl dX3_arrives_22 ?_
    refine f_get (ci := 1) (v := .ref (ad (30 + 1))) (C := RX1) (T := TX1) (N := 3) hx hb hts (by decide +kernel) hown hG.1 hI rfl (hXm _ (by omega)) hFo30 rfl 0 (by decide) (hts (.fieldLink RX3 96 "CoracleRace$Fleet" "boats" "[LCoracleRace$Boat;") (by decide +kernel)) rfl dX3_arrives_25 ?_
    refine lv_iload_n hx hb dX3_arrives_28 rfl (lv_at hl 1 rfl) ?_
    refine f_aldq hx hb hG.1 hI rfl (hXm _ (by omega)) hFr30 (vp_in_nI (by omega) (by omega)) (v := .ref (ad (30 + 2 + 2 * i))) (by rw [hcl]; exact fl_row_at (by omega)) dX3_arrives_29 ?_
    refine lv_astore_n (lv' := [(2, .ref (ad (30 + 2 + 2 * i))), (0, .ref (ad 0)), (1, .int (nI i))]) hx hb dX3_arrives_30 rfl hl (by decide) rfl (fun ls hl => ?_)
    refine lv_aload_n hx hb dX3_arrives_31 rfl (lv_at hl 0 rfl) ?_
    refine lv_aload_n hx hb dX3_arrives_32 rfl (lv_at hl 1 rfl) ?_
    refine f_get (ci := 3) (v := .ref (ad 10)) (C := RX3) (T := TX3) (N := 3) hx hb hts (by decide +kernel) hown hG.1 hI rfl (hXm _ (by omega)) hX0 rfl 1 (by decide) (hts (.fieldLink RX3 19 "CoracleRace" "fleet" "LCoracleRace$Fleet;") (by decide +kernel)) rfl dX3_arrives_33 ?_
    refine f_get (ci := 1) (v := .ref (ad (10 + 1))) (C := RX1) (T := TX1) (N := 3) hx hb hts (by decide +kernel) hown hG.1 hI rfl (hXm _ (by omega)) hFo10 rfl 0 (by decide) (hts (.fieldLink RX3 96 "CoracleRace$Fleet" "boats" "[LCoracleRace$Boat;") (by decide +kernel)) rfl dX3_arrives_36 ?_
    refine lv_iload_n hx hb dX3_arrives_39 rfl (lv_at hl 2 rfl) ?_
    refine f_aldq hx hb hG.1 hI rfl (hXm _ (by omega)) hFr10 (vp_in_nI (by omega) (by omega)) (v := .ref (ad (10 + 2 + 2 * i))) (by rw [hcl]; exact fl_row_at (by omega)) dX3_arrives_40 ?_
    refine f_callv1 (va_runV (As := [.ref (ad (10 + 2 + 2 * i))]) (rest := []) ⟨hx, hb, hml, hown, hts⟩ (m_X0_copyFrom l rfl (hXm _ (by omega)) (b := Bt i) hCTr (hXm _ (by omega)) hSTr rfl (hXm _ (by omega)) (o := Bs i) hCF (hXm _ (by omega)) hSF (by omega) (h8 i hi)) (cwV 1 hts gX3_arrives_X0_copyFrom rfl rfl rfl (by decide +kernel) ⟨Nat.le_of_ble_eq_true rfl, Nat.le_of_ble_eq_true rfl⟩) (fPre_ofV hG hI rfl (hXm _ (by omega)) hCTr rfl rfl) rfl rfl hl.1 rfl (lv_room (Nat.le_of_ble_eq_true rfl)) dX3_arrives_41 ⟨Nat.le_of_ble_eq_true rfl, Nat.le_of_ble_eq_true rfl⟩) hI (fun E3 H locs hp hI => ?_)
    obtain ⟨hC, hS, hn9⟩ := hp
    have hfr : ∀ q : Nat, q ≠ (30 + 2 + 2 * i) ∧ q ≠ (30 + 2 + 2 * i) + 1 → E3 q = E q := hn9
    have hX0 : E3 0 = .inr (3, [.ref (ad 1), .ref (ad 10), .ref (ad 30)]) := (hfr 0 (by omega)).trans hX00
    have hFo10 : E3 10 = .inr (1, [.ref (ad (10 + 1)), .int (nI n), .int (nI T)]) := (hfr 10 (by omega)).trans hFo100
    have hR : E3 1 = rE ad nw := (hfr 1 (by omega)).trans hR0
    have hRw : E3 2 = .inl (cI, 5, .inl w) := (hfr 2 (by omega)).trans hRw0
    have hRp : E3 3 = .inl (cI, 6, .inl p) := (hfr 3 (by omega)).trans hRp0
    have hRg : E3 4 = .inl (cI, 6, .inl g) := (hfr 4 (by omega)).trans hRg0
    have hC : E3 (30 + 2 + 2 * i) = bE ad (30 + 2 + 2 * i) (p_boat w p g nw T (Fs i) (Bs i) 0) := hC
    refine lv_aload_n hx hb dX3_arrives_44 rfl (lv_at hl 0 rfl) ?_
    refine f_calli1 (va_runV (As := []) (rest := []) ⟨hx, hb, hml, hown, hts⟩ (m_X0_isIn l rfl (hXm _ (by omega)) (b := (p_boat w p g nw T (Fs i) (Bs i) 0)) hC (p_boat_8 (h8 i hi) 0)) (cwV 0 hts gX3_arrives_X0_isIn rfl rfl rfl (by decide +kernel) ⟨Nat.le_of_ble_eq_true rfl, Nat.le_of_ble_eq_true rfl⟩) (fPre_ofV hG hI rfl (hXm _ (by omega)) hC rfl rfl) rfl rfl hl.1 rfl (lv_room (Nat.le_of_ble_eq_true rfl)) dX3_arrives_45 ⟨Nat.le_of_ble_eq_true rfl, Nat.le_of_ble_eq_true rfl⟩) hI (fun r4 E5 H locs hp hI => ?_)
    obtain ⟨he6, hq⟩ := hp
    rw [hq] at hI
    have he6 : r4 = ((p_boat w p g nw T (Fs i) (Bs i) 0) 8) := he6
    subst he6
    refine lv_if_eq (tgt := 53) hx hb dX3_arrives_48 (by decide) (fun c_48 => ?_) (fun c_48 => ?_)
    · refine lv_iconst (v := 1) hx hb dX3_arrives_53 (by decide) ?_
      refine lv_istore_n (lv' := [(3, .int 1), (2, .ref (ad (30 + 2 + 2 * i))), (0, .ref (ad 0)), (1, .int (nI i))]) hx hb dX3_arrives_54 rfl hl (by decide) rfl (fun ls hl => ?_)
      have Kih : ∀ (k9 k : Nat), k ≤ 400 → 400 + 1 ≤ k + k9 → ∀ (Ea : Nat → va_E) (H : Heap) (locs : List Loc) (ls : Array Slot), (Ea (30 + 2 + 2 * i) = bE ad (30 + 2 + 2 * i) (p_boat w p g nw T (Fs i) (Bs i) k)) → (Ea ((30 + 2 + 2 * i) + 1) = .inl (cI, 6, .inl (Fs i))) → (∀ q : Nat, q ≠ (30 + 2 + 2 * i) ∧ q ≠ (30 + 2 + 2 * i) + 1 → Ea q = E q) → (p_arr w p g nw T (Fs i) (Bs i) 0 401 = p_arr w p g nw T (Fs i) (Bs i) (k + 1) (400 - k)) → fI D (fA z) s.heap ad L Ea H locs → lv_has ls 4 [(0, .ref (ad 0)), (2, .ref (ad (30 + 2 + 2 * i))), (3, .int (nI (k + 1)))] → W pr l e ({ frames := 6, cells := 1, slots := 6, locals := 82 } : Room) s m args below meth c H locs 0 0 Q (F0 m 55 ls []) := by
        intro k9
        induction k9 with
        | zero => intro k h1 h2; exact absurd h2 (by omega)
        | succ k9 ih =>
          intro k hi1k hi2k Ea H locs ls hC hS hfr hv hI hl
          have hX0 : Ea 0 = .inr (3, [.ref (ad 1), .ref (ad 10), .ref (ad 30)]) := (hfr 0 (by omega)).trans hX00
          have hFo10 : Ea 10 = .inr (1, [.ref (ad (10 + 1)), .int (nI n), .int (nI T)]) := (hfr 10 (by omega)).trans hFo100
          have hR : Ea 1 = rE ad nw := (hfr 1 (by omega)).trans hR0
          have hRw : Ea 2 = .inl (cI, 5, .inl w) := (hfr 2 (by omega)).trans hRw0
          have hRp : Ea 3 = .inl (cI, 6, .inl p) := (hfr 3 (by omega)).trans hRp0
          have hRg : Ea 4 = .inl (cI, 6, .inl g) := (hfr 4 (by omega)).trans hRg0
          refine lv_iload_n hx hb dX3_arrives_55 rfl (lv_at hl 2 rfl) ?_
          refine lv_sipush (v := 400) hx hb dX3_arrives_56 (by decide) ?_
          refine lv_icmp_gt (tgt := 96) hx hb dX3_arrives_59 (by decide) (fun c_59 => ?_) (fun c_59 => ?_)
          · have n_59 := i_nle.mpr c_59
            have hk400 : 400 < k + 1 := (nI_ltI (by omega) (by omega) (a := 400)).mp c_59
            refine lv_iconst (v := -1) hx hb dX3_arrives_96 (by decide) ?_
            exact f_xreti hQ hx hb hr hlocks hI.2.2 (by omega) (by omega) dX3_arrives_97 Ea (fB_of hI) (⟨by simp [c_rank, c_8, if_pos p_8, p_8, hcl, c_48, c_59, n_59], by rw [hcl, hv, show k = 400 by omega]; rfl, hX.f30 (fun q hq => hfr q (by omega)) hnt (hF30.boat (by omega) hC hS hfr), fun q hq => hfr q (by omega)⟩)
          · have n_59 := c_59
            have c_59 := i_nlt.mp n_59
            have hk400 : k + 1 ≤ 400 := (nI_leI (by omega) (by omega) (b := 400)).mp c_59
            refine lv_aload_n hx hb dX3_arrives_62 rfl (lv_at hl 1 rfl) ?_
            refine lv_aload_n hx hb dX3_arrives_63 rfl (lv_at hl 0 rfl) ?_
            refine f_get (ci := 3) (v := .ref (ad 1)) (C := RX3) (T := TX3) (N := 3) hx hb hts (by decide +kernel) hown hG.1 hI rfl (hXm _ (by omega)) hX0 rfl 0 (by decide) (hts (.fieldLink RX3 10 "CoracleRace" "river" "LCoracleRace$River;") (by decide +kernel)) rfl dX3_arrives_64 ?_
            refine lv_aload_n hx hb dX3_arrives_67 rfl (lv_at hl 0 rfl) ?_
            refine f_get (ci := 3) (v := .ref (ad 10)) (C := RX3) (T := TX3) (N := 3) hx hb hts (by decide +kernel) hown hG.1 hI rfl (hXm _ (by omega)) hX0 rfl 1 (by decide) (hts (.fieldLink RX3 19 "CoracleRace" "fleet" "LCoracleRace$Fleet;") (by decide +kernel)) rfl dX3_arrives_68 ?_
            refine f_get (ci := 1) (v := .int (nI T)) (C := RX1) (T := TX1) (N := 3) hx hb hts (by decide +kernel) hown hG.1 hI rfl (hXm _ (by omega)) hFo10 rfl 2 (by decide) (hts (.fieldLink RX3 150 "CoracleRace$Fleet" "tick" "I") (by decide +kernel)) rfl dX3_arrives_71 ?_
            refine lv_iload_n hx hb dX3_arrives_74 rfl (lv_at hl 2 rfl) ?_
            refine lv_iadd hx hb dX3_arrives_75 ?_
            refine lv_topi (fun tv etv => ?_)
            have etv : tv = nI (T + (k + 1)) := etv.trans (nI_add T (k + 1))
            subst etv
            refine lv_iconst (v := 1) hx hb dX3_arrives_76 (by decide) ?_
            refine lv_isub hx hb dX3_arrives_77 ?_
            refine lv_topi (fun tv etv => ?_)
            have etv : tv = nI (T + k) := etv.trans (nI_pred (T + k))
            subst etv
            refine f_callv1 (va_runV (As := [.ref (ad 1), .int (nI (T + k))]) (rest := []) ⟨hx, hb, hml, hown, hts⟩ (m_X0_letTickGoBy l rfl (hXm _ (by omega)) (b := (p_boat w p g nw T (Fs i) (Bs i) k)) hC (hXm _ (by omega)) hS (by omega) hnw hr1 hr2 hr3 hr4 hR hRw hRp hRg (nI (T + k)) (nI_pos' (by omega))) (cwV 2 hts gX3_arrives_X0_letTickGoBy rfl rfl rfl (by decide +kernel) ⟨Nat.le_of_ble_eq_true rfl, Nat.le_of_ble_eq_true rfl⟩) (fPre_ofV hG hI rfl (hXm _ (by omega)) hC rfl rfl) rfl rfl hl.1 rfl (lv_room (Nat.le_of_ble_eq_true rfl)) dX3_arrives_78 ⟨Nat.le_of_ble_eq_true rfl, Nat.le_of_ble_eq_true rfl⟩) hI (fun E6 H locs hp hI => ?_)
            obtain ⟨hC, hn8⟩ := hp
            have hC : E6 (30 + 2 + 2 * i) = bE ad (30 + 2 + 2 * i) (p_boat w p g nw T (Fs i) (Bs i) (k + 1)) := hC
            have hS : E6 ((30 + 2 + 2 * i) + 1) = .inl (cI, 6, .inl (Fs i)) := (hn8 _ (by omega)).trans hS
            have hfr : ∀ q : Nat, q ≠ (30 + 2 + 2 * i) ∧ q ≠ (30 + 2 + 2 * i) + 1 → E6 q = E q := fun q hq => (hn8 q hq.1).trans (hfr q hq)
            refine lv_aload_n hx hb dX3_arrives_81 rfl (lv_at hl 1 rfl) ?_
            refine f_calli1 (va_runV (As := []) (rest := []) ⟨hx, hb, hml, hown, hts⟩ (m_X0_isIn l rfl (hXm _ (by omega)) (b := (p_boat w p g nw T (Fs i) (Bs i) (k + 1))) hC (p_boat_8 (h8 i hi) (k + 1))) (cwV 0 hts gX3_arrives_X0_isIn rfl rfl rfl (by decide +kernel) ⟨Nat.le_of_ble_eq_true rfl, Nat.le_of_ble_eq_true rfl⟩) (fPre_ofV hG hI rfl (hXm _ (by omega)) hC rfl rfl) rfl rfl hl.1 rfl (lv_room (Nat.le_of_ble_eq_true rfl)) dX3_arrives_82 ⟨Nat.le_of_ble_eq_true rfl, Nat.le_of_ble_eq_true rfl⟩) hI (fun r7 E8 H locs hp hI => ?_)
            obtain ⟨he6, hq⟩ := hp
            rw [hq] at hI
            have he6 : r7 = ((p_boat w p g nw T (Fs i) (Bs i) (k + 1)) 8) := he6
            subst he6
            refine lv_if_eq (tgt := 90) hx hb dX3_arrives_85 (by decide) (fun c_85 => ?_) (fun c_85 => ?_)
            · refine lv_iinc (v := (nI (k + 1 + 1))) (lv' := [(3, .int (nI (k + 1 + 1))), (0, .ref (ad 0)), (2, .ref (ad (30 + 2 + 2 * i)))]) hx hb dX3_arrives_90 hl (k := 2) rfl (nI_1 (k + 1)) (by decide) rfl (fun ls hl => ?_)
              refine lv_goto (tgt := 55) hx hb dX3_arrives_93 (by decide) ?_
              exact ih (k + 1) (by omega) (by omega) E6 H locs ls hC hS hfr (by rw [hv, show 400 - k = (400 - (k + 1)) + 1 by omega, p_arr, if_pos c_85]) hI (lv_sub hl [1, 2, 0] rfl)
            · refine lv_iload_n hx hb dX3_arrives_88 rfl (lv_at hl 2 rfl) ?_
              exact f_xreti hQ hx hb hr hlocks hI.2.2 (by omega) (by omega) dX3_arrives_89 E6 (fB_of hI) (⟨by simp [c_rank, c_8, if_pos p_8, p_8, hcl, c_48, c_59, n_59, c_85], by rw [hcl, hv, show 400 - k = (400 - (k + 1)) + 1 by omega, p_arr, if_neg c_85], hX.f30 (fun q hq => hfr q (by omega)) hnt (hF30.boat (by omega) hC hS hfr), fun q hq => hfr q (by omega)⟩)
      exact Kih (400 + 1) 0 (Nat.zero_le _) (by omega) E3 H locs ls hC hS hfr (by rw [p_arr, if_pos c_48]) hI (lv_sub hl [2, 1, 0] rfl)
    · refine lv_iconst (v := 0) hx hb dX3_arrives_51 (by decide) ?_
      exact f_xreti hQ hx hb hr hlocks hI.2.2 (by omega) (by omega) dX3_arrives_52 E3 (fB_of hI) (⟨by simp [c_rank, c_8, if_pos p_8, p_8, hcl, c_48], by rw [hcl, p_arr, if_neg c_48]; rfl, hX.f30 (fun q hq => hfr q (by omega)) hnt (hF30.boat (by omega) hC hS hfr), fun q hq => hfr q (by omega)⟩)
  · have p_8 := bl_f he c_8
    exact f_throw (cls := fIO) (text := "no such boat") hQ (⟨by simp [c_rank, c_8, if_neg p_8], rfl⟩) hl9 hx hb hG hI hown hT hlocks (hl.1.trans hml.symm) (hts (.classLink RX3 30 fIO) (by decide +kernel)) (hts (.initialized fIO) (by decide +kernel)) (fun w hw => hts w (List.mem_cons_of_mem _ (List.mem_append_right _ hw))) vxf_IO vxn_34 vxg_34 (by decide +kernel) dX3_arrives_11 dX3_arrives_14 dX3_arrives_15 dX3_arrives_17 dX3_arrives_20 (by decide +kernel) (Nat.le_of_ble_eq_true rfl) (Nat.le_of_ble_eq_true rfl) (Nat.le_of_ble_eq_true rfl) (by omega) (by omega)
