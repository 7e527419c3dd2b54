set_option maxHeartbeats 4000000 in
set_option maxRecDepth 100000 in
theorem m_X1_letTicksGoBy (l : Launch) {D : va_G} {cI cJ cB : ClassId} {t0 z : Nat} {tx ad : Nat → Nat} {L : List Nat} {E : Nat → va_E} {fb a : Nat} (ha : ad fb = a) (h10 : 10 ≤ fb) (hLm : ∀ k, fb ≤ k → k < fb + 14 → k ∈ L) {n T : Nat} (hn6 : n ≤ 6) {Bs Fs : Nat → Nat → Int32} (hFl : fl_at cI cB ad E fb n T Bs Fs) {w p g : Nat → Int32} {nw : Nat} (hnw : nw ≤ 6) (hr1 : 1 ∈ L) (hr2 : 2 ∈ L) (hr3 : 3 ∈ L) (hr4 : 4 ∈ L) (hR : E 1 = rE ad nw) (hRw : E 2 = .inl (cI, 5, .inl w)) (hRp : E 3 = .inl (cI, 6, .inl p)) (hRg : E 4 = .inl (cI, 6, .inl g)) (m9 : Nat) (hm9 : T + m9 < 2 ^ 31) : Met l yX1_letTicksGoBy wsX1_letTicksGoBy ({ frames := 4, cells := 0, slots := 0, locals := 82 } : Room) (va_Pc [.ref a, .ref (ad 1), .int (nI m9)] (fPre D cI cJ cB t0 z tx ad L E)) (va_Qv (fun (E1 : Nat → va_E) => fl_at cI cB ad E1 fb n (T + m9) (p_run w p g nw T n Fs Bs m9) Fs ∧ ∀ q : Nat, (q < fb ∨ fb + 14 ≤ q) → E1 q = E q) (fB D z ad L) (fA z)) 0 0 (fA z) := by
  refine f_ofW (cc := cX1_letTicksGoBy) (maxL := 5) (ret := none) (by decide) rfl (Nat.le_of_ble_eq_true rfl) ?_
  intro pr e s m args below meth c Q hx hb hr hml hts hown hlocks hin hG H locs hI hQ ls hl
  have hl : lv_has ls 5 [(0, .ref a), (1, .ref (ad 1)), (2, .int (nI m9))] := hl
  have hR0 : E 1 = rE ad nw := hR
  have hRw0 := hRw
  have hRp0 := hRp
  have hRg0 := hRg
  refine lv_iconst (v := 0) hx hb dX1_letTicksGoBy_0 (by decide) ?_
  refine lv_istore_n (lv' := [(3, .int 0), (0, .ref a), (1, .ref (ad 1)), (2, .int (nI m9))]) hx hb dX1_letTicksGoBy_1 rfl hl (by decide) rfl (fun ls hl => ?_)
  have Kih : ∀ (k j : Nat), j ≤ m9 → m9 + 1 ≤ j + k → ∀ (Ea : Nat → va_E) (H : Heap) (locs : List Loc) (ls : Array Slot), (fl_at cI cB ad Ea fb n (T + j) (p_run w p g nw T n Fs Bs j) Fs) → (∀ q : Nat, (q < fb ∨ fb + 14 ≤ q) → Ea q = E q) → fI D (fA z) s.heap ad L Ea H locs → lv_has ls 5 [(0, .ref a), (1, .ref (ad 1)), (2, .int (nI m9)), (3, .int (nI j))] → W pr l e ({ frames := 4, cells := 0, slots := 0, locals := 82 } : Room) s m args below meth c H locs 0 0 Q (F0 m 2 ls []) := by
    intro k
    induction k with
    | zero => intro j h1 h2; exact absurd h2 (by omega)
    | succ k ih =>
      intro j hi1j hi2j Ea H locs ls hFl hfr hI hl
      refine lv_iload_n hx hb dX1_letTicksGoBy_2 rfl (lv_at hl 3 rfl) ?_
      refine lv_iload_n hx hb dX1_letTicksGoBy_3 rfl (lv_at hl 2 rfl) ?_
      refine lv_icmp_ge (tgt := 56) hx hb dX1_letTicksGoBy_4 (by decide) (fun c_4 => ?_) (fun c_4 => ?_)
      · have n_4 := i_nlt.mpr c_4
        have hj : j = m9 := by have := (nI_leI (by omega) (by omega)).mp c_4; omega
        exact f_retv hQ hx hb hr hlocks hI.2.2 (by omega) (by omega) dX1_letTicksGoBy_56 Ea (fB_of hI) (⟨by rw [hj] at hFl; exact hFl, hfr⟩)
      · have n_4 := c_4
        have c_4 := i_nle.mp n_4
        have hj : j < m9 := (nI_ltI (by omega) (by omega)).mp c_4
        have hcl : (nI j).toNatClampNeg = j := nI_clamp (by omega)
        refine lv_iconst (v := 0) hx hb dX1_letTicksGoBy_7 (by decide) ?_
        refine lv_istore (lv' := [(4, .int 0), (0, .ref a), (1, .ref (ad 1)), (2, .int (nI m9)), (3, .int (nI j))]) hx hb dX1_letTicksGoBy_8 hl (by decide) rfl (fun ls hl => ?_)
        have Kih2 : ∀ (k2 i : Nat), i ≤ n → n + 1 ≤ i + k2 → ∀ (Eb : Nat → va_E) (H : Heap) (locs : List Loc) (ls : Array Slot), (fl_at cI cB ad Eb fb n (T + j) (p_mid w p g nw T n Fs Bs j i) Fs) → (∀ q : Nat, (q < fb ∨ fb + 14 ≤ q) → Eb q = E q) → fI D (fA z) s.heap ad L Eb H locs → lv_has ls 5 [(0, .ref a), (1, .ref (ad 1)), (2, .int (nI m9)), (3, .int (nI j)), (4, .int (nI i))] → W pr l e ({ frames := 4, cells := 0, slots := 0, locals := 82 } : Room) s m args below meth c H locs 0 0 Q (F0 m 10 ls []) := by
          intro k2
          induction k2 with
          | zero => intro i h1 h2; exact absurd h2 (by omega)
          | succ k2 ih2 =>
            intro i hi1i hi2i Eb H locs ls hFl hfr hI hl
            obtain ⟨hFo, hFr, -⟩ := id hFl
            have hR : Eb 1 = rE ad nw := (hfr 1 (by omega)).trans hR0
            have hRw : Eb 2 = .inl (cI, 5, .inl w) := (hfr 2 (by omega)).trans hRw0
            have hRp : Eb 3 = .inl (cI, 6, .inl p) := (hfr 3 (by omega)).trans hRp0
            have hRg : Eb 4 = .inl (cI, 6, .inl g) := (hfr 4 (by omega)).trans hRg0
            refine lv_iload hx hb dX1_letTicksGoBy_10 (lv_at hl 4 rfl) ?_
            refine lv_aload_n hx hb dX1_letTicksGoBy_12 rfl (lv_at hl 0 rfl) ?_
            refine f_get (ci := 1) (v := .int (nI n)) (C := RX1) (T := TX1) (N := 3) hx hb hts (by decide +kernel) hown hG.1 hI ha (hLm _ (by omega) (by omega)) hFo rfl 1 (by decide) (hts (.fieldLink RX1 15 "CoracleRace$Fleet" "size" "I") (by decide +kernel)) rfl dX1_letTicksGoBy_13 ?_
            refine lv_icmp_ge (tgt := 40) hx hb dX1_letTicksGoBy_16 (by decide) (fun c_16 => ?_) (fun c_16 => ?_)
            · have n_16 := i_nlt.mpr c_16
              have hi : i = n := by have := (nI_leI (by omega) (by omega)).mp c_16; omega
              rw [hi, p_mid_n] at hFl
              have hFo := hFl.1
              refine lv_aload_n hx hb dX1_letTicksGoBy_40 rfl (lv_at hl 0 rfl) ?_
              refine lv_dup hx hb dX1_letTicksGoBy_41 rfl ?_
              refine f_get (ci := 1) (v := .int (nI (T + j))) (C := RX1) (T := TX1) (N := 3) hx hb hts (by decide +kernel) hown hG.1 hI ha (hLm _ (by omega) (by omega)) hFo rfl 2 (by decide) (hts (.fieldLink RX1 19 "CoracleRace$Fleet" "tick" "I") (by decide +kernel)) rfl dX1_letTicksGoBy_42 ?_
              refine lv_iconst (v := 1) hx hb dX1_letTicksGoBy_45 (by decide) ?_
              refine lv_iadd hx hb dX1_letTicksGoBy_46 ?_
              refine lv_topi (fun tv etv => ?_)
              have etv : tv = nI (T + (j + 1)) := etv.trans (nI_1 (T + j))
              subst etv
              refine f_put (ci := 1) (v := .int (nI (T + (j + 1)))) (C := RX1) (T := TX1) (N := 3) hx hb hts (by decide +kernel) tyX1 tyX1_ok nmX1 hown hG.1 hI ha (hLm _ (by omega) (by omega)) hFo rfl 2 (by decide) (hts (.fieldLink RX1 19 "CoracleRace$Fleet" "tick" "I") (by decide +kernel)) rfl rfl rfl (Nat.le_of_ble_eq_true rfl) dX1_letTicksGoBy_47 (fun E1 H locs hE2 hn3 hI => ?_)
              have hFo : E1 fb = .inr (1, [.ref (ad (fb + 1)), .int (nI n), .int (nI (T + (j + 1)))]) := hE2
              refine lv_iinc (v := (nI (j + 1))) (lv' := [(3, .int (nI (j + 1))), (0, .ref a), (1, .ref (ad 1)), (2, .int (nI m9)), (4, .int (nI i))]) hx hb dX1_letTicksGoBy_50 hl (k := 3) rfl (nI_1 j) (by decide) rfl (fun ls hl => ?_)
              refine lv_goto (tgt := 2) hx hb dX1_letTicksGoBy_53 (by decide) ?_
              have hFl := hFl.top (T1 := T + (j + 1)) (n1 := n) hFo hn3
              have hfr : ∀ q : Nat, (q < fb ∨ fb + 14 ≤ q) → E1 q = E q := fun q hq => (hn3 q (by omega)).trans (hfr q hq)
              exact ih (j + 1) (by omega) (by omega) E1 H locs ls hFl hfr hI (lv_sub hl [1, 2, 3, 0] rfl)
            · have n_16 := c_16
              have c_16 := i_nle.mp n_16
              have hi : i < n := (nI_ltI (by omega) (by omega)).mp c_16
              have hcl : (nI i).toNatClampNeg = i := nI_clamp (by omega)
              obtain ⟨hCi, hFi⟩ := hFl.2.2 i (by omega)
              have hCi : Eb (fb + 2 + 2 * i) = .inr (0, [.ref (ad ((fb + 2 + 2 * i) + 1)), .int ((p_mid w p g nw T n Fs Bs j i) i 1), .int ((p_mid w p g nw T n Fs Bs j i) i 2), .int ((p_mid w p g nw T n Fs Bs j i) i 3), .int ((p_mid w p g nw T n Fs Bs j i) i 4), .int ((p_mid w p g nw T n Fs Bs j i) i 5), .int ((p_mid w p g nw T n Fs Bs j i) i 6), .int ((p_mid w p g nw T n Fs Bs j i) i 7), .int ((p_mid w p g nw T n Fs Bs j i) i 8), .int ((p_mid w p g nw T n Fs Bs j i) i 9), .int ((p_mid w p g nw T n Fs Bs j i) i 10), .int ((p_mid w p g nw T n Fs Bs j i) i 11)]) := hCi
              refine lv_aload_n hx hb dX1_letTicksGoBy_19 rfl (lv_at hl 0 rfl) ?_
              refine f_get (ci := 1) (v := .ref (ad (fb + 1))) (C := RX1) (T := TX1) (N := 3) hx hb hts (by decide +kernel) hown hG.1 hI ha (hLm _ (by omega) (by omega)) hFo rfl 0 (by decide) (hts (.fieldLink RX1 11 "CoracleRace$Fleet" "boats" "[LCoracleRace$Boat;") (by decide +kernel)) rfl dX1_letTicksGoBy_20 ?_
              refine lv_iload hx hb dX1_letTicksGoBy_23 (lv_at hl 4 rfl) ?_
              refine f_aldq hx hb hG.1 hI rfl (hLm _ (by omega) (by omega)) hFr (vp_in_nI (by omega) (by omega)) (v := .ref (ad (fb + 2 + 2 * i))) (by rw [hcl]; exact fl_row_at (by omega)) dX1_letTicksGoBy_25 ?_
              refine lv_aload_n hx hb dX1_letTicksGoBy_26 rfl (lv_at hl 1 rfl) ?_
              refine lv_aload_n hx hb dX1_letTicksGoBy_27 rfl (lv_at hl 0 rfl) ?_
              refine f_get (ci := 1) (v := .int (nI (T + j))) (C := RX1) (T := TX1) (N := 3) hx hb hts (by decide +kernel) hown hG.1 hI ha (hLm _ (by omega) (by omega)) hFo rfl 2 (by decide) (hts (.fieldLink RX1 19 "CoracleRace$Fleet" "tick" "I") (by decide +kernel)) rfl dX1_letTicksGoBy_28 ?_
              refine f_callv1 (va_runV (As := [.ref (ad 1), .int (nI (T + j))]) (rest := []) ⟨hx, hb, hml, hown, hts⟩ (m_X0_letTickGoBy l rfl (hLm _ (by omega) (by omega)) (b := (p_mid w p g nw T n Fs Bs j i) i) hCi (hLm _ (by omega) (by omega)) hFi (by omega) hnw hr1 hr2 hr3 hr4 hR hRw hRp hRg (nI (T + j)) (nI_pos' (by omega))) (cwV 2 hts gX1_letTicksGoBy_X0_letTickGoBy rfl rfl rfl (by decide +kernel) ⟨Nat.le_of_ble_eq_true rfl, Nat.le_of_ble_eq_true rfl⟩) (fPre_ofV hG hI rfl (hLm _ (by omega) (by omega)) hCi rfl rfl) rfl rfl hl.1 rfl (lv_room (Nat.le_of_ble_eq_true rfl)) dX1_letTicksGoBy_31 ⟨Nat.le_of_ble_eq_true rfl, Nat.le_of_ble_eq_true rfl⟩) hI (fun E4 H locs hp hI => ?_)
              obtain ⟨hE9, hn9⟩ := hp
              have hFl := hFl.boat1 (by omega) hE9 hn9
              rw [p_mid_s hi] at hFl
              have hfr : ∀ q : Nat, (q < fb ∨ fb + 14 ≤ q) → E4 q = E q := fun q hq => (hn9 q (by omega)).trans (hfr q hq)
              refine lv_iinc (v := (nI (i + 1))) (lv' := [(4, .int (nI (i + 1))), (0, .ref a), (1, .ref (ad 1)), (2, .int (nI m9)), (3, .int (nI j))]) hx hb dX1_letTicksGoBy_34 hl (k := 4) rfl (nI_1 i) (by decide) rfl (fun ls hl => ?_)
              refine lv_goto (tgt := 10) hx hb dX1_letTicksGoBy_37 (by decide) ?_
              exact ih2 (i + 1) (by omega) (by omega) E4 H locs ls hFl hfr hI (lv_sub hl [1, 2, 3, 4, 0] rfl)
        exact Kih2 (n + 1) 0 (Nat.zero_le _) (by omega) Ea H locs ls (by rw [p_mid_0]; exact hFl) hfr hI (lv_sub hl [1, 2, 3, 4, 0] rfl)
  exact Kih (m9 + 1) 0 (Nat.zero_le _) (by omega) E H locs ls (by rw [p_run_0]; exact hFl) (fun _ _ => rfl) hI (lv_sub hl [1, 2, 3, 0] rfl)

set_option maxHeartbeats 4000000 in
set_option maxRecDepth 100000 in
theorem m_X1_add (l : Launch) {D : va_G} {cI cJ cB : ClassId} {t0 z : Nat} {tx ad : Nat → Nat} {L : List Nat} {E : Nat → va_E} {fb a : Nat} (ha : ad fb = a) (h10 : 10 ≤ fb) (hLm : ∀ k, fb ≤ k → k < fb + 14 → k ∈ L) {n T : Nat} (hn6 : n < 6) {Bs Fs : Nat → Nat → Int32} (hFl : fl_at cI cB ad E fb n T Bs Fs) (lane st : Int32) : Met l yX1_add wsX1_add ({ frames := 2, cells := 0, slots := 0, locals := 46 } : Room) (va_Pc [.ref a, .int lane, .int st] (fPre D cI cJ cB t0 z tx ad L E)) (va_Qi (fun (r : Int32) (E1 : Nat → va_E) => r = nI n ∧ fl_at cI cB ad E1 fb (n + 1) T (va_up Bs n (p_new (Bs n) lane st)) (va_up Fs n (p_row (Fs n) 1 3)) ∧ ∀ q : Nat, (q < fb ∨ fb + 14 ≤ q) → E1 q = E q) (fB D z ad L) (fA z)) 0 0 (fA z) := by
  refine f_ofW (cc := cX1_add) (maxL := 3) (ret := some .int) (by decide) rfl (Nat.le_of_ble_eq_true rfl) ?_
  intro pr e s m args below meth c Q hx hb hr hml hts hown hlocks hin hG H locs hI hQ ls hl
  have hl : lv_has ls 3 [(0, .ref a), (1, .int lane), (2, .int st)] := hl
  obtain ⟨hFo, hFr, -⟩ := id hFl
  have hFo : E fb = .inr (1, [.ref (ad (fb + 1)), .int (nI n), .int (nI T)]) := hFo
  have hFr : E (fb + 1) = .inl (cB, 6, .inr (.inr (.inr (.inr (fl_row ad fb))))) := hFr
  refine lv_aload_n hx hb dX1_add_0 rfl (lv_at hl 0 rfl) ?_
  refine f_get (ci := 1) (v := .int (nI n)) (C := RX1) (T := TX1) (N := 3) hx hb hts (by decide +kernel) hown hG.1 hI ha (hLm _ (by omega) (by omega)) hFo rfl 1 (by decide) (hts (.fieldLink RX1 15 "CoracleRace$Fleet" "size" "I") (by decide +kernel)) rfl dX1_add_1 ?_
  refine lv_bipush (v := 6) hx hb dX1_add_4 (by decide) ?_
  refine lv_icmp_lt (tgt := 11) hx hb dX1_add_6 (by decide) (fun c_6 => ?_) (fun c_6 => ?_)
  · have n_6 := i_nle.mpr c_6
    have hcl : (nI n).toNatClampNeg = n := nI_clamp (by omega)
    obtain ⟨hCn, hFn⟩ := hFl.2.2 n (by omega)
    have hCn : E (fb + 2 + 2 * n) = .inr (0, [.ref (ad ((fb + 2 + 2 * n) + 1)), .int (Bs n 1), .int (Bs n 2), .int (Bs n 3), .int (Bs n 4), .int (Bs n 5), .int (Bs n 6), .int (Bs n 7), .int (Bs n 8), .int (Bs n 9), .int (Bs n 10), .int (Bs n 11)]) := hCn
    refine lv_aload_n hx hb dX1_add_11 rfl (lv_at hl 0 rfl) ?_
    refine f_get (ci := 1) (v := .ref (ad (fb + 1))) (C := RX1) (T := TX1) (N := 3) hx hb hts (by decide +kernel) hown hG.1 hI ha (hLm _ (by omega) (by omega)) hFo rfl 0 (by decide) (hts (.fieldLink RX1 11 "CoracleRace$Fleet" "boats" "[LCoracleRace$Boat;") (by decide +kernel)) rfl dX1_add_12 ?_
    refine lv_aload_n hx hb dX1_add_15 rfl (lv_at hl 0 rfl) ?_
    refine f_get (ci := 1) (v := .int (nI n)) (C := RX1) (T := TX1) (N := 3) hx hb hts (by decide +kernel) hown hG.1 hI ha (hLm _ (by omega) (by omega)) hFo rfl 1 (by decide) (hts (.fieldLink RX1 15 "CoracleRace$Fleet" "size" "I") (by decide +kernel)) rfl dX1_add_16 ?_
    refine f_aldq hx hb hG.1 hI rfl (hLm _ (by omega) (by omega)) hFr (vp_in_nI (by omega) (by omega)) (v := .ref (ad (fb + 2 + 2 * n))) (by rw [hcl]; exact fl_row_at (by omega)) dX1_add_19 ?_
    refine lv_iload_n hx hb dX1_add_20 rfl (lv_at hl 1 rfl) ?_
    refine lv_iload_n hx hb dX1_add_21 rfl (lv_at hl 2 rfl) ?_
    refine f_callv1 (va_runV (As := [.int lane, .int st]) (rest := []) ⟨hx, hb, hml, hown, hts⟩ (m_X0_start l rfl (hLm _ (by omega) (by omega)) (b := Bs n) hCn (hLm _ (by omega) (by omega)) hFn lane st) (cwV 2 hts gX1_add_X0_start rfl rfl rfl (by decide +kernel) ⟨Nat.le_of_ble_eq_true rfl, Nat.le_of_ble_eq_true rfl⟩) (fPre_ofV hG hI rfl (hLm _ (by omega) (by omega)) hCn rfl rfl) rfl rfl hl.1 rfl (lv_room (Nat.le_of_ble_eq_true rfl)) dX1_add_22 ⟨Nat.le_of_ble_eq_true rfl, Nat.le_of_ble_eq_true rfl⟩) hI (fun E1 H locs hp hI => ?_)
    obtain ⟨hE9, hF9, hn9⟩ := hp
    have hFl := hFl.boat (by omega) hE9 hF9 hn9
    have hfr : ∀ q : Nat, (q < fb ∨ fb + 14 ≤ q) → E1 q = E q := fun q hq => hn9 q (by omega)
    have hFo := hFl.1
    refine lv_aload_n hx hb dX1_add_25 rfl (lv_at hl 0 rfl) ?_
    refine lv_dup hx hb dX1_add_26 rfl ?_
    refine f_get (ci := 1) (v := .int (nI n)) (C := RX1) (T := TX1) (N := 3) hx hb hts (by decide +kernel) hown hG.1 hI ha (hLm _ (by omega) (by omega)) hFo rfl 1 (by decide) (hts (.fieldLink RX1 15 "CoracleRace$Fleet" "size" "I") (by decide +kernel)) rfl dX1_add_27 ?_
    refine lv_iconst (v := 1) hx hb dX1_add_30 (by decide) ?_
    refine lv_iadd hx hb dX1_add_31 ?_
    refine lv_topi (fun tv etv => ?_)
    have etv : tv = nI (n + 1) := etv.trans (nI_1 n)
    subst etv
    refine f_put (ci := 1) (v := .int (nI (n + 1))) (C := RX1) (T := TX1) (N := 3) hx hb hts (by decide +kernel) tyX1 tyX1_ok nmX1 hown hG.1 hI ha (hLm _ (by omega) (by omega)) hFo rfl 1 (by decide) (hts (.fieldLink RX1 15 "CoracleRace$Fleet" "size" "I") (by decide +kernel)) rfl rfl rfl (Nat.le_of_ble_eq_true rfl) dX1_add_32 (fun E2 H locs hE3 hn4 hI => ?_)
    have hFo : E2 fb = .inr (1, [.ref (ad (fb + 1)), .int (nI (n + 1)), .int (nI T)]) := hE3
    refine lv_aload_n hx hb dX1_add_35 rfl (lv_at hl 0 rfl) ?_
    refine f_get (ci := 1) (v := .int (nI (n + 1))) (C := RX1) (T := TX1) (N := 3) hx hb hts (by decide +kernel) hown hG.1 hI ha (hLm _ (by omega) (by omega)) hFo rfl 1 (by decide) (hts (.fieldLink RX1 15 "CoracleRace$Fleet" "size" "I") (by decide +kernel)) rfl dX1_add_36 ?_
    refine lv_iconst (v := 1) hx hb dX1_add_39 (by decide) ?_
    refine lv_isub hx hb dX1_add_40 ?_
    exact f_reti hQ hx hb hr hlocks hI.2.2 (by omega) (by omega) dX1_add_41 E2 (fB_of hI) (⟨nI_pred n, hFl.top hFo hn4, fun q hq => (hn4 q (by omega)).trans (hfr q hq)⟩)
  · exact absurd ((nI_ltI (by omega) (by omega) (a := n) (b := 6)).mpr hn6) c_6

set_option maxHeartbeats 4000000 in
set_option maxRecDepth 100000 in
theorem m_X1_copyFrom (l : Launch) {D : va_G} {cI cJ cB : ClassId} {t0 z : Nat} {tx ad : Nat → Nat} {L : List Nat} {E : Nat → va_E} {fb a : Nat} (ha : ad fb = a) (h10 : 10 ≤ fb) (hLm : ∀ k, fb ≤ k → k < fb + 14 → k ∈ L) {n T : Nat} (hn6 : n ≤ 6) {Bs Fs : Nat → Nat → Int32} (hFl : fl_at cI cB ad E fb n T Bs Fs) {fo ao : Nat} (hao : ad fo = ao) (hLo : ∀ k, fo ≤ k → k < fo + 14 → k ∈ L) {no To : Nat} (hno : no ≤ 6) {Bo Fo : Nat → Nat → Int32} (hFO : fl_at cI cB ad E fo no To Bo Fo) (hdj : fb + 14 ≤ fo ∨ fo + 14 ≤ fb) (h8 : ∀ i, i < no → Bo i 8 = 0 ∨ Bo i 8 = 1) : Met l yX1_copyFrom wsX1_copyFrom ({ frames := 2, cells := 0, slots := 0, locals := 61 } : Room) (va_Pc [.ref a, .ref ao] (fPre D cI cJ cB t0 z tx ad L E)) (va_Qv (fun (E1 : Nat → va_E) => fl_at cI cB ad E1 fb no To (p_cp Bo Bs no) (p_cp Fo Fs no) ∧ ∀ q : Nat, (q < fb ∨ fb + 14 ≤ q) → E1 q = E q) (fB D z ad L) (fA z)) 0 0 (fA z) := by
  refine f_ofW (cc := cX1_copyFrom) (maxL := 3) (ret := none) (by decide) rfl (Nat.le_of_ble_eq_true rfl) ?_
  intro pr e s m args below meth c Q hx hb hr hml hts hown hlocks hin hG H locs hI hQ ls hl
  have hl : lv_has ls 3 [(0, .ref a), (1, .ref ao)] := hl
  obtain ⟨hFo, hFr, -⟩ := id hFl
  obtain ⟨hGo, hGr, -⟩ := id hFO
  have hFo : E fb = .inr (1, [.ref (ad (fb + 1)), .int (nI n), .int (nI T)]) := hFo
  have hFr : E (fb + 1) = .inl (cB, 6, .inr (.inr (.inr (.inr (fl_row ad fb))))) := hFr
  have hGo : E fo = .inr (1, [.ref (ad (fo + 1)), .int (nI no), .int (nI To)]) := hGo
  have hGr : E (fo + 1) = .inl (cB, 6, .inr (.inr (.inr (.inr (fl_row ad fo))))) := hGr
  refine lv_aload_n hx hb dX1_copyFrom_0 rfl (lv_at hl 0 rfl) ?_
  refine lv_aload_n hx hb dX1_copyFrom_1 rfl (lv_at hl 1 rfl) ?_
  refine f_get (ci := 1) (v := .int (nI no)) (C := RX1) (T := TX1) (N := 3) hx hb hts (by decide +kernel) hown hG.1 hI hao (hLo _ (by omega) (by omega)) hGo rfl 1 (by decide) (hts (.fieldLink RX1 15 "CoracleRace$Fleet" "size" "I") (by decide +kernel)) rfl dX1_copyFrom_2 ?_
  refine f_put (ci := 1) (v := .int (nI no)) (C := RX1) (T := TX1) (N := 3) hx hb hts (by decide +kernel) tyX1 tyX1_ok nmX1 hown hG.1 hI ha (hLm _ (by omega) (by omega)) hFo rfl 1 (by decide) (hts (.fieldLink RX1 15 "CoracleRace$Fleet" "size" "I") (by decide +kernel)) rfl rfl rfl (Nat.le_of_ble_eq_true rfl) dX1_copyFrom_5 (fun E1 H locs hE2 hn3 hI => ?_)
  have hFo : E1 fb = .inr (1, [.ref (ad (fb + 1)), .int (nI no), .int (nI T)]) := hE2
  have hFr : E1 (fb + 1) = .inl (cB, 6, .inr (.inr (.inr (.inr (fl_row ad fb))))) := (hn3 (fb + 1) (by omega)).trans hFr
  have hGo : E1 fo = .inr (1, [.ref (ad (fo + 1)), .int (nI no), .int (nI To)]) := (hn3 fo (by omega)).trans hGo
  have hGr : E1 (fo + 1) = .inl (cB, 6, .inr (.inr (.inr (.inr (fl_row ad fo))))) := (hn3 (fo + 1) (by omega)).trans hGr
  refine lv_aload_n hx hb dX1_copyFrom_8 rfl (lv_at hl 0 rfl) ?_
  refine lv_aload_n hx hb dX1_copyFrom_9 rfl (lv_at hl 1 rfl) ?_
  refine f_get (ci := 1) (v := .int (nI To)) (C := RX1) (T := TX1) (N := 3) hx hb hts (by decide +kernel) hown hG.1 hI hao (hLo _ (by omega) (by omega)) hGo rfl 2 (by decide) (hts (.fieldLink RX1 19 "CoracleRace$Fleet" "tick" "I") (by decide +kernel)) rfl dX1_copyFrom_10 ?_
  refine f_put (ci := 1) (v := .int (nI To)) (C := RX1) (T := TX1) (N := 3) hx hb hts (by decide +kernel) tyX1 tyX1_ok nmX1 hown hG.1 hI ha (hLm _ (by omega) (by omega)) hFo rfl 2 (by decide) (hts (.fieldLink RX1 19 "CoracleRace$Fleet" "tick" "I") (by decide +kernel)) rfl rfl rfl (Nat.le_of_ble_eq_true rfl) dX1_copyFrom_13 (fun E4 H locs hE5 hn6 hI => ?_)
  have hFo : E4 fb = .inr (1, [.ref (ad (fb + 1)), .int (nI no), .int (nI To)]) := hE5
  have hFr : E4 (fb + 1) = .inl (cB, 6, .inr (.inr (.inr (.inr (fl_row ad fb))))) := (hn6 (fb + 1) (by omega)).trans hFr
  have hGo : E4 fo = .inr (1, [.ref (ad (fo + 1)), .int (nI no), .int (nI To)]) := (hn6 fo (by omega)).trans hGo
  have hGr : E4 (fo + 1) = .inl (cB, 6, .inr (.inr (.inr (.inr (fl_row ad fo))))) := (hn6 (fo + 1) (by omega)).trans hGr
  have hnL : ∀ q : Nat, q ≠ fb → E4 q = E q := fun q hq => (hn6 q hq).trans (hn3 q hq)
  refine lv_iconst (v := 0) hx hb dX1_copyFrom_16 (by decide) ?_
  refine lv_istore_n (lv' := [(2, .int 0), (0, .ref a), (1, .ref ao)]) hx hb dX1_copyFrom_17 rfl hl (by decide) rfl (fun ls hl => ?_)
  have Kih : ∀ (k i : Nat), i ≤ no → no + 1 ≤ i + k → ∀ (Ea : Nat → va_E) (H : Heap) (locs : List Loc) (ls : Array Slot), (fl_at cI cB ad Ea fb no To (p_cp Bo Bs i) (p_cp Fo Fs i)) → (∀ q : Nat, (q < fb ∨ fb + 14 ≤ q) → Ea q = E q) → fI D (fA z) s.heap ad L Ea H locs → lv_has ls 3 [(0, .ref a), (1, .ref ao), (2, .int (nI i))] → W pr l e ({ frames := 2, cells := 0, slots := 0, locals := 61 } : Room) s m args below meth c H locs 0 0 Q (F0 m 18 ls []) := by
    intro k
    induction k with
    | zero => intro i h1 h2; exact absurd h2 (by omega)
    | succ k ih =>
      intro i hi1i hi2i Ea H locs ls hFl hfr hI hl
      obtain ⟨hFo, hFr, -⟩ := id hFl
      have hFO : fl_at cI cB ad Ea fo no To Bo Fo := hFO.kept (fun q h1 h2 => hfr q (by omega))
      obtain ⟨hGo, hGr, -⟩ := id hFO
      refine lv_iload_n hx hb dX1_copyFrom_18 rfl (lv_at hl 2 rfl) ?_
      refine lv_aload_n hx hb dX1_copyFrom_19 rfl (lv_at hl 0 rfl) ?_
      refine f_get (ci := 1) (v := .int (nI no)) (C := RX1) (T := TX1) (N := 3) hx hb hts (by decide +kernel) hown hG.1 hI ha (hLm _ (by omega) (by omega)) hFo rfl 1 (by decide) (hts (.fieldLink RX1 15 "CoracleRace$Fleet" "size" "I") (by decide +kernel)) rfl dX1_copyFrom_20 ?_
      refine lv_icmp_ge (tgt := 47) hx hb dX1_copyFrom_23 (by decide) (fun c_23 => ?_) (fun c_23 => ?_)
      · have n_23 := i_nlt.mpr c_23
        have hi : i = no := by have := (nI_leI (by omega) (by omega)).mp c_23; omega
        exact f_retv hQ hx hb hr hlocks hI.2.2 (by omega) (by omega) dX1_copyFrom_47 Ea (fB_of hI) (⟨by rw [hi] at hFl; exact hFl, hfr⟩)
      · have n_23 := c_23
        have c_23 := i_nle.mp n_23
        have hi : i < no := (nI_ltI (by omega) (by omega)).mp c_23
        have hcl : (nI i).toNatClampNeg = i := nI_clamp (by omega)
        obtain ⟨hCi, hFi⟩ := hFl.2.2 i (by omega)
        have hCi : Ea (fb + 2 + 2 * i) = .inr (0, [.ref (ad ((fb + 2 + 2 * i) + 1)), .int ((p_cp Bo Bs i) i 1), .int ((p_cp Bo Bs i) i 2), .int ((p_cp Bo Bs i) i 3), .int ((p_cp Bo Bs i) i 4), .int ((p_cp Bo Bs i) i 5), .int ((p_cp Bo Bs i) i 6), .int ((p_cp Bo Bs i) i 7), .int ((p_cp Bo Bs i) i 8), .int ((p_cp Bo Bs i) i 9), .int ((p_cp Bo Bs i) i 10), .int ((p_cp Bo Bs i) i 11)]) := hCi
        obtain ⟨hCo, hFoi⟩ := hFO.2.2 i (by omega)
        refine lv_aload_n hx hb dX1_copyFrom_26 rfl (lv_at hl 0 rfl) ?_
        refine f_get (ci := 1) (v := .ref (ad (fb + 1))) (C := RX1) (T := TX1) (N := 3) hx hb hts (by decide +kernel) hown hG.1 hI ha (hLm _ (by omega) (by omega)) hFo rfl 0 (by decide) (hts (.fieldLink RX1 11 "CoracleRace$Fleet" "boats" "[LCoracleRace$Boat;") (by decide +kernel)) rfl dX1_copyFrom_27 ?_
        refine lv_iload_n hx hb dX1_copyFrom_30 rfl (lv_at hl 2 rfl) ?_
        refine f_aldq hx hb hG.1 hI rfl (hLm _ (by omega) (by omega)) hFr (vp_in_nI (by omega) (by omega)) (v := .ref (ad (fb + 2 + 2 * i))) (by rw [hcl]; exact fl_row_at (by omega)) dX1_copyFrom_31 ?_
        refine lv_aload_n hx hb dX1_copyFrom_32 rfl (lv_at hl 1 rfl) ?_
        refine f_get (ci := 1) (v := .ref (ad (fo + 1))) (C := RX1) (T := TX1) (N := 3) hx hb hts (by decide +kernel) hown hG.1 hI hao (hLo _ (by omega) (by omega)) hGo rfl 0 (by decide) (hts (.fieldLink RX1 11 "CoracleRace$Fleet" "boats" "[LCoracleRace$Boat;") (by decide +kernel)) rfl dX1_copyFrom_33 ?_
        refine lv_iload_n hx hb dX1_copyFrom_36 rfl (lv_at hl 2 rfl) ?_
        refine f_aldq hx hb hG.1 hI rfl (hLo _ (by omega) (by omega)) hGr (vp_in_nI (by omega) (by omega)) (v := .ref (ad (fo + 2 + 2 * i))) (by rw [hcl]; exact fl_row_at (by omega)) dX1_copyFrom_37 ?_
        refine f_callv1 (va_runV (As := [.ref (ad (fo + 2 + 2 * i))]) (rest := []) ⟨hx, hb, hml, hown, hts⟩ (m_X0_copyFrom l rfl (hLm _ (by omega) (by omega)) (b := p_cp Bo Bs i i) hCi (hLm _ (by omega) (by omega)) hFi rfl (hLo _ (by omega) (by omega)) (o := Bo i) hCo (hLo _ (by omega) (by omega)) hFoi (by omega) (h8 i (by omega))) (cwV 1 hts gX1_copyFrom_X0_copyFrom rfl rfl rfl (by decide +kernel) ⟨Nat.le_of_ble_eq_true rfl, Nat.le_of_ble_eq_true rfl⟩) (fPre_ofV hG hI rfl (hLm _ (by omega) (by omega)) hCi rfl rfl) rfl rfl hl.1 rfl (lv_room (Nat.le_of_ble_eq_true rfl)) dX1_copyFrom_38 ⟨Nat.le_of_ble_eq_true rfl, Nat.le_of_ble_eq_true rfl⟩) hI (fun E7 H locs hp hI => ?_)
        obtain ⟨hE9, hF9, hn9⟩ := hp
        have hFl := hFl.boat (by omega) hE9 hF9 hn9
        rw [p_cp_s, p_cp_s] at hFl
        have hfr : ∀ q : Nat, (q < fb ∨ fb + 14 ≤ q) → E7 q = E q := fun q hq => (hn9 q (by omega)).trans (hfr q hq)
        refine lv_iinc (v := (nI (i + 1))) (lv' := [(2, .int (nI (i + 1))), (0, .ref a), (1, .ref ao)]) hx hb dX1_copyFrom_41 hl (k := 2) rfl (nI_1 i) (by decide) rfl (fun ls hl => ?_)
        refine lv_goto (tgt := 18) hx hb dX1_copyFrom_44 (by decide) ?_
        exact ih (i + 1) (by omega) (by omega) E7 H locs ls hFl hfr hI (lv_sub hl [1, 2, 0] rfl)
  have hFl := hFl.top (n1 := no) (T1 := To) hFo hnL
  exact Kih (no + 1) 0 (Nat.zero_le _) (by omega) E4 H locs ls (by rw [p_cp_0, p_cp_0]; exact hFl) (fun q hq => hnL q (by omega)) hI (lv_sub hl [1, 2, 0] rfl)
