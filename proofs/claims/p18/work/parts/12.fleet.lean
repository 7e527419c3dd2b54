set_option maxHeartbeats 4000000 in
set_option maxRecDepth 100000 in
theorem m_X2_hasWeirAt (l : Launch) {D : va_G} {cI cJ cB : ClassId} {t0 z : Nat} {tx ad : Nat → Nat} {L : List Nat} {E : Nat → va_E} {w p g : Nat → Int32} {n : Nat} (hn : n ≤ 6) (hr1 : 1 ∈ L) (hr2 : 2 ∈ L) (hr3 : 3 ∈ L) (hr4 : 4 ∈ L) (hR : E 1 = rE ad n) (hRw : E 2 = .inl (cI, 5, .inl w)) (hRp : E 3 = .inl (cI, 6, .inl p)) (hRg : E 4 = .inl (cI, 6, .inl g)) (x : Int32) : Met l yX2_hasWeirAt wsX2_hasWeirAt ({ frames := 0, cells := 0, slots := 0, locals := 0 } : Room) (va_Pc [.ref (ad 1), .int x] (fPre D cI cJ cB t0 z tx ad L E)) (va_Qi (fun (r : Int32) (E1 : Nat → va_E) => r = p_has p x n ∧ E1 = E) (fB D z ad L) (fA z)) 0 0 (fA z) := by
  refine f_ofW (cc := cX2_hasWeirAt) (maxL := 3) (ret := some .boolean) (by decide) rfl (Nat.le_of_ble_eq_true rfl) ?_
  intro pr e s m args below meth c Q hx hb hr hml hts hown hlocks hin hG H locs hI hQ ls hl
  have hl : lv_has ls 3 [(0, .ref (ad 1)), (1, .int x)] := hl
  have hR : E 1 = .inr (2, [.ref (ad 2), .ref (ad 3), .ref (ad 4), .int (nI n)]) := hR
  have hRw : E 2 = .inl (cI, 5, .inl w) := hRw
  have hRp : E 3 = .inl (cI, 6, .inl p) := hRp
  have hRg : E 4 = .inl (cI, 6, .inl g) := hRg
  refine lv_iconst (v := 0) hx hb dX2_hasWeirAt_0 (by decide) ?_
  refine lv_istore_n (lv' := [(2, .int 0), (0, .ref (ad 1)), (1, .int x)]) hx hb dX2_hasWeirAt_1 rfl hl (by decide) rfl (fun ls hl => ?_)
  have K : ∀ (k i : Nat), i ≤ n → n + 1 ≤ i + k → p_has p x i = 0 → ∀ (H : Heap) (locs : List Loc) (ls : Array Slot), fI D (fA z) s.heap ad L E H locs → lv_has ls 3 [(0, .ref (ad 1)), (1, .int x), (2, .int (nI i))] → W pr l e ({ frames := 0, cells := 0, slots := 0, locals := 0 } : Room) s m args below meth c H locs 0 0 Q (F0 m 2 ls []) := by
    intro k
    induction k with
    | zero => intro i h1 h2; exact absurd h2 (by omega)
    | succ k ih =>
      intro i hi1 hi2 hv H locs ls hI hl
      refine lv_iload_n hx hb dX2_hasWeirAt_2 rfl (lv_at hl 2 rfl) ?_
      refine lv_aload_n hx hb dX2_hasWeirAt_3 rfl (lv_at hl 0 rfl) ?_
      refine f_get (ci := 2) (v := .int (nI n)) (C := RX2) (T := TX2) (N := 4) hx hb hts (by decide +kernel) hown hG.1 hI rfl hr1 hR rfl 3 (by decide) (hts (.fieldLink RX2 19 "CoracleRace$River" "weirs" "I") (by decide +kernel)) rfl dX2_hasWeirAt_4 ?_
      refine lv_icmp_ge (tgt := 28) hx hb dX2_hasWeirAt_7 (by decide) (fun c_7 => ?_) (fun c_7 => ?_)
      · have n_7 := i_nlt.mpr c_7
        have hi : i = n := by have := (nI_leI (by omega) (by omega)).mp c_7; omega
        refine lv_iconst (v := 0) hx hb dX2_hasWeirAt_28 (by decide) ?_
        exact f_retz hQ hx hb hr hlocks hI.2.2 (by omega) (by omega) dX2_hasWeirAt_29 rfl E (fB_of hI) (⟨by rw [← hi, hv], rfl⟩)
      · have n_7 := c_7
        have c_7 := i_nle.mp n_7
        have hi : i < n := (nI_ltI (by omega) (by omega)).mp c_7
        have hcl : (nI i).toNatClampNeg = i := nI_clamp (by omega)
        refine lv_aload_n hx hb dX2_hasWeirAt_10 rfl (lv_at hl 0 rfl) ?_
        refine f_get (ci := 2) (v := .ref (ad 3)) (C := RX2) (T := TX2) (N := 4) hx hb hts (by decide +kernel) hown hG.1 hI rfl hr1 hR rfl 1 (by decide) (hts (.fieldLink RX2 13 "CoracleRace$River" "places" "[I") (by decide +kernel)) rfl dX2_hasWeirAt_11 ?_
        refine lv_iload_n hx hb dX2_hasWeirAt_14 rfl (lv_at hl 2 rfl) ?_
        refine f_iald hx hb hG.1 hI rfl hr3 hRp (vp_in_nI (by omega) (by omega)) dX2_hasWeirAt_15 ?_
        rw [hcl]
        refine lv_iload_n hx hb dX2_hasWeirAt_16 rfl (lv_at hl 1 rfl) ?_
        refine lv_icmp_ne (tgt := 22) hx hb dX2_hasWeirAt_17 (by decide) (fun c_17 => ?_) (fun c_17 => ?_)
        · refine lv_iinc (v := (nI (i + 1))) (lv' := [(2, .int (nI (i + 1))), (0, .ref (ad 1)), (1, .int x)]) hx hb dX2_hasWeirAt_22 hl (k := 2) rfl (nI_1 i) (by decide) rfl (fun ls hl => ?_)
          refine lv_goto (tgt := 2) hx hb dX2_hasWeirAt_25 (by decide) ?_
          refine ih (i + 1) (by omega) (by omega) (by rw [p_has, if_neg]; simp [hv, c_17]) H locs ls hI ?_
          exact lv_sub hl [1, 2, 0] rfl
        · refine lv_iconst (v := 1) hx hb dX2_hasWeirAt_20 (by decide) ?_
          exact f_retz hQ hx hb hr hlocks hI.2.2 (by omega) (by omega) dX2_hasWeirAt_21 rfl E (fB_of hI) (⟨(p_has_yes hi c_17).symm, rfl⟩)
  exact K (n + 1) 0 (Nat.zero_le _) (by omega) rfl H locs ls hI (lv_sub hl [1, 2, 0] rfl)

set_option maxHeartbeats 4000000 in
set_option maxRecDepth 100000 in
theorem m_X2_addWeir (l : Launch) {D : va_G} {cI cJ cB : ClassId} {t0 z : Nat} {tx ad : Nat → Nat} {L : List Nat} {E : Nat → va_E} {w p g : Nat → Int32} {n : Nat} (hn : n < 6) (hr1 : 1 ∈ L) (hr2 : 2 ∈ L) (hr3 : 3 ∈ L) (hr4 : 4 ∈ L) (hR : E 1 = rE ad n) (hRw : E 2 = .inl (cI, 5, .inl w)) (hRp : E 3 = .inl (cI, 6, .inl p)) (hRg : E 4 = .inl (cI, 6, .inl g)) (x y : Int32) : Met l yX2_addWeir wsX2_addWeir ({ frames := 0, cells := 0, slots := 0, locals := 0 } : Room) (va_Pc [.ref (ad 1), .int x, .int y] (fPre D cI cJ cB t0 z tx ad L E)) (va_Qv (fun (E1 : Nat → va_E) => E1 1 = rE ad (n + 1) ∧ E1 3 = .inl (cI, 6, .inl (upd p n x)) ∧ E1 4 = .inl (cI, 6, .inl (upd g n y)) ∧ ∀ q, q ≠ 1 ∧ q ≠ 3 ∧ q ≠ 4 → E1 q = E q) (fB D z ad L) (fA z)) 0 0 (fA z) := by
  refine f_ofW (cc := cX2_addWeir) (maxL := 3) (ret := none) (by decide) rfl (Nat.le_of_ble_eq_true rfl) ?_
  intro pr e s m args below meth c Q hx hb hr hml hts hown hlocks hin hG H locs hI hQ ls hl
  have hl : lv_has ls 3 [(0, .ref (ad 1)), (1, .int x), (2, .int y)] := hl
  have hfr : ∀ q : Nat, q ≠ 1 ∧ q ≠ 3 ∧ q ≠ 4 → E q = E q := fun _ _ => rfl
  have hR : E 1 = .inr (2, [.ref (ad 2), .ref (ad 3), .ref (ad 4), .int (nI n)]) := hR
  have hRw : E 2 = .inl (cI, 5, .inl w) := hRw
  have hRp : E 3 = .inl (cI, 6, .inl p) := hRp
  have hRg : E 4 = .inl (cI, 6, .inl g) := hRg
  refine lv_aload_n hx hb dX2_addWeir_0 rfl (lv_at hl 0 rfl) ?_
  refine f_get (ci := 2) (v := .int (nI n)) (C := RX2) (T := TX2) (N := 4) hx hb hts (by decide +kernel) hown hG.1 hI rfl hr1 hR rfl 3 (by decide) (hts (.fieldLink RX2 19 "CoracleRace$River" "weirs" "I") (by decide +kernel)) rfl dX2_addWeir_1 ?_
  refine lv_bipush (v := 6) hx hb dX2_addWeir_4 (by decide) ?_
  refine lv_icmp_ge (tgt := 39) hx hb dX2_addWeir_6 (by decide) (fun c_6 => ?_) (fun c_6 => ?_)
  · exact absurd ((nI_leI (by omega) (by omega) (a := 6) (b := n)).mp c_6) (by omega)
  · have n_6 := c_6
    have c_6 := i_nle.mp n_6
    refine lv_aload_n hx hb dX2_addWeir_9 rfl (lv_at hl 0 rfl) ?_
    refine f_get (ci := 2) (v := .ref (ad 3)) (C := RX2) (T := TX2) (N := 4) hx hb hts (by decide +kernel) hown hG.1 hI rfl hr1 hR rfl 1 (by decide) (hts (.fieldLink RX2 13 "CoracleRace$River" "places" "[I") (by decide +kernel)) rfl dX2_addWeir_10 ?_
    refine lv_aload_n hx hb dX2_addWeir_13 rfl (lv_at hl 0 rfl) ?_
    refine f_get (ci := 2) (v := .int (nI n)) (C := RX2) (T := TX2) (N := 4) hx hb hts (by decide +kernel) hown hG.1 hI rfl hr1 hR rfl 3 (by decide) (hts (.fieldLink RX2 19 "CoracleRace$River" "weirs" "I") (by decide +kernel)) rfl dX2_addWeir_14 ?_
    refine lv_iload_n hx hb dX2_addWeir_17 rfl (lv_at hl 1 rfl) ?_
    refine f_iast hx hb hG.1 hI rfl hr3 hRp (vp_in_nI (by omega) (by omega)) dX2_addWeir_18 (fun E1 H locs hE2 hn3 hI => ?_)
    have hRp : E1 3 = .inl (cI, 6, .inl (upd p n x)) := (by rw [nI_clamp (by omega)] at hE2; exact hE2)
    have hR : E1 1 = .inr (2, [.ref (ad 2), .ref (ad 3), .ref (ad 4), .int (nI n)]) := (hn3 1 (by omega)).trans hR
    have hRw : E1 2 = .inl (cI, 5, .inl w) := (hn3 2 (by omega)).trans hRw
    have hRg : E1 4 = .inl (cI, 6, .inl g) := (hn3 4 (by omega)).trans hRg
    have hfr : ∀ q : Nat, q ≠ 1 ∧ q ≠ 3 ∧ q ≠ 4 → E1 q = E q := fun q hq => (hn3 q (by omega)).trans (hfr q hq)
    refine lv_aload_n hx hb dX2_addWeir_19 rfl (lv_at hl 0 rfl) ?_
    refine f_get (ci := 2) (v := .ref (ad 4)) (C := RX2) (T := TX2) (N := 4) hx hb hts (by decide +kernel) hown hG.1 hI rfl hr1 hR rfl 2 (by decide) (hts (.fieldLink RX2 16 "CoracleRace$River" "gaps" "[I") (by decide +kernel)) rfl dX2_addWeir_20 ?_
    refine lv_aload_n hx hb dX2_addWeir_23 rfl (lv_at hl 0 rfl) ?_
    refine f_get (ci := 2) (v := .int (nI n)) (C := RX2) (T := TX2) (N := 4) hx hb hts (by decide +kernel) hown hG.1 hI rfl hr1 hR rfl 3 (by decide) (hts (.fieldLink RX2 19 "CoracleRace$River" "weirs" "I") (by decide +kernel)) rfl dX2_addWeir_24 ?_
    refine lv_iload_n hx hb dX2_addWeir_27 rfl (lv_at hl 2 rfl) ?_
    refine f_iast hx hb hG.1 hI rfl hr4 hRg (vp_in_nI (by omega) (by omega)) dX2_addWeir_28 (fun E4 H locs hE5 hn6 hI => ?_)
    have hRg : E4 4 = .inl (cI, 6, .inl (upd g n y)) := (by rw [nI_clamp (by omega)] at hE5; exact hE5)
    have hR : E4 1 = .inr (2, [.ref (ad 2), .ref (ad 3), .ref (ad 4), .int (nI n)]) := (hn6 1 (by omega)).trans hR
    have hRw : E4 2 = .inl (cI, 5, .inl w) := (hn6 2 (by omega)).trans hRw
    have hRp : E4 3 = .inl (cI, 6, .inl (upd p n x)) := (hn6 3 (by omega)).trans hRp
    have hfr : ∀ q : Nat, q ≠ 1 ∧ q ≠ 3 ∧ q ≠ 4 → E4 q = E q := fun q hq => (hn6 q (by omega)).trans (hfr q hq)
    refine lv_aload_n hx hb dX2_addWeir_29 rfl (lv_at hl 0 rfl) ?_
    refine lv_dup hx hb dX2_addWeir_30 rfl ?_
    refine f_get (ci := 2) (v := .int (nI n)) (C := RX2) (T := TX2) (N := 4) hx hb hts (by decide +kernel) hown hG.1 hI rfl hr1 hR rfl 3 (by decide) (hts (.fieldLink RX2 19 "CoracleRace$River" "weirs" "I") (by decide +kernel)) rfl dX2_addWeir_31 ?_
    refine lv_iconst (v := 1) hx hb dX2_addWeir_34 (by decide) ?_
    refine lv_iadd hx hb dX2_addWeir_35 ?_
    refine f_put (ci := 2) (v := .int ((nI n) + 1)) (C := RX2) (T := TX2) (N := 4) hx hb hts (by decide +kernel) tyX2 tyX2_ok nmX2 hown hG.1 hI rfl hr1 hR rfl 3 (by decide) (hts (.fieldLink RX2 19 "CoracleRace$River" "weirs" "I") (by decide +kernel)) rfl rfl rfl (Nat.le_of_ble_eq_true rfl) dX2_addWeir_36 (fun E7 H locs hE8 hn9 hI => ?_)
    have hR : E7 1 = .inr (2, [.ref (ad 2), .ref (ad 3), .ref (ad 4), .int ((nI n) + 1)]) := hE8
    have hRw : E7 2 = .inl (cI, 5, .inl w) := (hn9 2 (by omega)).trans hRw
    have hRp : E7 3 = .inl (cI, 6, .inl (upd p n x)) := (hn9 3 (by omega)).trans hRp
    have hRg : E7 4 = .inl (cI, 6, .inl (upd g n y)) := (hn9 4 (by omega)).trans hRg
    have hfr : ∀ q : Nat, q ≠ 1 ∧ q ≠ 3 ∧ q ≠ 4 → E7 q = E q := fun q hq => (hn9 q (by omega)).trans (hfr q hq)
    exact f_retv hQ hx hb hr hlocks hI.2.2 (by omega) (by omega) dX2_addWeir_39 E7 (fB_of hI) (⟨by rw [hR, nI_1], hRp, hRg, hfr⟩)

set_option maxHeartbeats 4000000 in
set_option maxRecDepth 100000 in
theorem m_X1_has (l : Launch) {D : va_G} {cI cJ cB : ClassId} {t0 z : Nat} {tx ad : Nat → Nat} {L : List Nat} {E : Nat → va_E} {fb a : Nat} (ha : ad fb = a) (h10 : 10 ≤ fb) (hLm : ∀ k, fb ≤ k → k < fb + 14 → k ∈ L) {n T : Nat} (hn6 : n ≤ 6) {Bs Fs : Nat → Nat → Int32} (hFl : fl_at cI cB ad E fb n T Bs Fs) (x : Int32) : Met l yX1_has wsX1_has ({ frames := 0, cells := 0, slots := 0, locals := 0 } : Room) (va_Pc [.ref a, .int x] (fPre D cI cJ cB t0 z tx ad L E)) (va_Qi (fun (r : Int32) (E1 : Nat → va_E) => r = (if 0 ≤ x ∧ x < nI n then 1 else 0) ∧ E1 = E) (fB D z ad L) (fA z)) 0 0 (fA z) := by
  refine f_ofW (cc := cX1_has) (maxL := 2) (ret := some .boolean) (by decide) rfl (Nat.le_of_ble_eq_true rfl) ?_
  intro pr e s m args below meth c Q hx hb hr hml hts hown hlocks hin hG H locs hI hQ ls hl
  have hl : lv_has ls 2 [(0, .ref a), (1, .int x)] := hl
  obtain ⟨hFo, hFr, -⟩ := id hFl
  have hFo : E fb = .inr (1, [.ref (ad (fb + 1)), .int (nI n), .int (nI T)]) := hFo
  have hFr : E (fb + 1) = .inl (cB, 6, .inr (.inr (.inr (.inr (fl_row ad fb))))) := hFr
  refine lv_iload_n hx hb dX1_has_0 rfl (lv_at hl 1 rfl) ?_
  refine lv_if_lt (tgt := 16) hx hb dX1_has_1 (by decide) (fun c_1 => ?_) (fun c_1 => ?_)
  · have n_1 := i_nle.mpr c_1
    refine lv_iconst (v := 0) hx hb dX1_has_16 (by decide) ?_
    exact f_retz hQ hx hb hr hlocks hI.2.2 (by omega) (by omega) dX1_has_17 rfl E (fB_of hI) (⟨by simp [c_1, n_1], rfl⟩)
  · have n_1 := c_1
    have c_1 := i_nlt.mp n_1
    refine lv_iload_n hx hb dX1_has_4 rfl (lv_at hl 1 rfl) ?_
    refine lv_aload_n hx hb dX1_has_5 rfl (lv_at hl 0 rfl) ?_
    refine f_get (ci := 1) (v := .int (nI n)) (C := RX1) (T := TX1) (N := 3) hx hb hts (by decide +kernel) hown hG.1 hI ha (hLm _ (by omega) (by omega)) hFo rfl 1 (by decide) (hts (.fieldLink RX1 15 "CoracleRace$Fleet" "size" "I") (by decide +kernel)) rfl dX1_has_6 ?_
    refine lv_icmp_ge (tgt := 16) hx hb dX1_has_9 (by decide) (fun c_9 => ?_) (fun c_9 => ?_)
    · have n_9 := i_nlt.mpr c_9
      refine lv_iconst (v := 0) hx hb dX1_has_16 (by decide) ?_
      exact f_retz hQ hx hb hr hlocks hI.2.2 (by omega) (by omega) dX1_has_17 rfl E (fB_of hI) (⟨by simp [c_1, n_1, c_9, n_9], rfl⟩)
    · have n_9 := c_9
      have c_9 := i_nle.mp n_9
      refine lv_iconst (v := 1) hx hb dX1_has_12 (by decide) ?_
      refine lv_goto (tgt := 17) hx hb dX1_has_13 (by decide) ?_
      exact f_retz hQ hx hb hr hlocks hI.2.2 (by omega) (by omega) dX1_has_17 rfl E (fB_of hI) (⟨by simp [c_1, n_1, c_9, n_9], rfl⟩)

set_option maxHeartbeats 4000000 in
set_option maxRecDepth 100000 in
theorem m_X1_boatsIn (l : Launch) {D : va_G} {cI cJ cB : ClassId} {t0 z : Nat} {tx ad : Nat → Nat} {L : List Nat} {E : Nat → va_E} {fb a : Nat} (ha : ad fb = a) (h10 : 10 ≤ fb) (hLm : ∀ k, fb ≤ k → k < fb + 14 → k ∈ L) {n T : Nat} (hn6 : n ≤ 6) {Bs Fs : Nat → Nat → Int32} (hFl : fl_at cI cB ad E fb n T Bs Fs) (h8 : ∀ i, i < n → Bs i 8 = 0 ∨ Bs i 8 = 1) : Met l yX1_boatsIn wsX1_boatsIn ({ frames := 1, cells := 0, slots := 0, locals := 20 } : Room) (va_Pc [.ref a] (fPre D cI cJ cB t0 z tx ad L E)) (va_Qi (fun (r : Int32) (E1 : Nat → va_E) => r = p_in Bs n ∧ E1 = E) (fB D z ad L) (fA z)) 0 0 (fA z) := by
  refine f_ofW (cc := cX1_boatsIn) (maxL := 3) (ret := some .int) (by decide) rfl (Nat.le_of_ble_eq_true rfl) ?_
  intro pr e s m args below meth c Q hx hb hr hml hts hown hlocks hin hG H locs hI hQ ls hl
  have hl : lv_has ls 3 [(0, .ref a)] := hl
  obtain ⟨hFo, hFr, -⟩ := id hFl
  have hFo : E fb = .inr (1, [.ref (ad (fb + 1)), .int (nI n), .int (nI T)]) := hFo
  have hFr : E (fb + 1) = .inl (cB, 6, .inr (.inr (.inr (.inr (fl_row ad fb))))) := hFr
  refine lv_iconst (v := 0) hx hb dX1_boatsIn_0 (by decide) ?_
  refine lv_istore_n (lv' := [(1, .int 0), (0, .ref a)]) hx hb dX1_boatsIn_1 rfl hl (by decide) rfl (fun ls hl => ?_)
  refine lv_iconst (v := 0) hx hb dX1_boatsIn_2 (by decide) ?_
  refine lv_istore_n (lv' := [(2, .int 0), (1, .int 0), (0, .ref a)]) hx hb dX1_boatsIn_3 rfl hl (by decide) rfl (fun ls hl => ?_)
  have K : ∀ (k i : Nat), i ≤ n → n + 1 ≤ i + k → ∀ (H : Heap) (locs : List Loc) (ls : Array Slot), fI D (fA z) s.heap ad L E H locs → lv_has ls 3 [(0, .ref a), (1, .int (p_in Bs i)), (2, .int (nI i))] → W pr l e ({ frames := 1, cells := 0, slots := 0, locals := 20 } : Room) s m args below meth c H locs 0 0 Q (F0 m 4 ls []) := by
    intro k
    induction k with
    | zero => intro i h1 h2; exact absurd h2 (by omega)
    | succ k ih =>
      intro i hi1 hi2 H locs ls hI hl
      refine lv_iload_n hx hb dX1_boatsIn_4 rfl (lv_at hl 2 rfl) ?_
      refine lv_aload_n hx hb dX1_boatsIn_5 rfl (lv_at hl 0 rfl) ?_
      refine f_get (ci := 1) (v := .int (nI n)) (C := RX1) (T := TX1) (N := 3) hx hb hts (by decide +kernel) hown hG.1 hI ha (hLm _ (by omega) (by omega)) hFo rfl 1 (by decide) (hts (.fieldLink RX1 15 "CoracleRace$Fleet" "size" "I") (by decide +kernel)) rfl dX1_boatsIn_6 ?_
      refine lv_icmp_ge (tgt := 33) hx hb dX1_boatsIn_9 (by decide) (fun c_9 => ?_) (fun c_9 => ?_)
      · have n_9 := i_nlt.mpr c_9
        have hi : i = n := by have := (nI_leI (by omega) (by omega)).mp c_9; omega
        refine lv_iload_n hx hb dX1_boatsIn_33 rfl (lv_at hl 1 rfl) ?_
        exact f_reti hQ hx hb hr hlocks hI.2.2 (by omega) (by omega) dX1_boatsIn_34 E (fB_of hI) (⟨by rw [hi], rfl⟩)
      · have n_9 := c_9
        have c_9 := i_nle.mp n_9
        have hi : i < n := (nI_ltI (by omega) (by omega)).mp c_9
        have hcl : (nI i).toNatClampNeg = i := nI_clamp (by omega)
        obtain ⟨hCi, hFi⟩ := hFl.2.2 i (by omega)
        have hCi : E (fb + 2 + 2 * i) = .inr (0, [.ref (ad ((fb + 2 + 2 * i) + 1)), .int (Bs i 1), .int (Bs i 2), .int (Bs i 3), .int (Bs i 4), .int (Bs i 5), .int (Bs i 6), .int (Bs i 7), .int (Bs i 8), .int (Bs i 9), .int (Bs i 10), .int (Bs i 11)]) := hCi
        refine lv_aload_n hx hb dX1_boatsIn_12 rfl (lv_at hl 0 rfl) ?_
        refine f_get (ci := 1) (v := .ref (ad (fb + 1))) (C := RX1) (T := TX1) (N := 3) hx hb hts (by decide +kernel) hown hG.1 hI ha (hLm _ (by omega) (by omega)) hFo rfl 0 (by decide) (hts (.fieldLink RX1 11 "CoracleRace$Fleet" "boats" "[LCoracleRace$Boat;") (by decide +kernel)) rfl dX1_boatsIn_13 ?_
        refine lv_iload_n hx hb dX1_boatsIn_16 rfl (lv_at hl 2 rfl) ?_
        refine f_aldq hx hb hG.1 hI rfl (hLm _ (by omega) (by omega)) hFr (vp_in_nI (by omega) (by omega)) (v := .ref (ad (fb + 2 + 2 * i))) (by rw [hcl]; exact fl_row_at (by omega)) dX1_boatsIn_17 ?_
        refine f_calli1 (va_runV (As := []) (rest := []) ⟨hx, hb, hml, hown, hts⟩ (m_X0_isIn l rfl (hLm _ (by omega) (by omega)) (b := Bs i) hCi (h8 i (by omega))) (cwV 0 hts gX1_boatsIn_X0_isIn rfl rfl rfl (by decide +kernel) ⟨Nat.le_of_ble_eq_true rfl, Nat.le_of_ble_eq_true rfl⟩) (fPre_ofV hG hI rfl (hLm _ (by omega) (by omega)) hCi rfl rfl) rfl rfl hl.1 rfl (lv_room (Nat.le_of_ble_eq_true rfl)) dX1_boatsIn_18 ⟨Nat.le_of_ble_eq_true rfl, Nat.le_of_ble_eq_true rfl⟩) hI (fun r1 E2 H locs hp hI => ?_)
        obtain ⟨he, hq⟩ := hp
        rw [hq] at hI
        have he : r1 = (Bs i 8) := he
        subst he
        refine lv_if_eq (tgt := 27) hx hb dX1_boatsIn_21 (by decide) (fun c_21 => ?_) (fun c_21 => ?_)
        · refine lv_iinc (v := (nI (i + 1))) (lv' := [(2, .int (nI (i + 1))), (0, .ref a), (1, .int (p_in Bs i))]) hx hb dX1_boatsIn_27 hl (k := 2) rfl (nI_1 i) (by decide) rfl (fun ls hl => ?_)
          refine lv_goto (tgt := 4) hx hb dX1_boatsIn_30 (by decide) ?_
          refine ih (i + 1) (by omega) (by omega) H locs ls hI ?_
          rw [show p_in Bs (i + 1) = (p_in Bs i) by first | rfl | (rw [p_in]; simp [c_9, n_9, c_21]; done)]
          exact lv_sub hl [1, 2, 0] rfl
        · refine lv_iinc (v := (p_in Bs i) + 1) (lv' := [(1, .int ((p_in Bs i) + 1)), (0, .ref a), (2, .int (nI i))]) hx hb dX1_boatsIn_24 hl (k := 1) rfl rfl (by decide) rfl (fun ls hl => ?_)
          refine lv_iinc (v := (nI (i + 1))) (lv' := [(2, .int (nI (i + 1))), (1, .int ((p_in Bs i) + 1)), (0, .ref a)]) hx hb dX1_boatsIn_27 hl (k := 2) rfl (nI_1 i) (by decide) rfl (fun ls hl => ?_)
          refine lv_goto (tgt := 4) hx hb dX1_boatsIn_30 (by decide) ?_
          refine ih (i + 1) (by omega) (by omega) H locs ls hI ?_
          rw [show p_in Bs (i + 1) = (p_in Bs i) + 1 by first | rfl | (rw [p_in]; simp [c_9, n_9, c_21]; done)]
          exact lv_sub hl [2, 1, 0] rfl
  exact K (n + 1) 0 (Nat.zero_le _) (by omega) H locs ls hI (lv_sub hl [2, 1, 0] rfl)

set_option maxHeartbeats 4000000 in
set_option maxRecDepth 100000 in
theorem m_X1_foulsAdded (l : Launch) {D : va_G} {cI cJ cB : ClassId} {t0 z : Nat} {tx ad : Nat → Nat} {L : List Nat} {E : Nat → va_E} {fb a : Nat} (ha : ad fb = a) (h10 : 10 ≤ fb) (hLm : ∀ k, fb ≤ k → k < fb + 14 → k ∈ L) {n T : Nat} (hn6 : n ≤ 6) {Bs Fs : Nat → Nat → Int32} (hFl : fl_at cI cB ad E fb n T Bs Fs) : Met l yX1_foulsAdded wsX1_foulsAdded ({ frames := 0, cells := 0, slots := 0, locals := 0 } : Room) (va_Pc [.ref a] (fPre D cI cJ cB t0 z tx ad L E)) (va_Qi (fun (r : Int32) (E1 : Nat → va_E) => r = p_fsum Bs n ∧ E1 = E) (fB D z ad L) (fA z)) 0 0 (fA z) := by
  refine f_ofW (cc := cX1_foulsAdded) (maxL := 3) (ret := some .int) (by decide) rfl (Nat.le_of_ble_eq_true rfl) ?_
  intro pr e s m args below meth c Q hx hb hr hml hts hown hlocks hin hG H locs hI hQ ls hl
  have hl : lv_has ls 3 [(0, .ref a)] := hl
  obtain ⟨hFo, hFr, -⟩ := id hFl
  have hFo : E fb = .inr (1, [.ref (ad (fb + 1)), .int (nI n), .int (nI T)]) := hFo
  have hFr : E (fb + 1) = .inl (cB, 6, .inr (.inr (.inr (.inr (fl_row ad fb))))) := hFr
  refine lv_iconst (v := 0) hx hb dX1_foulsAdded_0 (by decide) ?_
  refine lv_istore_n (lv' := [(1, .int 0), (0, .ref a)]) hx hb dX1_foulsAdded_1 rfl hl (by decide) rfl (fun ls hl => ?_)
  refine lv_iconst (v := 0) hx hb dX1_foulsAdded_2 (by decide) ?_
  refine lv_istore_n (lv' := [(2, .int 0), (1, .int 0), (0, .ref a)]) hx hb dX1_foulsAdded_3 rfl hl (by decide) rfl (fun ls hl => ?_)
  have K : ∀ (k i : Nat), i ≤ n → n + 1 ≤ i + k → ∀ (H : Heap) (locs : List Loc) (ls : Array Slot), fI D (fA z) s.heap ad L E H locs → lv_has ls 3 [(0, .ref a), (1, .int (p_fsum Bs i)), (2, .int (nI i))] → W pr l e ({ frames := 0, cells := 0, slots := 0, locals := 0 } : Room) s m args below meth c H locs 0 0 Q (F0 m 4 ls []) := by
    intro k
    induction k with
    | zero => intro i h1 h2; exact absurd h2 (by omega)
    | succ k ih =>
      intro i hi1 hi2 H locs ls hI hl
      refine lv_iload_n hx hb dX1_foulsAdded_4 rfl (lv_at hl 2 rfl) ?_
      refine lv_aload_n hx hb dX1_foulsAdded_5 rfl (lv_at hl 0 rfl) ?_
      refine f_get (ci := 1) (v := .int (nI n)) (C := RX1) (T := TX1) (N := 3) hx hb hts (by decide +kernel) hown hG.1 hI ha (hLm _ (by omega) (by omega)) hFo rfl 1 (by decide) (hts (.fieldLink RX1 15 "CoracleRace$Fleet" "size" "I") (by decide +kernel)) rfl dX1_foulsAdded_6 ?_
      refine lv_icmp_ge (tgt := 30) hx hb dX1_foulsAdded_9 (by decide) (fun c_9 => ?_) (fun c_9 => ?_)
      · have n_9 := i_nlt.mpr c_9
        have hi : i = n := by have := (nI_leI (by omega) (by omega)).mp c_9; omega
        refine lv_iload_n hx hb dX1_foulsAdded_30 rfl (lv_at hl 1 rfl) ?_
        exact f_reti hQ hx hb hr hlocks hI.2.2 (by omega) (by omega) dX1_foulsAdded_31 E (fB_of hI) (⟨by rw [hi], rfl⟩)
      · have n_9 := c_9
        have c_9 := i_nle.mp n_9
        have hi : i < n := (nI_ltI (by omega) (by omega)).mp c_9
        have hcl : (nI i).toNatClampNeg = i := nI_clamp (by omega)
        obtain ⟨hCi, hFi⟩ := hFl.2.2 i (by omega)
        have hCi : E (fb + 2 + 2 * i) = .inr (0, [.ref (ad ((fb + 2 + 2 * i) + 1)), .int (Bs i 1), .int (Bs i 2), .int (Bs i 3), .int (Bs i 4), .int (Bs i 5), .int (Bs i 6), .int (Bs i 7), .int (Bs i 8), .int (Bs i 9), .int (Bs i 10), .int (Bs i 11)]) := hCi
        refine lv_iload_n hx hb dX1_foulsAdded_12 rfl (lv_at hl 1 rfl) ?_
        refine lv_aload_n hx hb dX1_foulsAdded_13 rfl (lv_at hl 0 rfl) ?_
        refine f_get (ci := 1) (v := .ref (ad (fb + 1))) (C := RX1) (T := TX1) (N := 3) hx hb hts (by decide +kernel) hown hG.1 hI ha (hLm _ (by omega) (by omega)) hFo rfl 0 (by decide) (hts (.fieldLink RX1 11 "CoracleRace$Fleet" "boats" "[LCoracleRace$Boat;") (by decide +kernel)) rfl dX1_foulsAdded_14 ?_
        refine lv_iload_n hx hb dX1_foulsAdded_17 rfl (lv_at hl 2 rfl) ?_
        refine f_aldq hx hb hG.1 hI rfl (hLm _ (by omega) (by omega)) hFr (vp_in_nI (by omega) (by omega)) (v := .ref (ad (fb + 2 + 2 * i))) (by rw [hcl]; exact fl_row_at (by omega)) dX1_foulsAdded_18 ?_
        refine f_get (ci := 0) (v := .int (Bs i 7)) (C := RX0) (T := TX0) (N := 12) hx hb hts (by decide +kernel) hown hG.1 hI rfl (hLm _ (by omega) (by omega)) hCi rfl 7 (by decide) (hts (.fieldLink RX1 39 "CoracleRace$Boat" "fouls" "I") (by decide +kernel)) rfl dX1_foulsAdded_19 ?_
        refine lv_iadd hx hb dX1_foulsAdded_22 ?_
        refine lv_istore_n (lv' := [(1, .int ((p_fsum Bs i) + (Bs i 7))), (0, .ref a), (2, .int (nI i))]) hx hb dX1_foulsAdded_23 rfl hl (by decide) rfl (fun ls hl => ?_)
        refine lv_iinc (v := (nI (i + 1))) (lv' := [(2, .int (nI (i + 1))), (1, .int ((p_fsum Bs i) + (Bs i 7))), (0, .ref a)]) hx hb dX1_foulsAdded_24 hl (k := 2) rfl (nI_1 i) (by decide) rfl (fun ls hl => ?_)
        refine lv_goto (tgt := 4) hx hb dX1_foulsAdded_27 (by decide) ?_
        refine ih (i + 1) (by omega) (by omega) H locs ls hI ?_
        rw [show p_fsum Bs (i + 1) = ((p_fsum Bs i) + (Bs i 7)) by first | rfl | (rw [p_fsum]; simp [c_9, n_9]; done)]
        exact lv_sub hl [2, 1, 0] rfl
  exact K (n + 1) 0 (Nat.zero_le _) (by omega) H locs ls hI (lv_sub hl [2, 1, 0] rfl)

set_option maxHeartbeats 4000000 in
set_option maxRecDepth 100000 in
theorem m_X1_placesAdded (l : Launch) {D : va_G} {cI cJ cB : ClassId} {t0 z : Nat} {tx ad : Nat → Nat} {L : List Nat} {E : Nat → va_E} {fb a : Nat} (ha : ad fb = a) (h10 : 10 ≤ fb) (hLm : ∀ k, fb ≤ k → k < fb + 14 → k ∈ L) {n T : Nat} (hn6 : n ≤ 6) {Bs Fs : Nat → Nat → Int32} (hFl : fl_at cI cB ad E fb n T Bs Fs) : Met l yX1_placesAdded wsX1_placesAdded ({ frames := 0, cells := 0, slots := 0, locals := 0 } : Room) (va_Pc [.ref a] (fPre D cI cJ cB t0 z tx ad L E)) (va_Qi (fun (r : Int32) (E1 : Nat → va_E) => r = p_psum Bs n ∧ E1 = E) (fB D z ad L) (fA z)) 0 0 (fA z) := by
  refine f_ofW (cc := cX1_placesAdded) (maxL := 3) (ret := some .int) (by decide) rfl (Nat.le_of_ble_eq_true rfl) ?_
  intro pr e s m args below meth c Q hx hb hr hml hts hown hlocks hin hG H locs hI hQ ls hl
  have hl : lv_has ls 3 [(0, .ref a)] := hl
  obtain ⟨hFo, hFr, -⟩ := id hFl
  have hFo : E fb = .inr (1, [.ref (ad (fb + 1)), .int (nI n), .int (nI T)]) := hFo
  have hFr : E (fb + 1) = .inl (cB, 6, .inr (.inr (.inr (.inr (fl_row ad fb))))) := hFr
  refine lv_iconst (v := 0) hx hb dX1_placesAdded_0 (by decide) ?_
  refine lv_istore_n (lv' := [(1, .int 0), (0, .ref a)]) hx hb dX1_placesAdded_1 rfl hl (by decide) rfl (fun ls hl => ?_)
  refine lv_iconst (v := 0) hx hb dX1_placesAdded_2 (by decide) ?_
  refine lv_istore_n (lv' := [(2, .int 0), (1, .int 0), (0, .ref a)]) hx hb dX1_placesAdded_3 rfl hl (by decide) rfl (fun ls hl => ?_)
  have K : ∀ (k i : Nat), i ≤ n → n + 1 ≤ i + k → ∀ (H : Heap) (locs : List Loc) (ls : Array Slot), fI D (fA z) s.heap ad L E H locs → lv_has ls 3 [(0, .ref a), (1, .int (p_psum Bs i)), (2, .int (nI i))] → W pr l e ({ frames := 0, cells := 0, slots := 0, locals := 0 } : Room) s m args below meth c H locs 0 0 Q (F0 m 4 ls []) := by
    intro k
    induction k with
    | zero => intro i h1 h2; exact absurd h2 (by omega)
    | succ k ih =>
      intro i hi1 hi2 H locs ls hI hl
      refine lv_iload_n hx hb dX1_placesAdded_4 rfl (lv_at hl 2 rfl) ?_
      refine lv_aload_n hx hb dX1_placesAdded_5 rfl (lv_at hl 0 rfl) ?_
      refine f_get (ci := 1) (v := .int (nI n)) (C := RX1) (T := TX1) (N := 3) hx hb hts (by decide +kernel) hown hG.1 hI ha (hLm _ (by omega) (by omega)) hFo rfl 1 (by decide) (hts (.fieldLink RX1 15 "CoracleRace$Fleet" "size" "I") (by decide +kernel)) rfl dX1_placesAdded_6 ?_
      refine lv_icmp_ge (tgt := 30) hx hb dX1_placesAdded_9 (by decide) (fun c_9 => ?_) (fun c_9 => ?_)
      · have n_9 := i_nlt.mpr c_9
        have hi : i = n := by have := (nI_leI (by omega) (by omega)).mp c_9; omega
        refine lv_iload_n hx hb dX1_placesAdded_30 rfl (lv_at hl 1 rfl) ?_
        exact f_reti hQ hx hb hr hlocks hI.2.2 (by omega) (by omega) dX1_placesAdded_31 E (fB_of hI) (⟨by rw [hi], rfl⟩)
      · have n_9 := c_9
        have c_9 := i_nle.mp n_9
        have hi : i < n := (nI_ltI (by omega) (by omega)).mp c_9
        have hcl : (nI i).toNatClampNeg = i := nI_clamp (by omega)
        obtain ⟨hCi, hFi⟩ := hFl.2.2 i (by omega)
        have hCi : E (fb + 2 + 2 * i) = .inr (0, [.ref (ad ((fb + 2 + 2 * i) + 1)), .int (Bs i 1), .int (Bs i 2), .int (Bs i 3), .int (Bs i 4), .int (Bs i 5), .int (Bs i 6), .int (Bs i 7), .int (Bs i 8), .int (Bs i 9), .int (Bs i 10), .int (Bs i 11)]) := hCi
        refine lv_iload_n hx hb dX1_placesAdded_12 rfl (lv_at hl 1 rfl) ?_
        refine lv_aload_n hx hb dX1_placesAdded_13 rfl (lv_at hl 0 rfl) ?_
        refine f_get (ci := 1) (v := .ref (ad (fb + 1))) (C := RX1) (T := TX1) (N := 3) hx hb hts (by decide +kernel) hown hG.1 hI ha (hLm _ (by omega) (by omega)) hFo rfl 0 (by decide) (hts (.fieldLink RX1 11 "CoracleRace$Fleet" "boats" "[LCoracleRace$Boat;") (by decide +kernel)) rfl dX1_placesAdded_14 ?_
        refine lv_iload_n hx hb dX1_placesAdded_17 rfl (lv_at hl 2 rfl) ?_
        refine f_aldq hx hb hG.1 hI rfl (hLm _ (by omega) (by omega)) hFr (vp_in_nI (by omega) (by omega)) (v := .ref (ad (fb + 2 + 2 * i))) (by rw [hcl]; exact fl_row_at (by omega)) dX1_placesAdded_18 ?_
        refine f_get (ci := 0) (v := .int (Bs i 3)) (C := RX0) (T := TX0) (N := 12) hx hb hts (by decide +kernel) hown hG.1 hI rfl (hLm _ (by omega) (by omega)) hCi rfl 3 (by decide) (hts (.fieldLink RX1 42 "CoracleRace$Boat" "place" "I") (by decide +kernel)) rfl dX1_placesAdded_19 ?_
        refine lv_iadd hx hb dX1_placesAdded_22 ?_
        refine lv_istore_n (lv' := [(1, .int ((p_psum Bs i) + (Bs i 3))), (0, .ref a), (2, .int (nI i))]) hx hb dX1_placesAdded_23 rfl hl (by decide) rfl (fun ls hl => ?_)
        refine lv_iinc (v := (nI (i + 1))) (lv' := [(2, .int (nI (i + 1))), (1, .int ((p_psum Bs i) + (Bs i 3))), (0, .ref a)]) hx hb dX1_placesAdded_24 hl (k := 2) rfl (nI_1 i) (by decide) rfl (fun ls hl => ?_)
        refine lv_goto (tgt := 4) hx hb dX1_placesAdded_27 (by decide) ?_
        refine ih (i + 1) (by omega) (by omega) H locs ls hI ?_
        rw [show p_psum Bs (i + 1) = ((p_psum Bs i) + (Bs i 3)) by first | rfl | (rw [p_psum]; simp [c_9, n_9]; done)]
        exact lv_sub hl [2, 1, 0] rfl
  exact K (n + 1) 0 (Nat.zero_le _) (by omega) H locs ls hI (lv_sub hl [2, 1, 0] rfl)

set_option maxHeartbeats 4000000 in
set_option maxRecDepth 100000 in
theorem m_X1_leader (l : Launch) {D : va_G} {cI cJ cB : ClassId} {t0 z : Nat} {tx ad : Nat → Nat} {L : List Nat} {E : Nat → va_E} {fb a : Nat} (ha : ad fb = a) (h10 : 10 ≤ fb) (hLm : ∀ k, fb ≤ k → k < fb + 14 → k ∈ L) {n T : Nat} (hn6 : n ≤ 6) {Bs Fs : Nat → Nat → Int32} (hFl : fl_at cI cB ad E fb n T Bs Fs) (h8 : ∀ i, i < n → Bs i 8 = 0 ∨ Bs i 8 = 1) : Met l yX1_leader wsX1_leader ({ frames := 1, cells := 0, slots := 0, locals := 20 } : Room) (va_Pc [.ref a] (fPre D cI cJ cB t0 z tx ad L E)) (va_Qi (fun (r : Int32) (E1 : Nat → va_E) => r = (p_lead Bs n).1 ∧ E1 = E) (fB D z ad L) (fA z)) 0 0 (fA z) := by
  refine f_ofW (cc := cX1_leader) (maxL := 4) (ret := some .int) (by decide) rfl (Nat.le_of_ble_eq_true rfl) ?_
  intro pr e s m args below meth c Q hx hb hr hml hts hown hlocks hin hG H locs hI hQ ls hl
  have hl : lv_has ls 4 [(0, .ref a)] := hl
  obtain ⟨hFo, hFr, -⟩ := id hFl
  have hFo : E fb = .inr (1, [.ref (ad (fb + 1)), .int (nI n), .int (nI T)]) := hFo
  have hFr : E (fb + 1) = .inl (cB, 6, .inr (.inr (.inr (.inr (fl_row ad fb))))) := hFr
  refine lv_iconst (v := -1) hx hb dX1_leader_0 (by decide) ?_
  refine lv_istore_n (lv' := [(1, .int (-1)), (0, .ref a)]) hx hb dX1_leader_1 rfl hl (by decide) rfl (fun ls hl => ?_)
  refine lv_iconst (v := -1) hx hb dX1_leader_2 (by decide) ?_
  refine lv_istore_n (lv' := [(2, .int (-1)), (1, .int (-1)), (0, .ref a)]) hx hb dX1_leader_3 rfl hl (by decide) rfl (fun ls hl => ?_)
  refine lv_iconst (v := 0) hx hb dX1_leader_4 (by decide) ?_
  refine lv_istore_n (lv' := [(3, .int 0), (2, .int (-1)), (1, .int (-1)), (0, .ref a)]) hx hb dX1_leader_5 rfl hl (by decide) rfl (fun ls hl => ?_)
  have K : ∀ (k i : Nat), i ≤ n → n + 1 ≤ i + k → ∀ (H : Heap) (locs : List Loc) (ls : Array Slot), fI D (fA z) s.heap ad L E H locs → lv_has ls 4 [(0, .ref a), (1, .int ((p_lead Bs i).1)), (2, .int ((p_lead Bs i).2)), (3, .int (nI i))] → W pr l e ({ frames := 1, cells := 0, slots := 0, locals := 20 } : Room) s m args below meth c H locs 0 0 Q (F0 m 6 ls []) := by
    intro k
    induction k with
    | zero => intro i h1 h2; exact absurd h2 (by omega)
    | succ k ih =>
      intro i hi1 hi2 H locs ls hI hl
      refine lv_iload_n hx hb dX1_leader_6 rfl (lv_at hl 3 rfl) ?_
      refine lv_aload_n hx hb dX1_leader_7 rfl (lv_at hl 0 rfl) ?_
      refine f_get (ci := 1) (v := .int (nI n)) (C := RX1) (T := TX1) (N := 3) hx hb hts (by decide +kernel) hown hG.1 hI ha (hLm _ (by omega) (by omega)) hFo rfl 1 (by decide) (hts (.fieldLink RX1 15 "CoracleRace$Fleet" "size" "I") (by decide +kernel)) rfl dX1_leader_8 ?_
      refine lv_icmp_ge (tgt := 57) hx hb dX1_leader_11 (by decide) (fun c_11 => ?_) (fun c_11 => ?_)
      · have n_11 := i_nlt.mpr c_11
        have hi : i = n := by have := (nI_leI (by omega) (by omega)).mp c_11; omega
        refine lv_iload_n hx hb dX1_leader_57 rfl (lv_at hl 1 rfl) ?_
        exact f_reti hQ hx hb hr hlocks hI.2.2 (by omega) (by omega) dX1_leader_58 E (fB_of hI) (⟨by rw [hi], rfl⟩)
      · have n_11 := c_11
        have c_11 := i_nle.mp n_11
        have hi : i < n := (nI_ltI (by omega) (by omega)).mp c_11
        have hcl : (nI i).toNatClampNeg = i := nI_clamp (by omega)
        obtain ⟨hCi, hFi⟩ := hFl.2.2 i (by omega)
        have hCi : E (fb + 2 + 2 * i) = .inr (0, [.ref (ad ((fb + 2 + 2 * i) + 1)), .int (Bs i 1), .int (Bs i 2), .int (Bs i 3), .int (Bs i 4), .int (Bs i 5), .int (Bs i 6), .int (Bs i 7), .int (Bs i 8), .int (Bs i 9), .int (Bs i 10), .int (Bs i 11)]) := hCi
        refine lv_aload_n hx hb dX1_leader_14 rfl (lv_at hl 0 rfl) ?_
        refine f_get (ci := 1) (v := .ref (ad (fb + 1))) (C := RX1) (T := TX1) (N := 3) hx hb hts (by decide +kernel) hown hG.1 hI ha (hLm _ (by omega) (by omega)) hFo rfl 0 (by decide) (hts (.fieldLink RX1 11 "CoracleRace$Fleet" "boats" "[LCoracleRace$Boat;") (by decide +kernel)) rfl dX1_leader_15 ?_
        refine lv_iload_n hx hb dX1_leader_18 rfl (lv_at hl 3 rfl) ?_
        refine f_aldq hx hb hG.1 hI rfl (hLm _ (by omega) (by omega)) hFr (vp_in_nI (by omega) (by omega)) (v := .ref (ad (fb + 2 + 2 * i))) (by rw [hcl]; exact fl_row_at (by omega)) dX1_leader_19 ?_
        refine f_calli1 (va_runV (As := []) (rest := []) ⟨hx, hb, hml, hown, hts⟩ (m_X0_isIn l rfl (hLm _ (by omega) (by omega)) (b := Bs i) hCi (h8 i (by omega))) (cwV 0 hts gX1_leader_X0_isIn rfl rfl rfl (by decide +kernel) ⟨Nat.le_of_ble_eq_true rfl, Nat.le_of_ble_eq_true rfl⟩) (fPre_ofV hG hI rfl (hLm _ (by omega) (by omega)) hCi rfl rfl) rfl rfl hl.1 rfl (lv_room (Nat.le_of_ble_eq_true rfl)) dX1_leader_20 ⟨Nat.le_of_ble_eq_true rfl, Nat.le_of_ble_eq_true rfl⟩) hI (fun r1 E2 H locs hp hI => ?_)
        obtain ⟨he, hq⟩ := hp
        rw [hq] at hI
        have he : r1 = (Bs i 8) := he
        subst he
        refine lv_if_ne (tgt := 51) hx hb dX1_leader_23 (by decide) (fun c_23 => ?_) (fun c_23 => ?_)
        · refine lv_iinc (v := (nI (i + 1))) (lv' := [(3, .int (nI (i + 1))), (0, .ref a), (1, .int ((p_lead Bs i).1)), (2, .int ((p_lead Bs i).2))]) hx hb dX1_leader_51 hl (k := 3) rfl (nI_1 i) (by decide) rfl (fun ls hl => ?_)
          refine lv_goto (tgt := 6) hx hb dX1_leader_54 (by decide) ?_
          refine ih (i + 1) (by omega) (by omega) H locs ls hI ?_
          rw [show p_lead Bs (i + 1) = p_lead Bs i by rw [p_lead]; simp [c_11, n_11, c_23]; done]
          exact lv_sub hl [1, 2, 3, 0] rfl
        · refine lv_aload_n hx hb dX1_leader_26 rfl (lv_at hl 0 rfl) ?_
          refine f_get (ci := 1) (v := .ref (ad (fb + 1))) (C := RX1) (T := TX1) (N := 3) hx hb hts (by decide +kernel) hown hG.1 hI ha (hLm _ (by omega) (by omega)) hFo rfl 0 (by decide) (hts (.fieldLink RX1 11 "CoracleRace$Fleet" "boats" "[LCoracleRace$Boat;") (by decide +kernel)) rfl dX1_leader_27 ?_
          refine lv_iload_n hx hb dX1_leader_30 rfl (lv_at hl 3 rfl) ?_
          refine f_aldq hx hb hG.1 hI rfl (hLm _ (by omega) (by omega)) hFr (vp_in_nI (by omega) (by omega)) (v := .ref (ad (fb + 2 + 2 * i))) (by rw [hcl]; exact fl_row_at (by omega)) dX1_leader_31 ?_
          refine f_get (ci := 0) (v := .int (Bs i 3)) (C := RX0) (T := TX0) (N := 12) hx hb hts (by decide +kernel) hown hG.1 hI rfl (hLm _ (by omega) (by omega)) hCi rfl 3 (by decide) (hts (.fieldLink RX1 42 "CoracleRace$Boat" "place" "I") (by decide +kernel)) rfl dX1_leader_32 ?_
          refine lv_iload_n hx hb dX1_leader_35 rfl (lv_at hl 2 rfl) ?_
          refine lv_icmp_le (tgt := 51) hx hb dX1_leader_36 (by decide) (fun c_36 => ?_) (fun c_36 => ?_)
          · have n_36 := i_nlt.mpr c_36
            refine lv_iinc (v := (nI (i + 1))) (lv' := [(3, .int (nI (i + 1))), (0, .ref a), (1, .int ((p_lead Bs i).1)), (2, .int ((p_lead Bs i).2))]) hx hb dX1_leader_51 hl (k := 3) rfl (nI_1 i) (by decide) rfl (fun ls hl => ?_)
            refine lv_goto (tgt := 6) hx hb dX1_leader_54 (by decide) ?_
            refine ih (i + 1) (by omega) (by omega) H locs ls hI ?_
            rw [show p_lead Bs (i + 1) = p_lead Bs i by rw [p_lead]; simp [c_11, n_11, c_23, c_36, n_36]; done]
            exact lv_sub hl [1, 2, 3, 0] rfl
          · have n_36 := c_36
            have c_36 := i_nle.mp n_36
            refine lv_iload_n hx hb dX1_leader_39 rfl (lv_at hl 3 rfl) ?_
            refine lv_istore_n (lv' := [(1, .int (nI i)), (0, .ref a), (2, .int ((p_lead Bs i).2)), (3, .int (nI i))]) hx hb dX1_leader_40 rfl hl (by decide) rfl (fun ls hl => ?_)
            refine lv_aload_n hx hb dX1_leader_41 rfl (lv_at hl 1 rfl) ?_
            refine f_get (ci := 1) (v := .ref (ad (fb + 1))) (C := RX1) (T := TX1) (N := 3) hx hb hts (by decide +kernel) hown hG.1 hI ha (hLm _ (by omega) (by omega)) hFo rfl 0 (by decide) (hts (.fieldLink RX1 11 "CoracleRace$Fleet" "boats" "[LCoracleRace$Boat;") (by decide +kernel)) rfl dX1_leader_42 ?_
            refine lv_iload_n hx hb dX1_leader_45 rfl (lv_at hl 3 rfl) ?_
            refine f_aldq hx hb hG.1 hI rfl (hLm _ (by omega) (by omega)) hFr (vp_in_nI (by omega) (by omega)) (v := .ref (ad (fb + 2 + 2 * i))) (by rw [hcl]; exact fl_row_at (by omega)) dX1_leader_46 ?_
            refine f_get (ci := 0) (v := .int (Bs i 3)) (C := RX0) (T := TX0) (N := 12) hx hb hts (by decide +kernel) hown hG.1 hI rfl (hLm _ (by omega) (by omega)) hCi rfl 3 (by decide) (hts (.fieldLink RX1 42 "CoracleRace$Boat" "place" "I") (by decide +kernel)) rfl dX1_leader_47 ?_
            refine lv_istore_n (lv' := [(2, .int (Bs i 3)), (1, .int (nI i)), (0, .ref a), (3, .int (nI i))]) hx hb dX1_leader_50 rfl hl (by decide) rfl (fun ls hl => ?_)
            refine lv_iinc (v := (nI (i + 1))) (lv' := [(3, .int (nI (i + 1))), (2, .int (Bs i 3)), (1, .int (nI i)), (0, .ref a)]) hx hb dX1_leader_51 hl (k := 3) rfl (nI_1 i) (by decide) rfl (fun ls hl => ?_)
            refine lv_goto (tgt := 6) hx hb dX1_leader_54 (by decide) ?_
            refine ih (i + 1) (by omega) (by omega) H locs ls hI ?_
            rw [show p_lead Bs (i + 1) = ((nI i), (Bs i 3)) by rw [p_lead]; simp [c_11, n_11, c_23, c_36, n_36]; done]
            exact lv_sub hl [3, 2, 1, 0] rfl
  exact K (n + 1) 0 (Nat.zero_le _) (by omega) H locs ls hI (lv_sub hl [3, 2, 1, 0] rfl)

set_option maxHeartbeats 4000000 in
set_option maxRecDepth 100000 in
theorem m_X1_winner (l : Launch) {D : va_G} {cI cJ cB : ClassId} {t0 z : Nat} {tx ad : Nat → Nat} {L : List Nat} {E : Nat → va_E} {fb a : Nat} (ha : ad fb = a) (h10 : 10 ≤ fb) (hLm : ∀ k, fb ≤ k → k < fb + 14 → k ∈ L) {n T : Nat} (hn6 : n ≤ 6) {Bs Fs : Nat → Nat → Int32} (hFl : fl_at cI cB ad E fb n T Bs Fs) (h8 : ∀ i, i < n → Bs i 8 = 0 ∨ Bs i 8 = 1) : Met l yX1_winner wsX1_winner ({ frames := 1, cells := 0, slots := 0, locals := 20 } : Room) (va_Pc [.ref a] (fPre D cI cJ cB t0 z tx ad L E)) (va_Qi (fun (r : Int32) (E1 : Nat → va_E) => r = (p_win Bs n).1 ∧ E1 = E) (fB D z ad L) (fA z)) 0 0 (fA z) := by
  refine f_ofW (cc := cX1_winner) (maxL := 4) (ret := some .int) (by decide) rfl (Nat.le_of_ble_eq_true rfl) ?_
  intro pr e s m args below meth c Q hx hb hr hml hts hown hlocks hin hG H locs hI hQ ls hl
  have hl : lv_has ls 4 [(0, .ref a)] := hl
  obtain ⟨hFo, hFr, -⟩ := id hFl
  have hFo : E fb = .inr (1, [.ref (ad (fb + 1)), .int (nI n), .int (nI T)]) := hFo
  have hFr : E (fb + 1) = .inl (cB, 6, .inr (.inr (.inr (.inr (fl_row ad fb))))) := hFr
  refine lv_iconst (v := -1) hx hb dX1_winner_0 (by decide) ?_
  refine lv_istore_n (lv' := [(1, .int (-1)), (0, .ref a)]) hx hb dX1_winner_1 rfl hl (by decide) rfl (fun ls hl => ?_)
  refine lv_iconst (v := 0) hx hb dX1_winner_2 (by decide) ?_
  refine lv_istore_n (lv' := [(2, .int 0), (1, .int (-1)), (0, .ref a)]) hx hb dX1_winner_3 rfl hl (by decide) rfl (fun ls hl => ?_)
  refine lv_iconst (v := 0) hx hb dX1_winner_4 (by decide) ?_
  refine lv_istore_n (lv' := [(3, .int 0), (2, .int 0), (1, .int (-1)), (0, .ref a)]) hx hb dX1_winner_5 rfl hl (by decide) rfl (fun ls hl => ?_)
  have K : ∀ (k i : Nat), i ≤ n → n + 1 ≤ i + k → ∀ (H : Heap) (locs : List Loc) (ls : Array Slot), fI D (fA z) s.heap ad L E H locs → lv_has ls 4 [(0, .ref a), (1, .int ((p_win Bs i).1)), (2, .int ((p_win Bs i).2)), (3, .int (nI i))] → W pr l e ({ frames := 1, cells := 0, slots := 0, locals := 20 } : Room) s m args below meth c H locs 0 0 Q (F0 m 6 ls []) := by
    intro k
    induction k with
    | zero => intro i h1 h2; exact absurd h2 (by omega)
    | succ k ih =>
      intro i hi1 hi2 H locs ls hI hl
      refine lv_iload_n hx hb dX1_winner_6 rfl (lv_at hl 3 rfl) ?_
      refine lv_aload_n hx hb dX1_winner_7 rfl (lv_at hl 0 rfl) ?_
      refine f_get (ci := 1) (v := .int (nI n)) (C := RX1) (T := TX1) (N := 3) hx hb hts (by decide +kernel) hown hG.1 hI ha (hLm _ (by omega) (by omega)) hFo rfl 1 (by decide) (hts (.fieldLink RX1 15 "CoracleRace$Fleet" "size" "I") (by decide +kernel)) rfl dX1_winner_8 ?_
      refine lv_icmp_ge (tgt := 62) hx hb dX1_winner_11 (by decide) (fun c_11 => ?_) (fun c_11 => ?_)
      · have n_11 := i_nlt.mpr c_11
        have hi : i = n := by have := (nI_leI (by omega) (by omega)).mp c_11; omega
        refine lv_iload_n hx hb dX1_winner_62 rfl (lv_at hl 1 rfl) ?_
        exact f_reti hQ hx hb hr hlocks hI.2.2 (by omega) (by omega) dX1_winner_63 E (fB_of hI) (⟨by rw [hi], rfl⟩)
      · have n_11 := c_11
        have c_11 := i_nle.mp n_11
        have hi : i < n := (nI_ltI (by omega) (by omega)).mp c_11
        have hcl : (nI i).toNatClampNeg = i := nI_clamp (by omega)
        obtain ⟨hCi, hFi⟩ := hFl.2.2 i (by omega)
        have hCi : E (fb + 2 + 2 * i) = .inr (0, [.ref (ad ((fb + 2 + 2 * i) + 1)), .int (Bs i 1), .int (Bs i 2), .int (Bs i 3), .int (Bs i 4), .int (Bs i 5), .int (Bs i 6), .int (Bs i 7), .int (Bs i 8), .int (Bs i 9), .int (Bs i 10), .int (Bs i 11)]) := hCi
        refine lv_aload_n hx hb dX1_winner_14 rfl (lv_at hl 0 rfl) ?_
        refine f_get (ci := 1) (v := .ref (ad (fb + 1))) (C := RX1) (T := TX1) (N := 3) hx hb hts (by decide +kernel) hown hG.1 hI ha (hLm _ (by omega) (by omega)) hFo rfl 0 (by decide) (hts (.fieldLink RX1 11 "CoracleRace$Fleet" "boats" "[LCoracleRace$Boat;") (by decide +kernel)) rfl dX1_winner_15 ?_
        refine lv_iload_n hx hb dX1_winner_18 rfl (lv_at hl 3 rfl) ?_
        refine f_aldq hx hb hG.1 hI rfl (hLm _ (by omega) (by omega)) hFr (vp_in_nI (by omega) (by omega)) (v := .ref (ad (fb + 2 + 2 * i))) (by rw [hcl]; exact fl_row_at (by omega)) dX1_winner_19 ?_
        refine f_calli1 (va_runV (As := []) (rest := []) ⟨hx, hb, hml, hown, hts⟩ (m_X0_isIn l rfl (hLm _ (by omega) (by omega)) (b := Bs i) hCi (h8 i (by omega))) (cwV 0 hts gX1_winner_X0_isIn rfl rfl rfl (by decide +kernel) ⟨Nat.le_of_ble_eq_true rfl, Nat.le_of_ble_eq_true rfl⟩) (fPre_ofV hG hI rfl (hLm _ (by omega) (by omega)) hCi rfl rfl) rfl rfl hl.1 rfl (lv_room (Nat.le_of_ble_eq_true rfl)) dX1_winner_20 ⟨Nat.le_of_ble_eq_true rfl, Nat.le_of_ble_eq_true rfl⟩) hI (fun r1 E2 H locs hp hI => ?_)
        obtain ⟨he, hq⟩ := hp
        rw [hq] at hI
        have he : r1 = (Bs i 8) := he
        subst he
        refine lv_if_eq (tgt := 56) hx hb dX1_winner_23 (by decide) (fun c_23 => ?_) (fun c_23 => ?_)
        · refine lv_iinc (v := (nI (i + 1))) (lv' := [(3, .int (nI (i + 1))), (0, .ref a), (1, .int ((p_win Bs i).1)), (2, .int ((p_win Bs i).2))]) hx hb dX1_winner_56 hl (k := 3) rfl (nI_1 i) (by decide) rfl (fun ls hl => ?_)
          refine lv_goto (tgt := 6) hx hb dX1_winner_59 (by decide) ?_
          refine ih (i + 1) (by omega) (by omega) H locs ls hI ?_
          rw [show p_win Bs (i + 1) = p_win Bs i by rw [p_win]; simp [c_11, n_11, c_23]; done]
          exact lv_sub hl [1, 2, 3, 0] rfl
        · refine lv_iload_n hx hb dX1_winner_26 rfl (lv_at hl 1 rfl) ?_
          refine lv_iconst (v := -1) hx hb dX1_winner_27 (by decide) ?_
          refine lv_icmp_eq (tgt := 44) hx hb dX1_winner_28 (by decide) (fun c_28 => ?_) (fun c_28 => ?_)
          · refine lv_iload_n hx hb dX1_winner_44 rfl (lv_at hl 3 rfl) ?_
            refine lv_istore_n (lv' := [(1, .int (nI i)), (0, .ref a), (2, .int ((p_win Bs i).2)), (3, .int (nI i))]) hx hb dX1_winner_45 rfl hl (by decide) rfl (fun ls hl => ?_)
            refine lv_aload_n hx hb dX1_winner_46 rfl (lv_at hl 1 rfl) ?_
            refine f_get (ci := 1) (v := .ref (ad (fb + 1))) (C := RX1) (T := TX1) (N := 3) hx hb hts (by decide +kernel) hown hG.1 hI ha (hLm _ (by omega) (by omega)) hFo rfl 0 (by decide) (hts (.fieldLink RX1 11 "CoracleRace$Fleet" "boats" "[LCoracleRace$Boat;") (by decide +kernel)) rfl dX1_winner_47 ?_
            refine lv_iload_n hx hb dX1_winner_50 rfl (lv_at hl 3 rfl) ?_
            refine f_aldq hx hb hG.1 hI rfl (hLm _ (by omega) (by omega)) hFr (vp_in_nI (by omega) (by omega)) (v := .ref (ad (fb + 2 + 2 * i))) (by rw [hcl]; exact fl_row_at (by omega)) dX1_winner_51 ?_
            refine f_calli1 (va_runV (As := []) (rest := []) ⟨hx, hb, hml, hown, hts⟩ (m_X0_time l rfl (hLm _ (by omega) (by omega)) (b := Bs i) hCi) (cwV 0 hts gX1_winner_X0_time rfl rfl rfl (by decide +kernel) ⟨Nat.le_of_ble_eq_true rfl, Nat.le_of_ble_eq_true rfl⟩) (fPre_ofV hG hI rfl (hLm _ (by omega) (by omega)) hCi rfl rfl) rfl rfl hl.1 rfl (lv_room (Nat.le_of_ble_eq_true rfl)) dX1_winner_52 ⟨Nat.le_of_ble_eq_true rfl, Nat.le_of_ble_eq_true rfl⟩) hI (fun r3 E4 H locs hp hI => ?_)
            obtain ⟨he, hq⟩ := hp
            rw [hq] at hI
            have he : r3 = (p_time (Bs i)) := he
            subst he
            refine lv_istore_n (lv' := [(2, .int (p_time (Bs i))), (1, .int (nI i)), (0, .ref a), (3, .int (nI i))]) hx hb dX1_winner_55 rfl hl (by decide) rfl (fun ls hl => ?_)
            refine lv_iinc (v := (nI (i + 1))) (lv' := [(3, .int (nI (i + 1))), (2, .int (p_time (Bs i))), (1, .int (nI i)), (0, .ref a)]) hx hb dX1_winner_56 hl (k := 3) rfl (nI_1 i) (by decide) rfl (fun ls hl => ?_)
            refine lv_goto (tgt := 6) hx hb dX1_winner_59 (by decide) ?_
            refine ih (i + 1) (by omega) (by omega) H locs ls hI ?_
            rw [show p_win Bs (i + 1) = ((nI i), (p_time (Bs i))) by rw [p_win]; simp [c_11, n_11, c_23, c_28]; done]
            exact lv_sub hl [3, 2, 1, 0] rfl
          · refine lv_aload_n hx hb dX1_winner_31 rfl (lv_at hl 0 rfl) ?_
            refine f_get (ci := 1) (v := .ref (ad (fb + 1))) (C := RX1) (T := TX1) (N := 3) hx hb hts (by decide +kernel) hown hG.1 hI ha (hLm _ (by omega) (by omega)) hFo rfl 0 (by decide) (hts (.fieldLink RX1 11 "CoracleRace$Fleet" "boats" "[LCoracleRace$Boat;") (by decide +kernel)) rfl dX1_winner_32 ?_
            refine lv_iload_n hx hb dX1_winner_35 rfl (lv_at hl 3 rfl) ?_
            refine f_aldq hx hb hG.1 hI rfl (hLm _ (by omega) (by omega)) hFr (vp_in_nI (by omega) (by omega)) (v := .ref (ad (fb + 2 + 2 * i))) (by rw [hcl]; exact fl_row_at (by omega)) dX1_winner_36 ?_
            refine f_calli1 (va_runV (As := []) (rest := []) ⟨hx, hb, hml, hown, hts⟩ (m_X0_time l rfl (hLm _ (by omega) (by omega)) (b := Bs i) hCi) (cwV 0 hts gX1_winner_X0_time rfl rfl rfl (by decide +kernel) ⟨Nat.le_of_ble_eq_true rfl, Nat.le_of_ble_eq_true rfl⟩) (fPre_ofV hG hI rfl (hLm _ (by omega) (by omega)) hCi rfl rfl) rfl rfl hl.1 rfl (lv_room (Nat.le_of_ble_eq_true rfl)) dX1_winner_37 ⟨Nat.le_of_ble_eq_true rfl, Nat.le_of_ble_eq_true rfl⟩) hI (fun r5 E6 H locs hp hI => ?_)
            obtain ⟨he, hq⟩ := hp
            rw [hq] at hI
            have he : r5 = (p_time (Bs i)) := he
            subst he
            refine lv_iload_n hx hb dX1_winner_40 rfl (lv_at hl 2 rfl) ?_
            refine lv_icmp_ge (tgt := 56) hx hb dX1_winner_41 (by decide) (fun c_41 => ?_) (fun c_41 => ?_)
            · have n_41 := i_nlt.mpr c_41
              refine lv_iinc (v := (nI (i + 1))) (lv' := [(3, .int (nI (i + 1))), (0, .ref a), (1, .int ((p_win Bs i).1)), (2, .int ((p_win Bs i).2))]) hx hb dX1_winner_56 hl (k := 3) rfl (nI_1 i) (by decide) rfl (fun ls hl => ?_)
              refine lv_goto (tgt := 6) hx hb dX1_winner_59 (by decide) ?_
              refine ih (i + 1) (by omega) (by omega) H locs ls hI ?_
              rw [show p_win Bs (i + 1) = p_win Bs i by rw [p_win]; simp [c_11, n_11, c_23, c_28, c_41, n_41]; done]
              exact lv_sub hl [1, 2, 3, 0] rfl
            · have n_41 := c_41
              have c_41 := i_nle.mp n_41
              refine lv_iload_n hx hb dX1_winner_44 rfl (lv_at hl 3 rfl) ?_
              refine lv_istore_n (lv' := [(1, .int (nI i)), (0, .ref a), (2, .int ((p_win Bs i).2)), (3, .int (nI i))]) hx hb dX1_winner_45 rfl hl (by decide) rfl (fun ls hl => ?_)
              refine lv_aload_n hx hb dX1_winner_46 rfl (lv_at hl 1 rfl) ?_
              refine f_get (ci := 1) (v := .ref (ad (fb + 1))) (C := RX1) (T := TX1) (N := 3) hx hb hts (by decide +kernel) hown hG.1 hI ha (hLm _ (by omega) (by omega)) hFo rfl 0 (by decide) (hts (.fieldLink RX1 11 "CoracleRace$Fleet" "boats" "[LCoracleRace$Boat;") (by decide +kernel)) rfl dX1_winner_47 ?_
              refine lv_iload_n hx hb dX1_winner_50 rfl (lv_at hl 3 rfl) ?_
              refine f_aldq hx hb hG.1 hI rfl (hLm _ (by omega) (by omega)) hFr (vp_in_nI (by omega) (by omega)) (v := .ref (ad (fb + 2 + 2 * i))) (by rw [hcl]; exact fl_row_at (by omega)) dX1_winner_51 ?_
              refine f_calli1 (va_runV (As := []) (rest := []) ⟨hx, hb, hml, hown, hts⟩ (m_X0_time l rfl (hLm _ (by omega) (by omega)) (b := Bs i) hCi) (cwV 0 hts gX1_winner_X0_time rfl rfl rfl (by decide +kernel) ⟨Nat.le_of_ble_eq_true rfl, Nat.le_of_ble_eq_true rfl⟩) (fPre_ofV hG hI rfl (hLm _ (by omega) (by omega)) hCi rfl rfl) rfl rfl hl.1 rfl (lv_room (Nat.le_of_ble_eq_true rfl)) dX1_winner_52 ⟨Nat.le_of_ble_eq_true rfl, Nat.le_of_ble_eq_true rfl⟩) hI (fun r7 E8 H locs hp hI => ?_)
              obtain ⟨he, hq⟩ := hp
              rw [hq] at hI
              have he : r7 = (p_time (Bs i)) := he
              subst he
              refine lv_istore_n (lv' := [(2, .int (p_time (Bs i))), (1, .int (nI i)), (0, .ref a), (3, .int (nI i))]) hx hb dX1_winner_55 rfl hl (by decide) rfl (fun ls hl => ?_)
              refine lv_iinc (v := (nI (i + 1))) (lv' := [(3, .int (nI (i + 1))), (2, .int (p_time (Bs i))), (1, .int (nI i)), (0, .ref a)]) hx hb dX1_winner_56 hl (k := 3) rfl (nI_1 i) (by decide) rfl (fun ls hl => ?_)
              refine lv_goto (tgt := 6) hx hb dX1_winner_59 (by decide) ?_
              refine ih (i + 1) (by omega) (by omega) H locs ls hI ?_
              rw [show p_win Bs (i + 1) = ((nI i), (p_time (Bs i))) by rw [p_win]; simp [c_11, n_11, c_23, c_28, c_41, n_41]; done]
              exact lv_sub hl [3, 2, 1, 0] rfl
  exact K (n + 1) 0 (Nat.zero_le _) (by omega) H locs ls hI (lv_sub hl [3, 2, 1, 0] rfl)

set_option maxHeartbeats 4000000 in
set_option maxRecDepth 100000 in
theorem m_X1_rankOf (l : Launch) {D : va_G} {cI cJ cB : ClassId} {t0 z : Nat} {tx ad : Nat → Nat} {L : List Nat} {E : Nat → va_E} {fb a : Nat} (ha : ad fb = a) (h10 : 10 ≤ fb) (hLm : ∀ k, fb ≤ k → k < fb + 14 → k ∈ L) {n T : Nat} (hn6 : n ≤ 6) {Bs Fs : Nat → Nat → Int32} (hFl : fl_at cI cB ad E fb n T Bs Fs) {ko ao : Nat} (hao : ad ko = ao) (hko : ko ∈ L) {o : Nat → Int32} (hO : E ko = bE ad ko o) : Met l yX1_rankOf wsX1_rankOf ({ frames := 2, cells := 0, slots := 0, locals := 41 } : Room) (va_Pc [.ref a, .ref ao] (fPre D cI cJ cB t0 z tx ad L E)) (va_Qi (fun (r : Int32) (E1 : Nat → va_E) => r = 1 + p_rk Bs o n ∧ E1 = E) (fB D z ad L) (fA z)) 0 0 (fA z) := by
  refine f_ofW (cc := cX1_rankOf) (maxL := 4) (ret := some .int) (by decide) rfl (Nat.le_of_ble_eq_true rfl) ?_
  intro pr e s m args below meth c Q hx hb hr hml hts hown hlocks hin hG H locs hI hQ ls hl
  have hl : lv_has ls 4 [(0, .ref a), (1, .ref ao)] := hl
  obtain ⟨hFo, hFr, -⟩ := id hFl
  have hFo : E fb = .inr (1, [.ref (ad (fb + 1)), .int (nI n), .int (nI T)]) := hFo
  have hFr : E (fb + 1) = .inl (cB, 6, .inr (.inr (.inr (.inr (fl_row ad fb))))) := hFr
  have hO : E ko = .inr (0, [.ref (ad (ko + 1)), .int (o 1), .int (o 2), .int (o 3), .int (o 4), .int (o 5), .int (o 6), .int (o 7), .int (o 8), .int (o 9), .int (o 10), .int (o 11)]) := hO
  refine lv_iconst (v := 0) hx hb dX1_rankOf_0 (by decide) ?_
  refine lv_istore_n (lv' := [(2, .int 0), (0, .ref a), (1, .ref ao)]) hx hb dX1_rankOf_1 rfl hl (by decide) rfl (fun ls hl => ?_)
  refine lv_iconst (v := 0) hx hb dX1_rankOf_2 (by decide) ?_
  refine lv_istore_n (lv' := [(3, .int 0), (2, .int 0), (0, .ref a), (1, .ref ao)]) hx hb dX1_rankOf_3 rfl hl (by decide) rfl (fun ls hl => ?_)
  have K : ∀ (k i : Nat), i ≤ n → n + 1 ≤ i + k → ∀ (H : Heap) (locs : List Loc) (ls : Array Slot), fI D (fA z) s.heap ad L E H locs → lv_has ls 4 [(0, .ref a), (1, .ref ao), (2, .int (p_rk Bs o i)), (3, .int (nI i))] → W pr l e ({ frames := 2, cells := 0, slots := 0, locals := 41 } : Room) s m args below meth c H locs 0 0 Q (F0 m 4 ls []) := by
    intro k
    induction k with
    | zero => intro i h1 h2; exact absurd h2 (by omega)
    | succ k ih =>
      intro i hi1 hi2 H locs ls hI hl
      refine lv_iload_n hx hb dX1_rankOf_4 rfl (lv_at hl 3 rfl) ?_
      refine lv_aload_n hx hb dX1_rankOf_5 rfl (lv_at hl 0 rfl) ?_
      refine f_get (ci := 1) (v := .int (nI n)) (C := RX1) (T := TX1) (N := 3) hx hb hts (by decide +kernel) hown hG.1 hI ha (hLm _ (by omega) (by omega)) hFo rfl 1 (by decide) (hts (.fieldLink RX1 15 "CoracleRace$Fleet" "size" "I") (by decide +kernel)) rfl dX1_rankOf_6 ?_
      refine lv_icmp_ge (tgt := 34) hx hb dX1_rankOf_9 (by decide) (fun c_9 => ?_) (fun c_9 => ?_)
      · have n_9 := i_nlt.mpr c_9
        have hi : i = n := by have := (nI_leI (by omega) (by omega)).mp c_9; omega
        refine lv_iconst (v := 1) hx hb dX1_rankOf_34 (by decide) ?_
        refine lv_iload_n hx hb dX1_rankOf_35 rfl (lv_at hl 2 rfl) ?_
        refine lv_iadd hx hb dX1_rankOf_36 ?_
        exact f_reti hQ hx hb hr hlocks hI.2.2 (by omega) (by omega) dX1_rankOf_37 E (fB_of hI) (⟨by rw [hi], rfl⟩)
      · have n_9 := c_9
        have c_9 := i_nle.mp n_9
        have hi : i < n := (nI_ltI (by omega) (by omega)).mp c_9
        have hcl : (nI i).toNatClampNeg = i := nI_clamp (by omega)
        obtain ⟨hCi, hFi⟩ := hFl.2.2 i (by omega)
        have hCi : E (fb + 2 + 2 * i) = .inr (0, [.ref (ad ((fb + 2 + 2 * i) + 1)), .int (Bs i 1), .int (Bs i 2), .int (Bs i 3), .int (Bs i 4), .int (Bs i 5), .int (Bs i 6), .int (Bs i 7), .int (Bs i 8), .int (Bs i 9), .int (Bs i 10), .int (Bs i 11)]) := hCi
        refine lv_aload_n hx hb dX1_rankOf_12 rfl (lv_at hl 0 rfl) ?_
        refine f_get (ci := 1) (v := .ref (ad (fb + 1))) (C := RX1) (T := TX1) (N := 3) hx hb hts (by decide +kernel) hown hG.1 hI ha (hLm _ (by omega) (by omega)) hFo rfl 0 (by decide) (hts (.fieldLink RX1 11 "CoracleRace$Fleet" "boats" "[LCoracleRace$Boat;") (by decide +kernel)) rfl dX1_rankOf_13 ?_
        refine lv_iload_n hx hb dX1_rankOf_16 rfl (lv_at hl 3 rfl) ?_
        refine f_aldq hx hb hG.1 hI rfl (hLm _ (by omega) (by omega)) hFr (vp_in_nI (by omega) (by omega)) (v := .ref (ad (fb + 2 + 2 * i))) (by rw [hcl]; exact fl_row_at (by omega)) dX1_rankOf_17 ?_
        refine lv_aload_n hx hb dX1_rankOf_18 rfl (lv_at hl 1 rfl) ?_
        refine f_calli1 (va_runV (As := [.ref ao]) (rest := []) ⟨hx, hb, hml, hown, hts⟩ (m_X0_isAheadOf l rfl (hLm _ (by omega) (by omega)) (b := Bs i) hCi hao hko (o := o) hO) (cwV 1 hts gX1_rankOf_X0_isAheadOf rfl rfl rfl (by decide +kernel) ⟨Nat.le_of_ble_eq_true rfl, Nat.le_of_ble_eq_true rfl⟩) (fPre_ofV hG hI rfl (hLm _ (by omega) (by omega)) hCi rfl rfl) rfl rfl hl.1 rfl (lv_room (Nat.le_of_ble_eq_true rfl)) dX1_rankOf_19 ⟨Nat.le_of_ble_eq_true rfl, Nat.le_of_ble_eq_true rfl⟩) hI (fun r1 E2 H locs hp hI => ?_)
        obtain ⟨he, hq⟩ := hp
        rw [hq] at hI
        have he : r1 = (p_ahead (Bs i) o) := he
        subst he
        refine lv_if_eq (tgt := 28) hx hb dX1_rankOf_22 (by decide) (fun c_22 => ?_) (fun c_22 => ?_)
        · refine lv_iinc (v := (nI (i + 1))) (lv' := [(3, .int (nI (i + 1))), (0, .ref a), (1, .ref ao), (2, .int (p_rk Bs o i))]) hx hb dX1_rankOf_28 hl (k := 3) rfl (nI_1 i) (by decide) rfl (fun ls hl => ?_)
          refine lv_goto (tgt := 4) hx hb dX1_rankOf_31 (by decide) ?_
          refine ih (i + 1) (by omega) (by omega) H locs ls hI ?_
          rw [show p_rk Bs o (i + 1) = (p_rk Bs o i) by first | rfl | (rw [p_rk]; simp [c_9, n_9, c_22]; done)]
          exact lv_sub hl [1, 2, 3, 0] rfl
        · refine lv_iinc (v := (p_rk Bs o i) + 1) (lv' := [(2, .int ((p_rk Bs o i) + 1)), (0, .ref a), (1, .ref ao), (3, .int (nI i))]) hx hb dX1_rankOf_25 hl (k := 2) rfl rfl (by decide) rfl (fun ls hl => ?_)
          refine lv_iinc (v := (nI (i + 1))) (lv' := [(3, .int (nI (i + 1))), (2, .int ((p_rk Bs o i) + 1)), (0, .ref a), (1, .ref ao)]) hx hb dX1_rankOf_28 hl (k := 3) rfl (nI_1 i) (by decide) rfl (fun ls hl => ?_)
          refine lv_goto (tgt := 4) hx hb dX1_rankOf_31 (by decide) ?_
          refine ih (i + 1) (by omega) (by omega) H locs ls hI ?_
          rw [show p_rk Bs o (i + 1) = (p_rk Bs o i) + 1 by first | rfl | (rw [p_rk]; simp [c_9, n_9, c_22]; done)]
          exact lv_sub hl [2, 3, 1, 0] rfl
  exact K (n + 1) 0 (Nat.zero_le _) (by omega) H locs ls hI (lv_sub hl [2, 3, 1, 0] rfl)
