set_option maxHeartbeats 4000000 in
set_option maxRecDepth 100000 in
theorem m_X2_isLane (l : Launch) {D : va_G} {cI cJ cB : ClassId} {t0 z : Nat} {tx ad : Nat → Nat} {L : List Nat} {E : Nat → va_E} (x : Int32) : Met l yX2_isLane wsX2_isLane ({ frames := 0, cells := 0, slots := 0, locals := 0 } : Room) (va_Pc [.int x] (fPre D cI cJ cB t0 z tx ad L E)) (va_Qi (fun (r : Int32) (E1 : Nat → va_E) => r = (if p_lane x then 1 else 0) ∧ E1 = E) (fB D z ad L) (fA z)) 0 0 (fA z) := by
  refine f_ofW (cc := cX2_isLane) (maxL := 1) (ret := some .boolean) (by decide) rfl (Nat.le_of_ble_eq_true rfl) ?_
  intro pr e s m args below meth c Q hx hb hr hml hts hown hlocks hin hG H locs hI hQ ls hl
  have hl : lv_has ls 1 [(0, .int x)] := hl
  refine lv_iload_n hx hb dX2_isLane_0 rfl (lv_at hl 0 rfl) ?_
  refine lv_if_lt (tgt := 13) hx hb dX2_isLane_1 (by decide) (fun c_1 => ?_) (fun c_1 => ?_)
  · have n_1 := i_nle.mpr c_1
    refine lv_iconst (v := 0) hx hb dX2_isLane_13 (by decide) ?_
    exact f_retz hQ hx hb hr hlocks hI.2.2 (by omega) (by omega) dX2_isLane_14 rfl E (fB_of hI) (⟨by simp [c_1, n_1], rfl⟩)
  · have n_1 := c_1
    have c_1 := i_nlt.mp n_1
    refine lv_iload_n hx hb dX2_isLane_4 rfl (lv_at hl 0 rfl) ?_
    refine lv_iconst (v := 5) hx hb dX2_isLane_5 (by decide) ?_
    refine lv_icmp_ge (tgt := 13) hx hb dX2_isLane_6 (by decide) (fun c_6 => ?_) (fun c_6 => ?_)
    · have n_6 := i_nlt.mpr c_6
      refine lv_iconst (v := 0) hx hb dX2_isLane_13 (by decide) ?_
      exact f_retz hQ hx hb hr hlocks hI.2.2 (by omega) (by omega) dX2_isLane_14 rfl E (fB_of hI) (⟨by simp [c_1, n_1, c_6, n_6], rfl⟩)
    · have n_6 := c_6
      have c_6 := i_nle.mp n_6
      refine lv_iconst (v := 1) hx hb dX2_isLane_9 (by decide) ?_
      refine lv_goto (tgt := 14) hx hb dX2_isLane_10 (by decide) ?_
      exact f_retz hQ hx hb hr hlocks hI.2.2 (by omega) (by omega) dX2_isLane_14 rfl E (fB_of hI) (⟨by simp [c_1, n_1, c_6, n_6], rfl⟩)

set_option maxHeartbeats 4000000 in
set_option maxRecDepth 100000 in
theorem m_X2_firstStop (l : Launch) {D : va_G} {cI cJ cB : ClassId} {t0 z : Nat} {tx ad : Nat → Nat} {L : List Nat} {E : Nat → va_E} {w p g : Nat → Int32} {n : Nat} (hn : n ≤ 6) (hr1 : 1 ∈ L) (hr2 : 2 ∈ L) (hr3 : 3 ∈ L) (hr4 : 4 ∈ L) (hR : E 1 = rE ad n) (hRw : E 2 = .inl (cI, 5, .inl w)) (hRp : E 3 = .inl (cI, 6, .inl p)) (hRg : E 4 = .inl (cI, 6, .inl g)) (fr to ln : Int32) : Met l yX2_firstStop wsX2_firstStop ({ frames := 0, cells := 0, slots := 0, locals := 0 } : Room) (va_Pc [.ref (ad 1), .int fr, .int to, .int ln] (fPre D cI cJ cB t0 z tx ad L E)) (va_Qi (fun (r : Int32) (E1 : Nat → va_E) => r = p_stop p g fr to ln n ∧ E1 = E) (fB D z ad L) (fA z)) 0 0 (fA z) := by
  refine f_ofW (cc := cX2_firstStop) (maxL := 7) (ret := some .int) (by decide) rfl (Nat.le_of_ble_eq_true rfl) ?_
  intro pr e s m args below meth c Q hx hb hr hml hts hown hlocks hin hG H locs hI hQ ls hl
  have hl : lv_has ls 7 [(0, .ref (ad 1)), (1, .int fr), (2, .int to), (3, .int ln)] := hl
  have hR : E 1 = .inr (2, [.ref (ad 2), .ref (ad 3), .ref (ad 4), .int (nI n)]) := hR
  have hRw : E 2 = .inl (cI, 5, .inl w) := hRw
  have hRp : E 3 = .inl (cI, 6, .inl p) := hRp
  have hRg : E 4 = .inl (cI, 6, .inl g) := hRg
  refine lv_iconst (v := -1) hx hb dX2_firstStop_0 (by decide) ?_
  refine lv_istore (lv' := [(4, .int (-1)), (0, .ref (ad 1)), (1, .int fr), (2, .int to), (3, .int ln)]) hx hb dX2_firstStop_1 hl (by decide) rfl (fun ls hl => ?_)
  refine lv_iconst (v := 0) hx hb dX2_firstStop_3 (by decide) ?_
  refine lv_istore (lv' := [(5, .int 0), (4, .int (-1)), (0, .ref (ad 1)), (1, .int fr), (2, .int to), (3, .int ln)]) hx hb dX2_firstStop_4 hl (by decide) rfl (fun ls hl => ?_)
  have K : ∀ (k i : Nat), i ≤ n → n + 1 ≤ i + k → ∀ ls : Array Slot, lv_has ls 7 [(0, .ref (ad 1)), (1, .int fr), (2, .int to), (3, .int ln), (4, .int (p_stop p g fr to ln i)), (5, .int (nI i))] → W pr l e ({ frames := 0, cells := 0, slots := 0, locals := 0 } : Room) s m args below meth c H locs 0 0 Q (F0 m 6 ls []) := by
    intro k
    induction k with
    | zero => intro i h1 h2; exact absurd h2 (by omega)
    | succ k ih =>
      intro i hi1 hi2 ls hl
      refine lv_iload hx hb dX2_firstStop_6 (lv_at hl 5 rfl) ?_
      refine lv_aload_n hx hb dX2_firstStop_8 rfl (lv_at hl 0 rfl) ?_
      refine f_get (ci := 2) (v := .int (nI n)) (C := RX2) (T := TX2) (N := 4) hx hb hts (by decide +kernel) hown hG.1 hI rfl hr1 hR rfl 3 (by decide) (hts (.fieldLink RX2 19 "CoracleRace$River" "weirs" "I") (by decide +kernel)) rfl dX2_firstStop_9 ?_
      refine lv_icmp_ge (tgt := 93) hx hb dX2_firstStop_12 (by decide) (fun c_12 => ?_) (fun c_12 => ?_)
      · have n_12 := i_nlt.mpr c_12
        have hi : i = n := by have := (nI_leI (by omega) (by omega)).mp c_12; omega
        subst hi
        refine lv_iload hx hb dX2_firstStop_93 (lv_at hl 4 rfl) ?_
        exact f_reti hQ hx hb hr hlocks hI.2.2 (by omega) (by omega) dX2_firstStop_95 E (fB_of hI) (⟨rfl, rfl⟩)
      · have n_12 := c_12
        have c_12 := i_nle.mp n_12
        have hi : i < n := (nI_ltI (by omega) (by omega)).mp c_12
        have hcl : (nI i).toNatClampNeg = i := nI_clamp (by omega)
        refine lv_aload_n hx hb dX2_firstStop_15 rfl (lv_at hl 0 rfl) ?_
        refine f_get (ci := 2) (v := .ref (ad 3)) (C := RX2) (T := TX2) (N := 4) hx hb hts (by decide +kernel) hown hG.1 hI rfl hr1 hR rfl 1 (by decide) (hts (.fieldLink RX2 13 "CoracleRace$River" "places" "[I") (by decide +kernel)) rfl dX2_firstStop_16 ?_
        refine lv_iload hx hb dX2_firstStop_19 (lv_at hl 5 rfl) ?_
        refine f_iald hx hb hG.1 hI rfl hr3 hRp (vp_in_nI (by omega) (by omega)) dX2_firstStop_21 ?_
        rw [hcl]
        refine lv_iload_n hx hb dX2_firstStop_22 rfl (lv_at hl 1 rfl) ?_
        refine lv_icmp_le (tgt := 41) hx hb dX2_firstStop_23 (by decide) (fun c_23 => ?_) (fun c_23 => ?_)
        · have n_23 := i_nlt.mpr c_23
          refine lv_iconst (v := 0) hx hb dX2_firstStop_41 (by decide) ?_
          refine lv_istore (lv' := [(6, .int 0), (0, .ref (ad 1)), (1, .int fr), (2, .int to), (3, .int ln), (4, .int (p_stop p g fr to ln i)), (5, .int (nI i))]) hx hb dX2_firstStop_42 hl (by decide) rfl (fun ls hl => ?_)
          refine lv_iload hx hb dX2_firstStop_44 (lv_at hl 0 rfl) ?_
          refine lv_if_eq (tgt := 87) hx hb dX2_firstStop_46 (by decide) (fun c_46 => ?_) (fun c_46 => ?_)
          · refine lv_iinc (v := (nI (i + 1))) (lv' := [(5, .int (nI (i + 1))), (6, .int 0), (0, .ref (ad 1)), (1, .int fr), (2, .int to), (3, .int ln), (4, .int (p_stop p g fr to ln i))]) hx hb dX2_firstStop_87 hl (k := 6) rfl (nI_1 i) (by decide) rfl (fun ls hl => ?_)
            refine lv_goto (tgt := 6) hx hb dX2_firstStop_90 (by decide) ?_
            refine ih (i + 1) (by omega) (by omega) ls ?_
            rw [show p_stop p g fr to ln (i + 1) = (p_stop p g fr to ln i) by rw [p_stop]; simp [c_12, n_12, c_23, n_23, c_46]]
            exact lv_sub hl [2, 3, 4, 5, 6, 0] rfl
          · exact absurd c_46 (by decide)
        · have n_23 := c_23
          have c_23 := i_nle.mp n_23
          refine lv_aload_n hx hb dX2_firstStop_26 rfl (lv_at hl 0 rfl) ?_
          refine f_get (ci := 2) (v := .ref (ad 3)) (C := RX2) (T := TX2) (N := 4) hx hb hts (by decide +kernel) hown hG.1 hI rfl hr1 hR rfl 1 (by decide) (hts (.fieldLink RX2 13 "CoracleRace$River" "places" "[I") (by decide +kernel)) rfl dX2_firstStop_27 ?_
          refine lv_iload hx hb dX2_firstStop_30 (lv_at hl 5 rfl) ?_
          refine f_iald hx hb hG.1 hI rfl hr3 hRp (vp_in_nI (by omega) (by omega)) dX2_firstStop_32 ?_
          rw [hcl]
          refine lv_iload_n hx hb dX2_firstStop_33 rfl (lv_at hl 2 rfl) ?_
          refine lv_icmp_gt (tgt := 41) hx hb dX2_firstStop_34 (by decide) (fun c_34 => ?_) (fun c_34 => ?_)
          · have n_34 := i_nle.mpr c_34
            refine lv_iconst (v := 0) hx hb dX2_firstStop_41 (by decide) ?_
            refine lv_istore (lv' := [(6, .int 0), (0, .ref (ad 1)), (1, .int fr), (2, .int to), (3, .int ln), (4, .int (p_stop p g fr to ln i)), (5, .int (nI i))]) hx hb dX2_firstStop_42 hl (by decide) rfl (fun ls hl => ?_)
            refine lv_iload hx hb dX2_firstStop_44 (lv_at hl 0 rfl) ?_
            refine lv_if_eq (tgt := 87) hx hb dX2_firstStop_46 (by decide) (fun c_46 => ?_) (fun c_46 => ?_)
            · refine lv_iinc (v := (nI (i + 1))) (lv' := [(5, .int (nI (i + 1))), (6, .int 0), (0, .ref (ad 1)), (1, .int fr), (2, .int to), (3, .int ln), (4, .int (p_stop p g fr to ln i))]) hx hb dX2_firstStop_87 hl (k := 6) rfl (nI_1 i) (by decide) rfl (fun ls hl => ?_)
              refine lv_goto (tgt := 6) hx hb dX2_firstStop_90 (by decide) ?_
              refine ih (i + 1) (by omega) (by omega) ls ?_
              rw [show p_stop p g fr to ln (i + 1) = (p_stop p g fr to ln i) by rw [p_stop]; simp [c_12, n_12, c_23, n_23, c_34, n_34, c_46]]
              exact lv_sub hl [2, 3, 4, 5, 6, 0] rfl
            · exact absurd c_46 (by decide)
          · have n_34 := c_34
            have c_34 := i_nlt.mp n_34
            refine lv_iconst (v := 1) hx hb dX2_firstStop_37 (by decide) ?_
            refine lv_goto (tgt := 42) hx hb dX2_firstStop_38 (by decide) ?_
            refine lv_istore (lv' := [(6, .int 1), (0, .ref (ad 1)), (1, .int fr), (2, .int to), (3, .int ln), (4, .int (p_stop p g fr to ln i)), (5, .int (nI i))]) hx hb dX2_firstStop_42 hl (by decide) rfl (fun ls hl => ?_)
            refine lv_iload hx hb dX2_firstStop_44 (lv_at hl 0 rfl) ?_
            refine lv_if_eq (tgt := 87) hx hb dX2_firstStop_46 (by decide) (fun c_46 => ?_) (fun c_46 => ?_)
            · exact absurd c_46 (by decide)
            · refine lv_aload_n hx hb dX2_firstStop_49 rfl (lv_at hl 1 rfl) ?_
              refine f_get (ci := 2) (v := .ref (ad 4)) (C := RX2) (T := TX2) (N := 4) hx hb hts (by decide +kernel) hown hG.1 hI rfl hr1 hR rfl 2 (by decide) (hts (.fieldLink RX2 16 "CoracleRace$River" "gaps" "[I") (by decide +kernel)) rfl dX2_firstStop_50 ?_
              refine lv_iload hx hb dX2_firstStop_53 (lv_at hl 6 rfl) ?_
              refine f_iald hx hb hG.1 hI rfl hr4 hRg (vp_in_nI (by omega) (by omega)) dX2_firstStop_55 ?_
              rw [hcl]
              refine lv_iload_n hx hb dX2_firstStop_56 rfl (lv_at hl 4 rfl) ?_
              refine lv_icmp_eq (tgt := 87) hx hb dX2_firstStop_57 (by decide) (fun c_57 => ?_) (fun c_57 => ?_)
              · refine lv_iinc (v := (nI (i + 1))) (lv' := [(5, .int (nI (i + 1))), (6, .int 1), (0, .ref (ad 1)), (1, .int fr), (2, .int to), (3, .int ln), (4, .int (p_stop p g fr to ln i))]) hx hb dX2_firstStop_87 hl (k := 6) rfl (nI_1 i) (by decide) rfl (fun ls hl => ?_)
                refine lv_goto (tgt := 6) hx hb dX2_firstStop_90 (by decide) ?_
                refine ih (i + 1) (by omega) (by omega) ls ?_
                rw [show p_stop p g fr to ln (i + 1) = (p_stop p g fr to ln i) by rw [p_stop]; simp [c_12, n_12, c_23, n_23, c_34, n_34, c_46, c_57]]
                exact lv_sub hl [2, 3, 4, 5, 6, 0] rfl
              · refine lv_iload hx hb dX2_firstStop_60 (lv_at hl 5 rfl) ?_
                refine lv_iconst (v := -1) hx hb dX2_firstStop_62 (by decide) ?_
                refine lv_icmp_eq (tgt := 78) hx hb dX2_firstStop_63 (by decide) (fun c_63 => ?_) (fun c_63 => ?_)
                · refine lv_aload_n hx hb dX2_firstStop_78 rfl (lv_at hl 1 rfl) ?_
                  refine f_get (ci := 2) (v := .ref (ad 3)) (C := RX2) (T := TX2) (N := 4) hx hb hts (by decide +kernel) hown hG.1 hI rfl hr1 hR rfl 1 (by decide) (hts (.fieldLink RX2 13 "CoracleRace$River" "places" "[I") (by decide +kernel)) rfl dX2_firstStop_79 ?_
                  refine lv_iload hx hb dX2_firstStop_82 (lv_at hl 6 rfl) ?_
                  refine f_iald hx hb hG.1 hI rfl hr3 hRp (vp_in_nI (by omega) (by omega)) dX2_firstStop_84 ?_
                  rw [hcl]
                  refine lv_istore (lv' := [(4, .int (p i)), (6, .int 1), (0, .ref (ad 1)), (1, .int fr), (2, .int to), (3, .int ln), (5, .int (nI i))]) hx hb dX2_firstStop_85 hl (by decide) rfl (fun ls hl => ?_)
                  refine lv_iinc (v := (nI (i + 1))) (lv' := [(5, .int (nI (i + 1))), (4, .int (p i)), (6, .int 1), (0, .ref (ad 1)), (1, .int fr), (2, .int to), (3, .int ln)]) hx hb dX2_firstStop_87 hl (k := 6) rfl (nI_1 i) (by decide) rfl (fun ls hl => ?_)
                  refine lv_goto (tgt := 6) hx hb dX2_firstStop_90 (by decide) ?_
                  refine ih (i + 1) (by omega) (by omega) ls ?_
                  rw [show p_stop p g fr to ln (i + 1) = (p i) by rw [p_stop]; simp [c_12, n_12, c_23, n_23, c_34, n_34, c_46, c_57, c_63]]
                  exact lv_sub hl [3, 4, 5, 6, 1, 0] rfl
                · refine lv_aload_n hx hb dX2_firstStop_66 rfl (lv_at hl 1 rfl) ?_
                  refine f_get (ci := 2) (v := .ref (ad 3)) (C := RX2) (T := TX2) (N := 4) hx hb hts (by decide +kernel) hown hG.1 hI rfl hr1 hR rfl 1 (by decide) (hts (.fieldLink RX2 13 "CoracleRace$River" "places" "[I") (by decide +kernel)) rfl dX2_firstStop_67 ?_
                  refine lv_iload hx hb dX2_firstStop_70 (lv_at hl 6 rfl) ?_
                  refine f_iald hx hb hG.1 hI rfl hr3 hRp (vp_in_nI (by omega) (by omega)) dX2_firstStop_72 ?_
                  rw [hcl]
                  refine lv_iload hx hb dX2_firstStop_73 (lv_at hl 5 rfl) ?_
                  refine lv_icmp_ge (tgt := 87) hx hb dX2_firstStop_75 (by decide) (fun c_75 => ?_) (fun c_75 => ?_)
                  · have n_75 := i_nlt.mpr c_75
                    refine lv_iinc (v := (nI (i + 1))) (lv' := [(5, .int (nI (i + 1))), (6, .int 1), (0, .ref (ad 1)), (1, .int fr), (2, .int to), (3, .int ln), (4, .int (p_stop p g fr to ln i))]) hx hb dX2_firstStop_87 hl (k := 6) rfl (nI_1 i) (by decide) rfl (fun ls hl => ?_)
                    refine lv_goto (tgt := 6) hx hb dX2_firstStop_90 (by decide) ?_
                    refine ih (i + 1) (by omega) (by omega) ls ?_
                    rw [show p_stop p g fr to ln (i + 1) = (p_stop p g fr to ln i) by rw [p_stop]; simp [c_12, n_12, c_23, n_23, c_34, n_34, c_46, c_57, c_63, c_75, n_75]]
                    exact lv_sub hl [2, 3, 4, 5, 6, 0] rfl
                  · have n_75 := c_75
                    have c_75 := i_nle.mp n_75
                    refine lv_aload_n hx hb dX2_firstStop_78 rfl (lv_at hl 1 rfl) ?_
                    refine f_get (ci := 2) (v := .ref (ad 3)) (C := RX2) (T := TX2) (N := 4) hx hb hts (by decide +kernel) hown hG.1 hI rfl hr1 hR rfl 1 (by decide) (hts (.fieldLink RX2 13 "CoracleRace$River" "places" "[I") (by decide +kernel)) rfl dX2_firstStop_79 ?_
                    refine lv_iload hx hb dX2_firstStop_82 (lv_at hl 6 rfl) ?_
                    refine f_iald hx hb hG.1 hI rfl hr3 hRp (vp_in_nI (by omega) (by omega)) dX2_firstStop_84 ?_
                    rw [hcl]
                    refine lv_istore (lv' := [(4, .int (p i)), (6, .int 1), (0, .ref (ad 1)), (1, .int fr), (2, .int to), (3, .int ln), (5, .int (nI i))]) hx hb dX2_firstStop_85 hl (by decide) rfl (fun ls hl => ?_)
                    refine lv_iinc (v := (nI (i + 1))) (lv' := [(5, .int (nI (i + 1))), (4, .int (p i)), (6, .int 1), (0, .ref (ad 1)), (1, .int fr), (2, .int to), (3, .int ln)]) hx hb dX2_firstStop_87 hl (k := 6) rfl (nI_1 i) (by decide) rfl (fun ls hl => ?_)
                    refine lv_goto (tgt := 6) hx hb dX2_firstStop_90 (by decide) ?_
                    refine ih (i + 1) (by omega) (by omega) ls ?_
                    rw [show p_stop p g fr to ln (i + 1) = (p i) by rw [p_stop]; simp [c_12, n_12, c_23, n_23, c_34, n_34, c_46, c_57, c_63, c_75, n_75]]
                    exact lv_sub hl [3, 4, 5, 6, 1, 0] rfl
  exact K (n + 1) 0 (Nat.zero_le _) (by omega) ls (lv_sub hl [2, 3, 4, 5, 1, 0] rfl)

set_option maxHeartbeats 4000000 in
set_option maxRecDepth 100000 in
theorem m_X0_soak (l : Launch) {D : va_G} {cI cJ cB : ClassId} {t0 z : Nat} {tx ad : Nat → Nat} {L : List Nat} {E : Nat → va_E} {kb a : Nat} (ha : ad kb = a) (hk : kb ∈ L) {b : Nat → Int32} (hC : E kb = bE ad kb b) (x : Int32) : Met l yX0_soak wsX0_soak ({ frames := 1, cells := 0, slots := 0, locals := 14 } : Room) (va_Pc [.ref a, .int x] (fPre D cI cJ cB t0 z tx ad L E)) (va_Qv (fun (E1 : Nat → va_E) => E1 kb = bE ad kb (p_soak b x) ∧ ∀ q, q ≠ kb → E1 q = E q) (fB D z ad L) (fA z)) 0 0 (fA z) := by
  refine f_ofW (cc := cX0_soak) (maxL := 2) (ret := none) (by decide) rfl (Nat.le_of_ble_eq_true rfl) ?_
  intro pr e s m args below meth c Q hx hb hr hml hts hown hlocks hin hG H locs hI hQ ls hl
  have hl : lv_has ls 2 [(0, .ref a), (1, .int x)] := hl
  have hfr : ∀ q : Nat, q ≠ kb → E q = E q := fun _ _ => rfl
  have hC : E kb = .inr (0, [.ref (ad (kb + 1)), .int (b 1), .int (b 2), .int (b 3), .int (b 4), .int (b 5), .int (b 6), .int (b 7), .int (b 8), .int (b 9), .int (b 10), .int (b 11)]) := hC
  refine lv_aload_n hx hb dX0_soak_0 rfl (lv_at hl 0 rfl) ?_
  refine lv_aload_n hx hb dX0_soak_1 rfl (lv_at hl 0 rfl) ?_
  refine f_get (ci := 0) (v := .int (b 6)) (C := RX0) (T := TX0) (N := 12) hx hb hts (by decide +kernel) hown hG.1 hI ha hk hC rfl 6 (by decide) (hts (.fieldLink RX0 29 "CoracleRace$Boat" "soaked" "I") (by decide +kernel)) rfl dX0_soak_2 ?_
  refine lv_iload_n hx hb dX0_soak_5 rfl (lv_at hl 1 rfl) ?_
  refine lv_iadd hx hb dX0_soak_6 ?_
  refine lv_bipush (v := 30) hx hb dX0_soak_7 (by decide) ?_
  refine va_mmin hx hb (hml.trans hl.1.symm) hown (hts (.methodLink RX0 108 Lib.Math.min.name) (by decide +kernel)) (hts (.static Lib.Math.min.name) (by decide +kernel)) (hts (.initialized "java/lang/Math") (by decide +kernel)) (hts (.code Lib.Math.min.name Lib.Math.min.code 2 (some .int)) (by decide +kernel)) (Nat.le_of_ble_eq_true rfl) (Nat.le_of_ble_eq_true rfl) (Nat.zero_le _) (Nat.zero_le _) dX0_soak_9 ?_
  refine f_put (ci := 0) (v := .int (if 30 < ((b 6) + x) then 30 else ((b 6) + x))) (C := RX0) (T := TX0) (N := 12) hx hb hts (by decide +kernel) tyX0 tyX0_ok nmX0 hown hG.1 hI ha hk hC rfl 6 (by decide) (hts (.fieldLink RX0 29 "CoracleRace$Boat" "soaked" "I") (by decide +kernel)) rfl rfl rfl (Nat.le_of_ble_eq_true rfl) dX0_soak_12 (fun E1 H locs hE2 hn3 hI => ?_)
  have hC : E1 kb = .inr (0, [.ref (ad (kb + 1)), .int (b 1), .int (b 2), .int (b 3), .int (b 4), .int (b 5), .int (if 30 < ((b 6) + x) then 30 else ((b 6) + x)), .int (b 7), .int (b 8), .int (b 9), .int (b 10), .int (b 11)]) := hE2
  have hfr : ∀ q : Nat, q ≠ kb → E1 q = E q := fun q hq => (hn3 q (by omega)).trans (hfr q hq)
  exact f_retv hQ hx hb hr hlocks hI.2.2 (by omega) (by omega) dX0_soak_15 E1 (fB_of hI) (⟨by rw [hC]; simp [p_soak, va_up, p_min], hfr⟩)

set_option maxHeartbeats 4000000 in
set_option maxRecDepth 100000 in
theorem m_X0_pushOf (l : Launch) {D : va_G} {cI cJ cB : ClassId} {t0 z : Nat} {tx ad : Nat → Nat} {L : List Nat} {E : Nat → va_E} {kb a : Nat} (ha : ad kb = a) (hk : kb ∈ L) {b : Nat → Int32} (hC : E kb = bE ad kb b) (k : Int32) : Met l yX0_pushOf wsX0_pushOf ({ frames := 0, cells := 0, slots := 0, locals := 0 } : Room) (va_Pc [.ref a, .int k] (fPre D cI cJ cB t0 z tx ad L E)) (va_Qi (fun (r : Int32) (E1 : Nat → va_E) => r = p_push b k ∧ E1 = E) (fB D z ad L) (fA z)) 0 0 (fA z) := by
  refine f_ofW (cc := cX0_pushOf) (maxL := 2) (ret := some .int) (by decide) rfl (Nat.le_of_ble_eq_true rfl) ?_
  intro pr e s m args below meth c Q hx hb hr hml hts hown hlocks hin hG H locs hI hQ ls hl
  have hl : lv_has ls 2 [(0, .ref a), (1, .int k)] := hl
  have hC : E kb = .inr (0, [.ref (ad (kb + 1)), .int (b 1), .int (b 2), .int (b 3), .int (b 4), .int (b 5), .int (b 6), .int (b 7), .int (b 8), .int (b 9), .int (b 10), .int (b 11)]) := hC
  refine lv_iload_n hx hb dX0_pushOf_0 rfl (lv_at hl 1 rfl) ?_
  refine lv_iconst (v := 3) hx hb dX0_pushOf_1 (by decide) ?_
  refine lv_icmp_ne (tgt := 10) hx hb dX0_pushOf_2 (by decide) (fun c_2 => ?_) (fun c_2 => ?_)
  · refine lv_iload_n hx hb dX0_pushOf_10 rfl (lv_at hl 1 rfl) ?_
    refine lv_if_ne (tgt := 18) hx hb dX0_pushOf_11 (by decide) (fun c_11 => ?_) (fun c_11 => ?_)
    · refine lv_aload_n hx hb dX0_pushOf_18 rfl (lv_at hl 0 rfl) ?_
      refine f_get (ci := 0) (v := .int (b 2)) (C := RX0) (T := TX0) (N := 12) hx hb hts (by decide +kernel) hown hG.1 hI ha hk hC rfl 2 (by decide) (hts (.fieldLink RX0 17 "CoracleRace$Boat" "strength" "I") (by decide +kernel)) rfl dX0_pushOf_19 ?_
      refine lv_iconst (v := 2) hx hb dX0_pushOf_22 (by decide) ?_
      refine lv_idiv hx hb dX0_pushOf_23 (by decide) ?_
      exact f_reti hQ hx hb hr hlocks hI.2.2 (by omega) (by omega) dX0_pushOf_24 E (fB_of hI) (⟨by simp [p_push, c_2, c_11], rfl⟩)
    · refine lv_iconst (v := 0) hx hb dX0_pushOf_14 (by decide) ?_
      refine lv_goto (tgt := 24) hx hb dX0_pushOf_15 (by decide) ?_
      exact f_reti hQ hx hb hr hlocks hI.2.2 (by omega) (by omega) dX0_pushOf_24 E (fB_of hI) (⟨by simp [p_push, c_2, c_11], rfl⟩)
  · refine lv_aload_n hx hb dX0_pushOf_5 rfl (lv_at hl 0 rfl) ?_
    refine f_get (ci := 0) (v := .int (b 2)) (C := RX0) (T := TX0) (N := 12) hx hb hts (by decide +kernel) hown hG.1 hI ha hk hC rfl 2 (by decide) (hts (.fieldLink RX0 17 "CoracleRace$Boat" "strength" "I") (by decide +kernel)) rfl dX0_pushOf_6 ?_
    exact f_reti hQ hx hb hr hlocks hI.2.2 (by omega) (by omega) dX0_pushOf_9 E (fB_of hI) (⟨by simp [p_push, c_2], rfl⟩)

set_option maxHeartbeats 4000000 in
set_option maxRecDepth 100000 in
theorem m_X0_forceOf (l : Launch) {D : va_G} {cI cJ cB : ClassId} {t0 z : Nat} {tx ad : Nat → Nat} {L : List Nat} {E : Nat → va_E} {kb a : Nat} (ha : ad kb = a) (hk : kb ∈ L) {b : Nat → Int32} (hC : E kb = bE ad kb b) (k : Int32) : Met l yX0_forceOf wsX0_forceOf ({ frames := 1, cells := 0, slots := 0, locals := 21 } : Room) (va_Pc [.ref a, .int k] (fPre D cI cJ cB t0 z tx ad L E)) (va_Qi (fun (r : Int32) (E1 : Nat → va_E) => r = p_force b k ∧ E1 kb = bE ad kb (p_turn b k) ∧ ∀ q, q ≠ kb → E1 q = E q) (fB D z ad L) (fA z)) 0 0 (fA z) := by
  refine f_ofW (cc := cX0_forceOf) (maxL := 2) (ret := some .int) (by decide) rfl (Nat.le_of_ble_eq_true rfl) ?_
  intro pr e s m args below meth c Q hx hb hr hml hts hown hlocks hin hG H locs hI hQ ls hl
  have hl : lv_has ls 2 [(0, .ref a), (1, .int k)] := hl
  have hfr : ∀ q : Nat, q ≠ kb → E q = E q := fun _ _ => rfl
  have hC : E kb = .inr (0, [.ref (ad (kb + 1)), .int (b 1), .int (b 2), .int (b 3), .int (b 4), .int (b 5), .int (b 6), .int (b 7), .int (b 8), .int (b 9), .int (b 10), .int (b 11)]) := hC
  refine lv_iload_n hx hb dX0_forceOf_0 rfl (lv_at hl 1 rfl) ?_
  refine lv_iconst (v := 1) hx hb dX0_forceOf_1 (by decide) ?_
  refine lv_icmp_ne (tgt := 18) hx hb dX0_forceOf_2 (by decide) (fun c_2 => ?_) (fun c_2 => ?_)
  · refine lv_iload_n hx hb dX0_forceOf_18 rfl (lv_at hl 1 rfl) ?_
    refine lv_iconst (v := 2) hx hb dX0_forceOf_19 (by decide) ?_
    refine lv_icmp_ne (tgt := 33) hx hb dX0_forceOf_20 (by decide) (fun c_20 => ?_) (fun c_20 => ?_)
    · refine lv_aload_n hx hb dX0_forceOf_33 rfl (lv_at hl 0 rfl) ?_
      refine f_get (ci := 0) (v := .int (b 5)) (C := RX0) (T := TX0) (N := 12) hx hb hts (by decide +kernel) hown hG.1 hI ha hk hC rfl 5 (by decide) (hts (.fieldLink RX0 26 "CoracleRace$Boat" "heading" "I") (by decide +kernel)) rfl dX0_forceOf_34 ?_
      refine lv_iconst (v := 4) hx hb dX0_forceOf_37 (by decide) ?_
      refine lv_icmp_gt (tgt := 50) hx hb dX0_forceOf_38 (by decide) (fun c_38 => ?_) (fun c_38 => ?_)
      · have n_38 := i_nle.mpr c_38
        refine lv_aload_n hx hb dX0_forceOf_50 rfl (lv_at hl 0 rfl) ?_
        refine lv_iconst (v := 0) hx hb dX0_forceOf_51 (by decide) ?_
        refine f_put (ci := 0) (v := .int 0) (C := RX0) (T := TX0) (N := 12) hx hb hts (by decide +kernel) tyX0 tyX0_ok nmX0 hown hG.1 hI ha hk hC rfl 5 (by decide) (hts (.fieldLink RX0 26 "CoracleRace$Boat" "heading" "I") (by decide +kernel)) rfl rfl rfl (Nat.le_of_ble_eq_true rfl) dX0_forceOf_52 (fun E1 H locs hE2 hn3 hI => ?_)
        have hC : E1 kb = .inr (0, [.ref (ad (kb + 1)), .int (b 1), .int (b 2), .int (b 3), .int (b 4), .int 0, .int (b 6), .int (b 7), .int (b 8), .int (b 9), .int (b 10), .int (b 11)]) := hE2
        have hfr : ∀ q : Nat, q ≠ kb → E1 q = E q := fun q hq => (hn3 q (by omega)).trans (hfr q hq)
        refine lv_aload_n hx hb dX0_forceOf_55 rfl (lv_at hl 0 rfl) ?_
        refine lv_dup hx hb dX0_forceOf_56 rfl ?_
        refine f_get (ci := 0) (v := .int (b 10)) (C := RX0) (T := TX0) (N := 12) hx hb hts (by decide +kernel) hown hG.1 hI ha hk hC rfl 10 (by decide) (hts (.fieldLink RX0 42 "CoracleRace$Boat" "spins" "I") (by decide +kernel)) rfl dX0_forceOf_57 ?_
        refine lv_iconst (v := 1) hx hb dX0_forceOf_60 (by decide) ?_
        refine lv_iadd hx hb dX0_forceOf_61 ?_
        refine f_put (ci := 0) (v := .int ((b 10) + 1)) (C := RX0) (T := TX0) (N := 12) hx hb hts (by decide +kernel) tyX0 tyX0_ok nmX0 hown hG.1 hI ha hk hC rfl 10 (by decide) (hts (.fieldLink RX0 42 "CoracleRace$Boat" "spins" "I") (by decide +kernel)) rfl rfl rfl (Nat.le_of_ble_eq_true rfl) dX0_forceOf_62 (fun E4 H locs hE5 hn6 hI => ?_)
        have hC : E4 kb = .inr (0, [.ref (ad (kb + 1)), .int (b 1), .int (b 2), .int (b 3), .int (b 4), .int 0, .int (b 6), .int (b 7), .int (b 8), .int (b 9), .int ((b 10) + 1), .int (b 11)]) := hE5
        have hfr : ∀ q : Nat, q ≠ kb → E4 q = E q := fun q hq => (hn6 q (by omega)).trans (hfr q hq)
        refine lv_iconst (v := 0) hx hb dX0_forceOf_65 (by decide) ?_
        exact f_reti hQ hx hb hr hlocks hI.2.2 (by omega) (by omega) dX0_forceOf_66 E4 (fB_of hI) (⟨by simp [p_force, p_head, p_max, p_push, va_up, c_2, c_20, c_38, n_38], by rw [hC]; simp [p_turn, p_head, va_up, c_2, c_20, c_38, n_38], hfr⟩)
      · have n_38 := c_38
        have c_38 := i_nlt.mp n_38
        refine lv_aload_n hx hb dX0_forceOf_41 rfl (lv_at hl 0 rfl) ?_
        refine f_get (ci := 0) (v := .int (b 5)) (C := RX0) (T := TX0) (N := 12) hx hb hts (by decide +kernel) hown hG.1 hI ha hk hC rfl 5 (by decide) (hts (.fieldLink RX0 26 "CoracleRace$Boat" "heading" "I") (by decide +kernel)) rfl dX0_forceOf_42 ?_
        refine lv_bipush (v := -4) hx hb dX0_forceOf_45 (by decide) ?_
        refine lv_icmp_ge (tgt := 67) hx hb dX0_forceOf_47 (by decide) (fun c_47 => ?_) (fun c_47 => ?_)
        · have n_47 := i_nlt.mpr c_47
          refine lv_iconst (v := 0) hx hb dX0_forceOf_67 (by decide) ?_
          refine lv_aload_n hx hb dX0_forceOf_68 rfl (lv_at hl 0 rfl) ?_
          refine lv_iload_n hx hb dX0_forceOf_69 rfl (lv_at hl 1 rfl) ?_
          refine f_calli1 (va_runV (As := [.int k]) (rest := [.int 0]) ⟨hx, hb, hml, hown, hts⟩ (m_X0_pushOf l ha hk (b := va_up b 5 (b 5)) hC k) (cwV 1 hts gX0_forceOf_X0_pushOf rfl rfl rfl (by decide +kernel) ⟨Nat.le_of_ble_eq_true rfl, Nat.le_of_ble_eq_true rfl⟩) (fPre_ofV hG hI ha hk hC rfl rfl) rfl rfl hl.1 rfl (lv_room (Nat.le_of_ble_eq_true rfl)) dX0_forceOf_70 ⟨Nat.le_of_ble_eq_true rfl, Nat.le_of_ble_eq_true rfl⟩) hI (fun r7 E8 H locs hp hI => ?_)
          obtain ⟨he, rfl⟩ := hp
          subst he
          refine lv_aload_n hx hb dX0_forceOf_73 rfl (lv_at hl 0 rfl) ?_
          refine f_get (ci := 0) (v := .int (b 6)) (C := RX0) (T := TX0) (N := 12) hx hb hts (by decide +kernel) hown hG.1 hI ha hk hC rfl 6 (by decide) (hts (.fieldLink RX0 29 "CoracleRace$Boat" "soaked" "I") (by decide +kernel)) rfl dX0_forceOf_74 ?_
          refine lv_bipush (v := 6) hx hb dX0_forceOf_77 (by decide) ?_
          refine lv_idiv hx hb dX0_forceOf_79 (by decide) ?_
          refine lv_isub hx hb dX0_forceOf_80 ?_
          refine va_mmax hx hb (hml.trans hl.1.symm) hown (hts (.methodLink RX0 91 Lib.Math.max.name) (by decide +kernel)) (hts (.static Lib.Math.max.name) (by decide +kernel)) (hts (.initialized "java/lang/Math") (by decide +kernel)) (hts (.code Lib.Math.max.name Lib.Math.max.code 2 (some .int)) (by decide +kernel)) (Nat.le_of_ble_eq_true rfl) (Nat.le_of_ble_eq_true rfl) (Nat.zero_le _) (Nat.zero_le _) dX0_forceOf_81 ?_
          exact f_reti hQ hx hb hr hlocks hI.2.2 (by omega) (by omega) dX0_forceOf_84 E (fB_of hI) (⟨by simp [p_force, p_head, p_max, p_push, va_up, c_2, c_20, c_38, n_38, c_47, n_47], by rw [hC]; simp [p_turn, p_head, va_up, c_2, c_20, c_38, n_38, c_47, n_47], hfr⟩)
        · have n_47 := c_47
          have c_47 := i_nle.mp n_47
          refine lv_aload_n hx hb dX0_forceOf_50 rfl (lv_at hl 0 rfl) ?_
          refine lv_iconst (v := 0) hx hb dX0_forceOf_51 (by decide) ?_
          refine f_put (ci := 0) (v := .int 0) (C := RX0) (T := TX0) (N := 12) hx hb hts (by decide +kernel) tyX0 tyX0_ok nmX0 hown hG.1 hI ha hk hC rfl 5 (by decide) (hts (.fieldLink RX0 26 "CoracleRace$Boat" "heading" "I") (by decide +kernel)) rfl rfl rfl (Nat.le_of_ble_eq_true rfl) dX0_forceOf_52 (fun E9 H locs hE10 hn11 hI => ?_)
          have hC : E9 kb = .inr (0, [.ref (ad (kb + 1)), .int (b 1), .int (b 2), .int (b 3), .int (b 4), .int 0, .int (b 6), .int (b 7), .int (b 8), .int (b 9), .int (b 10), .int (b 11)]) := hE10
          have hfr : ∀ q : Nat, q ≠ kb → E9 q = E q := fun q hq => (hn11 q (by omega)).trans (hfr q hq)
          refine lv_aload_n hx hb dX0_forceOf_55 rfl (lv_at hl 0 rfl) ?_
          refine lv_dup hx hb dX0_forceOf_56 rfl ?_
          refine f_get (ci := 0) (v := .int (b 10)) (C := RX0) (T := TX0) (N := 12) hx hb hts (by decide +kernel) hown hG.1 hI ha hk hC rfl 10 (by decide) (hts (.fieldLink RX0 42 "CoracleRace$Boat" "spins" "I") (by decide +kernel)) rfl dX0_forceOf_57 ?_
          refine lv_iconst (v := 1) hx hb dX0_forceOf_60 (by decide) ?_
          refine lv_iadd hx hb dX0_forceOf_61 ?_
          refine f_put (ci := 0) (v := .int ((b 10) + 1)) (C := RX0) (T := TX0) (N := 12) hx hb hts (by decide +kernel) tyX0 tyX0_ok nmX0 hown hG.1 hI ha hk hC rfl 10 (by decide) (hts (.fieldLink RX0 42 "CoracleRace$Boat" "spins" "I") (by decide +kernel)) rfl rfl rfl (Nat.le_of_ble_eq_true rfl) dX0_forceOf_62 (fun E12 H locs hE13 hn14 hI => ?_)
          have hC : E12 kb = .inr (0, [.ref (ad (kb + 1)), .int (b 1), .int (b 2), .int (b 3), .int (b 4), .int 0, .int (b 6), .int (b 7), .int (b 8), .int (b 9), .int ((b 10) + 1), .int (b 11)]) := hE13
          have hfr : ∀ q : Nat, q ≠ kb → E12 q = E q := fun q hq => (hn14 q (by omega)).trans (hfr q hq)
          refine lv_iconst (v := 0) hx hb dX0_forceOf_65 (by decide) ?_
          exact f_reti hQ hx hb hr hlocks hI.2.2 (by omega) (by omega) dX0_forceOf_66 E12 (fB_of hI) (⟨by simp [p_force, p_head, p_max, p_push, va_up, c_2, c_20, c_38, n_38, c_47, n_47], by rw [hC]; simp [p_turn, p_head, va_up, c_2, c_20, c_38, n_38, c_47, n_47], hfr⟩)
    · refine lv_aload_n hx hb dX0_forceOf_23 rfl (lv_at hl 0 rfl) ?_
      refine lv_dup hx hb dX0_forceOf_24 rfl ?_
      refine f_get (ci := 0) (v := .int (b 5)) (C := RX0) (T := TX0) (N := 12) hx hb hts (by decide +kernel) hown hG.1 hI ha hk hC rfl 5 (by decide) (hts (.fieldLink RX0 26 "CoracleRace$Boat" "heading" "I") (by decide +kernel)) rfl dX0_forceOf_25 ?_
      refine lv_iconst (v := 1) hx hb dX0_forceOf_28 (by decide) ?_
      refine lv_isub hx hb dX0_forceOf_29 ?_
      refine f_put (ci := 0) (v := .int ((b 5) - 1)) (C := RX0) (T := TX0) (N := 12) hx hb hts (by decide +kernel) tyX0 tyX0_ok nmX0 hown hG.1 hI ha hk hC rfl 5 (by decide) (hts (.fieldLink RX0 26 "CoracleRace$Boat" "heading" "I") (by decide +kernel)) rfl rfl rfl (Nat.le_of_ble_eq_true rfl) dX0_forceOf_30 (fun E15 H locs hE16 hn17 hI => ?_)
      have hC : E15 kb = .inr (0, [.ref (ad (kb + 1)), .int (b 1), .int (b 2), .int (b 3), .int (b 4), .int ((b 5) - 1), .int (b 6), .int (b 7), .int (b 8), .int (b 9), .int (b 10), .int (b 11)]) := hE16
      have hfr : ∀ q : Nat, q ≠ kb → E15 q = E q := fun q hq => (hn17 q (by omega)).trans (hfr q hq)
      refine lv_aload_n hx hb dX0_forceOf_33 rfl (lv_at hl 0 rfl) ?_
      refine f_get (ci := 0) (v := .int ((b 5) - 1)) (C := RX0) (T := TX0) (N := 12) hx hb hts (by decide +kernel) hown hG.1 hI ha hk hC rfl 5 (by decide) (hts (.fieldLink RX0 26 "CoracleRace$Boat" "heading" "I") (by decide +kernel)) rfl dX0_forceOf_34 ?_
      refine lv_iconst (v := 4) hx hb dX0_forceOf_37 (by decide) ?_
      refine lv_icmp_gt (tgt := 50) hx hb dX0_forceOf_38 (by decide) (fun c_38 => ?_) (fun c_38 => ?_)
      · have n_38 := i_nle.mpr c_38
        refine lv_aload_n hx hb dX0_forceOf_50 rfl (lv_at hl 0 rfl) ?_
        refine lv_iconst (v := 0) hx hb dX0_forceOf_51 (by decide) ?_
        refine f_put (ci := 0) (v := .int 0) (C := RX0) (T := TX0) (N := 12) hx hb hts (by decide +kernel) tyX0 tyX0_ok nmX0 hown hG.1 hI ha hk hC rfl 5 (by decide) (hts (.fieldLink RX0 26 "CoracleRace$Boat" "heading" "I") (by decide +kernel)) rfl rfl rfl (Nat.le_of_ble_eq_true rfl) dX0_forceOf_52 (fun E18 H locs hE19 hn20 hI => ?_)
        have hC : E18 kb = .inr (0, [.ref (ad (kb + 1)), .int (b 1), .int (b 2), .int (b 3), .int (b 4), .int 0, .int (b 6), .int (b 7), .int (b 8), .int (b 9), .int (b 10), .int (b 11)]) := hE19
        have hfr : ∀ q : Nat, q ≠ kb → E18 q = E q := fun q hq => (hn20 q (by omega)).trans (hfr q hq)
        refine lv_aload_n hx hb dX0_forceOf_55 rfl (lv_at hl 0 rfl) ?_
        refine lv_dup hx hb dX0_forceOf_56 rfl ?_
        refine f_get (ci := 0) (v := .int (b 10)) (C := RX0) (T := TX0) (N := 12) hx hb hts (by decide +kernel) hown hG.1 hI ha hk hC rfl 10 (by decide) (hts (.fieldLink RX0 42 "CoracleRace$Boat" "spins" "I") (by decide +kernel)) rfl dX0_forceOf_57 ?_
        refine lv_iconst (v := 1) hx hb dX0_forceOf_60 (by decide) ?_
        refine lv_iadd hx hb dX0_forceOf_61 ?_
        refine f_put (ci := 0) (v := .int ((b 10) + 1)) (C := RX0) (T := TX0) (N := 12) hx hb hts (by decide +kernel) tyX0 tyX0_ok nmX0 hown hG.1 hI ha hk hC rfl 10 (by decide) (hts (.fieldLink RX0 42 "CoracleRace$Boat" "spins" "I") (by decide +kernel)) rfl rfl rfl (Nat.le_of_ble_eq_true rfl) dX0_forceOf_62 (fun E21 H locs hE22 hn23 hI => ?_)
        have hC : E21 kb = .inr (0, [.ref (ad (kb + 1)), .int (b 1), .int (b 2), .int (b 3), .int (b 4), .int 0, .int (b 6), .int (b 7), .int (b 8), .int (b 9), .int ((b 10) + 1), .int (b 11)]) := hE22
        have hfr : ∀ q : Nat, q ≠ kb → E21 q = E q := fun q hq => (hn23 q (by omega)).trans (hfr q hq)
        refine lv_iconst (v := 0) hx hb dX0_forceOf_65 (by decide) ?_
        exact f_reti hQ hx hb hr hlocks hI.2.2 (by omega) (by omega) dX0_forceOf_66 E21 (fB_of hI) (⟨by simp [p_force, p_head, p_max, p_push, va_up, c_2, c_20, c_38, n_38], by rw [hC]; simp [p_turn, p_head, va_up, c_2, c_20, c_38, n_38], hfr⟩)
      · have n_38 := c_38
        have c_38 := i_nlt.mp n_38
        refine lv_aload_n hx hb dX0_forceOf_41 rfl (lv_at hl 0 rfl) ?_
        refine f_get (ci := 0) (v := .int ((b 5) - 1)) (C := RX0) (T := TX0) (N := 12) hx hb hts (by decide +kernel) hown hG.1 hI ha hk hC rfl 5 (by decide) (hts (.fieldLink RX0 26 "CoracleRace$Boat" "heading" "I") (by decide +kernel)) rfl dX0_forceOf_42 ?_
        refine lv_bipush (v := -4) hx hb dX0_forceOf_45 (by decide) ?_
        refine lv_icmp_ge (tgt := 67) hx hb dX0_forceOf_47 (by decide) (fun c_47 => ?_) (fun c_47 => ?_)
        · have n_47 := i_nlt.mpr c_47
          refine lv_iconst (v := 0) hx hb dX0_forceOf_67 (by decide) ?_
          refine lv_aload_n hx hb dX0_forceOf_68 rfl (lv_at hl 0 rfl) ?_
          refine lv_iload_n hx hb dX0_forceOf_69 rfl (lv_at hl 1 rfl) ?_
          refine f_calli1 (va_runV (As := [.int k]) (rest := [.int 0]) ⟨hx, hb, hml, hown, hts⟩ (m_X0_pushOf l ha hk (b := va_up b 5 ((b 5) - 1)) hC k) (cwV 1 hts gX0_forceOf_X0_pushOf rfl rfl rfl (by decide +kernel) ⟨Nat.le_of_ble_eq_true rfl, Nat.le_of_ble_eq_true rfl⟩) (fPre_ofV hG hI ha hk hC rfl rfl) rfl rfl hl.1 rfl (lv_room (Nat.le_of_ble_eq_true rfl)) dX0_forceOf_70 ⟨Nat.le_of_ble_eq_true rfl, Nat.le_of_ble_eq_true rfl⟩) hI (fun r24 E25 H locs hp hI => ?_)
          obtain ⟨he, rfl⟩ := hp
          subst he
          refine lv_aload_n hx hb dX0_forceOf_73 rfl (lv_at hl 0 rfl) ?_
          refine f_get (ci := 0) (v := .int (b 6)) (C := RX0) (T := TX0) (N := 12) hx hb hts (by decide +kernel) hown hG.1 hI ha hk hC rfl 6 (by decide) (hts (.fieldLink RX0 29 "CoracleRace$Boat" "soaked" "I") (by decide +kernel)) rfl dX0_forceOf_74 ?_
          refine lv_bipush (v := 6) hx hb dX0_forceOf_77 (by decide) ?_
          refine lv_idiv hx hb dX0_forceOf_79 (by decide) ?_
          refine lv_isub hx hb dX0_forceOf_80 ?_
          refine va_mmax hx hb (hml.trans hl.1.symm) hown (hts (.methodLink RX0 91 Lib.Math.max.name) (by decide +kernel)) (hts (.static Lib.Math.max.name) (by decide +kernel)) (hts (.initialized "java/lang/Math") (by decide +kernel)) (hts (.code Lib.Math.max.name Lib.Math.max.code 2 (some .int)) (by decide +kernel)) (Nat.le_of_ble_eq_true rfl) (Nat.le_of_ble_eq_true rfl) (Nat.zero_le _) (Nat.zero_le _) dX0_forceOf_81 ?_
          exact f_reti hQ hx hb hr hlocks hI.2.2 (by omega) (by omega) dX0_forceOf_84 E15 (fB_of hI) (⟨by simp [p_force, p_head, p_max, p_push, va_up, c_2, c_20, c_38, n_38, c_47, n_47], by rw [hC]; simp [p_turn, p_head, va_up, c_2, c_20, c_38, n_38, c_47, n_47], hfr⟩)
        · have n_47 := c_47
          have c_47 := i_nle.mp n_47
          refine lv_aload_n hx hb dX0_forceOf_50 rfl (lv_at hl 0 rfl) ?_
          refine lv_iconst (v := 0) hx hb dX0_forceOf_51 (by decide) ?_
          refine f_put (ci := 0) (v := .int 0) (C := RX0) (T := TX0) (N := 12) hx hb hts (by decide +kernel) tyX0 tyX0_ok nmX0 hown hG.1 hI ha hk hC rfl 5 (by decide) (hts (.fieldLink RX0 26 "CoracleRace$Boat" "heading" "I") (by decide +kernel)) rfl rfl rfl (Nat.le_of_ble_eq_true rfl) dX0_forceOf_52 (fun E26 H locs hE27 hn28 hI => ?_)
          have hC : E26 kb = .inr (0, [.ref (ad (kb + 1)), .int (b 1), .int (b 2), .int (b 3), .int (b 4), .int 0, .int (b 6), .int (b 7), .int (b 8), .int (b 9), .int (b 10), .int (b 11)]) := hE27
          have hfr : ∀ q : Nat, q ≠ kb → E26 q = E q := fun q hq => (hn28 q (by omega)).trans (hfr q hq)
          refine lv_aload_n hx hb dX0_forceOf_55 rfl (lv_at hl 0 rfl) ?_
          refine lv_dup hx hb dX0_forceOf_56 rfl ?_
          refine f_get (ci := 0) (v := .int (b 10)) (C := RX0) (T := TX0) (N := 12) hx hb hts (by decide +kernel) hown hG.1 hI ha hk hC rfl 10 (by decide) (hts (.fieldLink RX0 42 "CoracleRace$Boat" "spins" "I") (by decide +kernel)) rfl dX0_forceOf_57 ?_
          refine lv_iconst (v := 1) hx hb dX0_forceOf_60 (by decide) ?_
          refine lv_iadd hx hb dX0_forceOf_61 ?_
          refine f_put (ci := 0) (v := .int ((b 10) + 1)) (C := RX0) (T := TX0) (N := 12) hx hb hts (by decide +kernel) tyX0 tyX0_ok nmX0 hown hG.1 hI ha hk hC rfl 10 (by decide) (hts (.fieldLink RX0 42 "CoracleRace$Boat" "spins" "I") (by decide +kernel)) rfl rfl rfl (Nat.le_of_ble_eq_true rfl) dX0_forceOf_62 (fun E29 H locs hE30 hn31 hI => ?_)
          have hC : E29 kb = .inr (0, [.ref (ad (kb + 1)), .int (b 1), .int (b 2), .int (b 3), .int (b 4), .int 0, .int (b 6), .int (b 7), .int (b 8), .int (b 9), .int ((b 10) + 1), .int (b 11)]) := hE30
          have hfr : ∀ q : Nat, q ≠ kb → E29 q = E q := fun q hq => (hn31 q (by omega)).trans (hfr q hq)
          refine lv_iconst (v := 0) hx hb dX0_forceOf_65 (by decide) ?_
          exact f_reti hQ hx hb hr hlocks hI.2.2 (by omega) (by omega) dX0_forceOf_66 E29 (fB_of hI) (⟨by simp [p_force, p_head, p_max, p_push, va_up, c_2, c_20, c_38, n_38, c_47, n_47], by rw [hC]; simp [p_turn, p_head, va_up, c_2, c_20, c_38, n_38, c_47, n_47], hfr⟩)
  · refine lv_aload_n hx hb dX0_forceOf_5 rfl (lv_at hl 0 rfl) ?_
    refine lv_dup hx hb dX0_forceOf_6 rfl ?_
    refine f_get (ci := 0) (v := .int (b 5)) (C := RX0) (T := TX0) (N := 12) hx hb hts (by decide +kernel) hown hG.1 hI ha hk hC rfl 5 (by decide) (hts (.fieldLink RX0 26 "CoracleRace$Boat" "heading" "I") (by decide +kernel)) rfl dX0_forceOf_7 ?_
    refine lv_iconst (v := 1) hx hb dX0_forceOf_10 (by decide) ?_
    refine lv_iadd hx hb dX0_forceOf_11 ?_
    refine f_put (ci := 0) (v := .int ((b 5) + 1)) (C := RX0) (T := TX0) (N := 12) hx hb hts (by decide +kernel) tyX0 tyX0_ok nmX0 hown hG.1 hI ha hk hC rfl 5 (by decide) (hts (.fieldLink RX0 26 "CoracleRace$Boat" "heading" "I") (by decide +kernel)) rfl rfl rfl (Nat.le_of_ble_eq_true rfl) dX0_forceOf_12 (fun E32 H locs hE33 hn34 hI => ?_)
    have hC : E32 kb = .inr (0, [.ref (ad (kb + 1)), .int (b 1), .int (b 2), .int (b 3), .int (b 4), .int ((b 5) + 1), .int (b 6), .int (b 7), .int (b 8), .int (b 9), .int (b 10), .int (b 11)]) := hE33
    have hfr : ∀ q : Nat, q ≠ kb → E32 q = E q := fun q hq => (hn34 q (by omega)).trans (hfr q hq)
    refine lv_goto (tgt := 33) hx hb dX0_forceOf_15 (by decide) ?_
    refine lv_aload_n hx hb dX0_forceOf_33 rfl (lv_at hl 0 rfl) ?_
    refine f_get (ci := 0) (v := .int ((b 5) + 1)) (C := RX0) (T := TX0) (N := 12) hx hb hts (by decide +kernel) hown hG.1 hI ha hk hC rfl 5 (by decide) (hts (.fieldLink RX0 26 "CoracleRace$Boat" "heading" "I") (by decide +kernel)) rfl dX0_forceOf_34 ?_
    refine lv_iconst (v := 4) hx hb dX0_forceOf_37 (by decide) ?_
    refine lv_icmp_gt (tgt := 50) hx hb dX0_forceOf_38 (by decide) (fun c_38 => ?_) (fun c_38 => ?_)
    · have n_38 := i_nle.mpr c_38
      refine lv_aload_n hx hb dX0_forceOf_50 rfl (lv_at hl 0 rfl) ?_
      refine lv_iconst (v := 0) hx hb dX0_forceOf_51 (by decide) ?_
      refine f_put (ci := 0) (v := .int 0) (C := RX0) (T := TX0) (N := 12) hx hb hts (by decide +kernel) tyX0 tyX0_ok nmX0 hown hG.1 hI ha hk hC rfl 5 (by decide) (hts (.fieldLink RX0 26 "CoracleRace$Boat" "heading" "I") (by decide +kernel)) rfl rfl rfl (Nat.le_of_ble_eq_true rfl) dX0_forceOf_52 (fun E35 H locs hE36 hn37 hI => ?_)
      have hC : E35 kb = .inr (0, [.ref (ad (kb + 1)), .int (b 1), .int (b 2), .int (b 3), .int (b 4), .int 0, .int (b 6), .int (b 7), .int (b 8), .int (b 9), .int (b 10), .int (b 11)]) := hE36
      have hfr : ∀ q : Nat, q ≠ kb → E35 q = E q := fun q hq => (hn37 q (by omega)).trans (hfr q hq)
      refine lv_aload_n hx hb dX0_forceOf_55 rfl (lv_at hl 0 rfl) ?_
      refine lv_dup hx hb dX0_forceOf_56 rfl ?_
      refine f_get (ci := 0) (v := .int (b 10)) (C := RX0) (T := TX0) (N := 12) hx hb hts (by decide +kernel) hown hG.1 hI ha hk hC rfl 10 (by decide) (hts (.fieldLink RX0 42 "CoracleRace$Boat" "spins" "I") (by decide +kernel)) rfl dX0_forceOf_57 ?_
      refine lv_iconst (v := 1) hx hb dX0_forceOf_60 (by decide) ?_
      refine lv_iadd hx hb dX0_forceOf_61 ?_
      refine f_put (ci := 0) (v := .int ((b 10) + 1)) (C := RX0) (T := TX0) (N := 12) hx hb hts (by decide +kernel) tyX0 tyX0_ok nmX0 hown hG.1 hI ha hk hC rfl 10 (by decide) (hts (.fieldLink RX0 42 "CoracleRace$Boat" "spins" "I") (by decide +kernel)) rfl rfl rfl (Nat.le_of_ble_eq_true rfl) dX0_forceOf_62 (fun E38 H locs hE39 hn40 hI => ?_)
      have hC : E38 kb = .inr (0, [.ref (ad (kb + 1)), .int (b 1), .int (b 2), .int (b 3), .int (b 4), .int 0, .int (b 6), .int (b 7), .int (b 8), .int (b 9), .int ((b 10) + 1), .int (b 11)]) := hE39
      have hfr : ∀ q : Nat, q ≠ kb → E38 q = E q := fun q hq => (hn40 q (by omega)).trans (hfr q hq)
      refine lv_iconst (v := 0) hx hb dX0_forceOf_65 (by decide) ?_
      exact f_reti hQ hx hb hr hlocks hI.2.2 (by omega) (by omega) dX0_forceOf_66 E38 (fB_of hI) (⟨by simp [p_force, p_head, p_max, p_push, va_up, c_2, c_38, n_38], by rw [hC]; simp [p_turn, p_head, va_up, c_2, c_38, n_38], hfr⟩)
    · have n_38 := c_38
      have c_38 := i_nlt.mp n_38
      refine lv_aload_n hx hb dX0_forceOf_41 rfl (lv_at hl 0 rfl) ?_
      refine f_get (ci := 0) (v := .int ((b 5) + 1)) (C := RX0) (T := TX0) (N := 12) hx hb hts (by decide +kernel) hown hG.1 hI ha hk hC rfl 5 (by decide) (hts (.fieldLink RX0 26 "CoracleRace$Boat" "heading" "I") (by decide +kernel)) rfl dX0_forceOf_42 ?_
      refine lv_bipush (v := -4) hx hb dX0_forceOf_45 (by decide) ?_
      refine lv_icmp_ge (tgt := 67) hx hb dX0_forceOf_47 (by decide) (fun c_47 => ?_) (fun c_47 => ?_)
      · have n_47 := i_nlt.mpr c_47
        refine lv_iconst (v := 0) hx hb dX0_forceOf_67 (by decide) ?_
        refine lv_aload_n hx hb dX0_forceOf_68 rfl (lv_at hl 0 rfl) ?_
        refine lv_iload_n hx hb dX0_forceOf_69 rfl (lv_at hl 1 rfl) ?_
        refine f_calli1 (va_runV (As := [.int k]) (rest := [.int 0]) ⟨hx, hb, hml, hown, hts⟩ (m_X0_pushOf l ha hk (b := va_up b 5 ((b 5) + 1)) hC k) (cwV 1 hts gX0_forceOf_X0_pushOf rfl rfl rfl (by decide +kernel) ⟨Nat.le_of_ble_eq_true rfl, Nat.le_of_ble_eq_true rfl⟩) (fPre_ofV hG hI ha hk hC rfl rfl) rfl rfl hl.1 rfl (lv_room (Nat.le_of_ble_eq_true rfl)) dX0_forceOf_70 ⟨Nat.le_of_ble_eq_true rfl, Nat.le_of_ble_eq_true rfl⟩) hI (fun r41 E42 H locs hp hI => ?_)
        obtain ⟨he, rfl⟩ := hp
        subst he
        refine lv_aload_n hx hb dX0_forceOf_73 rfl (lv_at hl 0 rfl) ?_
        refine f_get (ci := 0) (v := .int (b 6)) (C := RX0) (T := TX0) (N := 12) hx hb hts (by decide +kernel) hown hG.1 hI ha hk hC rfl 6 (by decide) (hts (.fieldLink RX0 29 "CoracleRace$Boat" "soaked" "I") (by decide +kernel)) rfl dX0_forceOf_74 ?_
        refine lv_bipush (v := 6) hx hb dX0_forceOf_77 (by decide) ?_
        refine lv_idiv hx hb dX0_forceOf_79 (by decide) ?_
        refine lv_isub hx hb dX0_forceOf_80 ?_
        refine va_mmax hx hb (hml.trans hl.1.symm) hown (hts (.methodLink RX0 91 Lib.Math.max.name) (by decide +kernel)) (hts (.static Lib.Math.max.name) (by decide +kernel)) (hts (.initialized "java/lang/Math") (by decide +kernel)) (hts (.code Lib.Math.max.name Lib.Math.max.code 2 (some .int)) (by decide +kernel)) (Nat.le_of_ble_eq_true rfl) (Nat.le_of_ble_eq_true rfl) (Nat.zero_le _) (Nat.zero_le _) dX0_forceOf_81 ?_
        exact f_reti hQ hx hb hr hlocks hI.2.2 (by omega) (by omega) dX0_forceOf_84 E32 (fB_of hI) (⟨by simp [p_force, p_head, p_max, p_push, va_up, c_2, c_38, n_38, c_47, n_47], by rw [hC]; simp [p_turn, p_head, va_up, c_2, c_38, n_38, c_47, n_47], hfr⟩)
      · have n_47 := c_47
        have c_47 := i_nle.mp n_47
        refine lv_aload_n hx hb dX0_forceOf_50 rfl (lv_at hl 0 rfl) ?_
        refine lv_iconst (v := 0) hx hb dX0_forceOf_51 (by decide) ?_
        refine f_put (ci := 0) (v := .int 0) (C := RX0) (T := TX0) (N := 12) hx hb hts (by decide +kernel) tyX0 tyX0_ok nmX0 hown hG.1 hI ha hk hC rfl 5 (by decide) (hts (.fieldLink RX0 26 "CoracleRace$Boat" "heading" "I") (by decide +kernel)) rfl rfl rfl (Nat.le_of_ble_eq_true rfl) dX0_forceOf_52 (fun E43 H locs hE44 hn45 hI => ?_)
        have hC : E43 kb = .inr (0, [.ref (ad (kb + 1)), .int (b 1), .int (b 2), .int (b 3), .int (b 4), .int 0, .int (b 6), .int (b 7), .int (b 8), .int (b 9), .int (b 10), .int (b 11)]) := hE44
        have hfr : ∀ q : Nat, q ≠ kb → E43 q = E q := fun q hq => (hn45 q (by omega)).trans (hfr q hq)
        refine lv_aload_n hx hb dX0_forceOf_55 rfl (lv_at hl 0 rfl) ?_
        refine lv_dup hx hb dX0_forceOf_56 rfl ?_
        refine f_get (ci := 0) (v := .int (b 10)) (C := RX0) (T := TX0) (N := 12) hx hb hts (by decide +kernel) hown hG.1 hI ha hk hC rfl 10 (by decide) (hts (.fieldLink RX0 42 "CoracleRace$Boat" "spins" "I") (by decide +kernel)) rfl dX0_forceOf_57 ?_
        refine lv_iconst (v := 1) hx hb dX0_forceOf_60 (by decide) ?_
        refine lv_iadd hx hb dX0_forceOf_61 ?_
        refine f_put (ci := 0) (v := .int ((b 10) + 1)) (C := RX0) (T := TX0) (N := 12) hx hb hts (by decide +kernel) tyX0 tyX0_ok nmX0 hown hG.1 hI ha hk hC rfl 10 (by decide) (hts (.fieldLink RX0 42 "CoracleRace$Boat" "spins" "I") (by decide +kernel)) rfl rfl rfl (Nat.le_of_ble_eq_true rfl) dX0_forceOf_62 (fun E46 H locs hE47 hn48 hI => ?_)
        have hC : E46 kb = .inr (0, [.ref (ad (kb + 1)), .int (b 1), .int (b 2), .int (b 3), .int (b 4), .int 0, .int (b 6), .int (b 7), .int (b 8), .int (b 9), .int ((b 10) + 1), .int (b 11)]) := hE47
        have hfr : ∀ q : Nat, q ≠ kb → E46 q = E q := fun q hq => (hn48 q (by omega)).trans (hfr q hq)
        refine lv_iconst (v := 0) hx hb dX0_forceOf_65 (by decide) ?_
        exact f_reti hQ hx hb hr hlocks hI.2.2 (by omega) (by omega) dX0_forceOf_66 E46 (fB_of hI) (⟨by simp [p_force, p_head, p_max, p_push, va_up, c_2, c_38, n_38, c_47, n_47], by rw [hC]; simp [p_turn, p_head, va_up, c_2, c_38, n_38, c_47, n_47], hfr⟩)

set_option maxHeartbeats 4000000 in
set_option maxRecDepth 100000 in
theorem m_X0_drift (l : Launch) {D : va_G} {cI cJ cB : ClassId} {t0 z : Nat} {tx ad : Nat → Nat} {L : List Nat} {E : Nat → va_E} {kb a : Nat} (ha : ad kb = a) (hk : kb ∈ L) {b : Nat → Int32} (hC : E kb = bE ad kb b) : Met l yX0_drift wsX0_drift ({ frames := 1, cells := 0, slots := 0, locals := 20 } : Room) (va_Pc [.ref a] (fPre D cI cJ cB t0 z tx ad L E)) (va_Qv (fun (E1 : Nat → va_E) => E1 kb = bE ad kb (p_drift b) ∧ ∀ q, q ≠ kb → E1 q = E q) (fB D z ad L) (fA z)) 0 0 (fA z) := by
  refine f_ofW (cc := cX0_drift) (maxL := 2) (ret := none) (by decide) rfl (Nat.le_of_ble_eq_true rfl) ?_
  intro pr e s m args below meth c Q hx hb hr hml hts hown hlocks hin hG H locs hI hQ ls hl
  have hl : lv_has ls 2 [(0, .ref a)] := hl
  have hfr : ∀ q : Nat, q ≠ kb → E q = E q := fun _ _ => rfl
  have hC : E kb = .inr (0, [.ref (ad (kb + 1)), .int (b 1), .int (b 2), .int (b 3), .int (b 4), .int (b 5), .int (b 6), .int (b 7), .int (b 8), .int (b 9), .int (b 10), .int (b 11)]) := hC
  refine lv_aload_n hx hb dX0_drift_0 rfl (lv_at hl 0 rfl) ?_
  refine f_get (ci := 0) (v := .int (b 4)) (C := RX0) (T := TX0) (N := 12) hx hb hts (by decide +kernel) hown hG.1 hI ha hk hC rfl 4 (by decide) (hts (.fieldLink RX0 23 "CoracleRace$Boat" "lane" "I") (by decide +kernel)) rfl dX0_drift_1 ?_
  refine lv_istore_n (lv' := [(1, .int (b 4)), (0, .ref a)]) hx hb dX0_drift_4 rfl hl (by decide) rfl (fun ls hl => ?_)
  refine lv_aload_n hx hb dX0_drift_5 rfl (lv_at hl 1 rfl) ?_
  refine f_get (ci := 0) (v := .int (b 5)) (C := RX0) (T := TX0) (N := 12) hx hb hts (by decide +kernel) hown hG.1 hI ha hk hC rfl 5 (by decide) (hts (.fieldLink RX0 26 "CoracleRace$Boat" "heading" "I") (by decide +kernel)) rfl dX0_drift_6 ?_
  refine lv_iconst (v := 2) hx hb dX0_drift_9 (by decide) ?_
  refine lv_icmp_lt (tgt := 23) hx hb dX0_drift_10 (by decide) (fun c_10 => ?_) (fun c_10 => ?_)
  · have n_10 := i_nle.mpr c_10
    refine lv_aload_n hx hb dX0_drift_23 rfl (lv_at hl 1 rfl) ?_
    refine f_get (ci := 0) (v := .int (b 5)) (C := RX0) (T := TX0) (N := 12) hx hb hts (by decide +kernel) hown hG.1 hI ha hk hC rfl 5 (by decide) (hts (.fieldLink RX0 26 "CoracleRace$Boat" "heading" "I") (by decide +kernel)) rfl dX0_drift_24 ?_
    refine lv_bipush (v := -2) hx hb dX0_drift_27 (by decide) ?_
    refine lv_icmp_gt (tgt := 39) hx hb dX0_drift_29 (by decide) (fun c_29 => ?_) (fun c_29 => ?_)
    · have n_29 := i_nle.mpr c_29
      have hw : p_want b = (b 4) := by simp [p_want, c_10, n_10, c_29, n_29]
      refine lv_iload_n hx hb dX0_drift_39 rfl (lv_at hl 0 rfl) ?_
      refine f_calli1 (va_runS (As := [.int (b 4)]) (rest := []) ⟨hx, hb, hml, hown, hts⟩ (m_X2_isLane l (b 4)) (va_cwS 1 hts gX0_drift_X2_isLane rfl rfl rfl (by decide +kernel) ⟨Nat.le_of_ble_eq_true rfl, Nat.le_of_ble_eq_true rfl⟩) (fPre_of hG hI) rfl rfl hl.1 rfl (lv_room (Nat.le_of_ble_eq_true rfl)) dX0_drift_40 ⟨Nat.le_of_ble_eq_true rfl, Nat.le_of_ble_eq_true rfl⟩) hI (fun r1 E2 H locs hp hI => ?_)
      obtain ⟨he, rfl⟩ := hp
      refine lv_if_eq (tgt := 54) hx hb dX0_drift_43 (by decide) (fun c_43 => ?_) (fun c_43 => ?_)
      · have p_43 := bl_f he c_43
        refine lv_aload_n hx hb dX0_drift_54 rfl (lv_at hl 1 rfl) ?_
        refine lv_dup hx hb dX0_drift_55 rfl ?_
        refine f_get (ci := 0) (v := .int (b 7)) (C := RX0) (T := TX0) (N := 12) hx hb hts (by decide +kernel) hown hG.1 hI ha hk hC rfl 7 (by decide) (hts (.fieldLink RX0 32 "CoracleRace$Boat" "fouls" "I") (by decide +kernel)) rfl dX0_drift_56 ?_
        refine lv_iconst (v := 3) hx hb dX0_drift_59 (by decide) ?_
        refine lv_iadd hx hb dX0_drift_60 ?_
        refine f_put (ci := 0) (v := .int ((b 7) + 3)) (C := RX0) (T := TX0) (N := 12) hx hb hts (by decide +kernel) tyX0 tyX0_ok nmX0 hown hG.1 hI ha hk hC rfl 7 (by decide) (hts (.fieldLink RX0 32 "CoracleRace$Boat" "fouls" "I") (by decide +kernel)) rfl rfl rfl (Nat.le_of_ble_eq_true rfl) dX0_drift_61 (fun E3 H locs hE4 hn5 hI => ?_)
        have hC : E3 kb = .inr (0, [.ref (ad (kb + 1)), .int (b 1), .int (b 2), .int (b 3), .int (b 4), .int (b 5), .int (b 6), .int ((b 7) + 3), .int (b 8), .int (b 9), .int (b 10), .int (b 11)]) := hE4
        have hfr : ∀ q : Nat, q ≠ kb → E3 q = E q := fun q hq => (hn5 q (by omega)).trans (hfr q hq)
        exact f_retv hQ hx hb hr hlocks hI.2.2 (by omega) (by omega) dX0_drift_64 E3 (fB_of hI) (⟨(hC).trans (by rw [p_drift, hw]; simp [va_up, p_43]), hfr⟩)
      · have p_43 := bl_t he c_43
        refine lv_aload_n hx hb dX0_drift_46 rfl (lv_at hl 1 rfl) ?_
        refine lv_iload_n hx hb dX0_drift_47 rfl (lv_at hl 0 rfl) ?_
        refine f_put (ci := 0) (v := .int (b 4)) (C := RX0) (T := TX0) (N := 12) hx hb hts (by decide +kernel) tyX0 tyX0_ok nmX0 hown hG.1 hI ha hk hC rfl 4 (by decide) (hts (.fieldLink RX0 23 "CoracleRace$Boat" "lane" "I") (by decide +kernel)) rfl rfl rfl (Nat.le_of_ble_eq_true rfl) dX0_drift_48 (fun E6 H locs hE7 hn8 hI => ?_)
        have hC : E6 kb = .inr (0, [.ref (ad (kb + 1)), .int (b 1), .int (b 2), .int (b 3), .int (b 4), .int (b 5), .int (b 6), .int (b 7), .int (b 8), .int (b 9), .int (b 10), .int (b 11)]) := hE7
        have hfr : ∀ q : Nat, q ≠ kb → E6 q = E q := fun q hq => (hn8 q (by omega)).trans (hfr q hq)
        refine lv_goto (tgt := 64) hx hb dX0_drift_51 (by decide) ?_
        exact f_retv hQ hx hb hr hlocks hI.2.2 (by omega) (by omega) dX0_drift_64 E6 (fB_of hI) (⟨(hC).trans (by rw [p_drift, hw]; simp [va_up, p_43]), hfr⟩)
    · have n_29 := c_29
      have c_29 := i_nlt.mp n_29
      refine lv_aload_n hx hb dX0_drift_32 rfl (lv_at hl 1 rfl) ?_
      refine f_get (ci := 0) (v := .int (b 4)) (C := RX0) (T := TX0) (N := 12) hx hb hts (by decide +kernel) hown hG.1 hI ha hk hC rfl 4 (by decide) (hts (.fieldLink RX0 23 "CoracleRace$Boat" "lane" "I") (by decide +kernel)) rfl dX0_drift_33 ?_
      refine lv_iconst (v := 1) hx hb dX0_drift_36 (by decide) ?_
      refine lv_isub hx hb dX0_drift_37 ?_
      refine lv_istore_n (lv' := [(1, .int ((b 4) - 1)), (0, .ref a)]) hx hb dX0_drift_38 rfl hl (by decide) rfl (fun ls hl => ?_)
      have hw : p_want b = ((b 4) - 1) := by simp [p_want, c_10, n_10, c_29, n_29]
      refine lv_iload_n hx hb dX0_drift_39 rfl (lv_at hl 0 rfl) ?_
      refine f_calli1 (va_runS (As := [.int ((b 4) - 1)]) (rest := []) ⟨hx, hb, hml, hown, hts⟩ (m_X2_isLane l ((b 4) - 1)) (va_cwS 1 hts gX0_drift_X2_isLane rfl rfl rfl (by decide +kernel) ⟨Nat.le_of_ble_eq_true rfl, Nat.le_of_ble_eq_true rfl⟩) (fPre_of hG hI) rfl rfl hl.1 rfl (lv_room (Nat.le_of_ble_eq_true rfl)) dX0_drift_40 ⟨Nat.le_of_ble_eq_true rfl, Nat.le_of_ble_eq_true rfl⟩) hI (fun r9 E10 H locs hp hI => ?_)
      obtain ⟨he, rfl⟩ := hp
      refine lv_if_eq (tgt := 54) hx hb dX0_drift_43 (by decide) (fun c_43 => ?_) (fun c_43 => ?_)
      · have p_43 := bl_f he c_43
        refine lv_aload_n hx hb dX0_drift_54 rfl (lv_at hl 1 rfl) ?_
        refine lv_dup hx hb dX0_drift_55 rfl ?_
        refine f_get (ci := 0) (v := .int (b 7)) (C := RX0) (T := TX0) (N := 12) hx hb hts (by decide +kernel) hown hG.1 hI ha hk hC rfl 7 (by decide) (hts (.fieldLink RX0 32 "CoracleRace$Boat" "fouls" "I") (by decide +kernel)) rfl dX0_drift_56 ?_
        refine lv_iconst (v := 3) hx hb dX0_drift_59 (by decide) ?_
        refine lv_iadd hx hb dX0_drift_60 ?_
        refine f_put (ci := 0) (v := .int ((b 7) + 3)) (C := RX0) (T := TX0) (N := 12) hx hb hts (by decide +kernel) tyX0 tyX0_ok nmX0 hown hG.1 hI ha hk hC rfl 7 (by decide) (hts (.fieldLink RX0 32 "CoracleRace$Boat" "fouls" "I") (by decide +kernel)) rfl rfl rfl (Nat.le_of_ble_eq_true rfl) dX0_drift_61 (fun E11 H locs hE12 hn13 hI => ?_)
        have hC : E11 kb = .inr (0, [.ref (ad (kb + 1)), .int (b 1), .int (b 2), .int (b 3), .int (b 4), .int (b 5), .int (b 6), .int ((b 7) + 3), .int (b 8), .int (b 9), .int (b 10), .int (b 11)]) := hE12
        have hfr : ∀ q : Nat, q ≠ kb → E11 q = E q := fun q hq => (hn13 q (by omega)).trans (hfr q hq)
        exact f_retv hQ hx hb hr hlocks hI.2.2 (by omega) (by omega) dX0_drift_64 E11 (fB_of hI) (⟨(hC).trans (by rw [p_drift, hw]; simp [va_up, p_43]), hfr⟩)
      · have p_43 := bl_t he c_43
        refine lv_aload_n hx hb dX0_drift_46 rfl (lv_at hl 1 rfl) ?_
        refine lv_iload_n hx hb dX0_drift_47 rfl (lv_at hl 0 rfl) ?_
        refine f_put (ci := 0) (v := .int ((b 4) - 1)) (C := RX0) (T := TX0) (N := 12) hx hb hts (by decide +kernel) tyX0 tyX0_ok nmX0 hown hG.1 hI ha hk hC rfl 4 (by decide) (hts (.fieldLink RX0 23 "CoracleRace$Boat" "lane" "I") (by decide +kernel)) rfl rfl rfl (Nat.le_of_ble_eq_true rfl) dX0_drift_48 (fun E14 H locs hE15 hn16 hI => ?_)
        have hC : E14 kb = .inr (0, [.ref (ad (kb + 1)), .int (b 1), .int (b 2), .int (b 3), .int ((b 4) - 1), .int (b 5), .int (b 6), .int (b 7), .int (b 8), .int (b 9), .int (b 10), .int (b 11)]) := hE15
        have hfr : ∀ q : Nat, q ≠ kb → E14 q = E q := fun q hq => (hn16 q (by omega)).trans (hfr q hq)
        refine lv_goto (tgt := 64) hx hb dX0_drift_51 (by decide) ?_
        exact f_retv hQ hx hb hr hlocks hI.2.2 (by omega) (by omega) dX0_drift_64 E14 (fB_of hI) (⟨(hC).trans (by rw [p_drift, hw]; simp [va_up, p_43]), hfr⟩)
  · have n_10 := c_10
    have c_10 := i_nlt.mp n_10
    refine lv_aload_n hx hb dX0_drift_13 rfl (lv_at hl 1 rfl) ?_
    refine f_get (ci := 0) (v := .int (b 4)) (C := RX0) (T := TX0) (N := 12) hx hb hts (by decide +kernel) hown hG.1 hI ha hk hC rfl 4 (by decide) (hts (.fieldLink RX0 23 "CoracleRace$Boat" "lane" "I") (by decide +kernel)) rfl dX0_drift_14 ?_
    refine lv_iconst (v := 1) hx hb dX0_drift_17 (by decide) ?_
    refine lv_iadd hx hb dX0_drift_18 ?_
    refine lv_istore_n (lv' := [(1, .int ((b 4) + 1)), (0, .ref a)]) hx hb dX0_drift_19 rfl hl (by decide) rfl (fun ls hl => ?_)
    refine lv_goto (tgt := 39) hx hb dX0_drift_20 (by decide) ?_
    have hw : p_want b = ((b 4) + 1) := by simp [p_want, c_10, n_10]
    refine lv_iload_n hx hb dX0_drift_39 rfl (lv_at hl 0 rfl) ?_
    refine f_calli1 (va_runS (As := [.int ((b 4) + 1)]) (rest := []) ⟨hx, hb, hml, hown, hts⟩ (m_X2_isLane l ((b 4) + 1)) (va_cwS 1 hts gX0_drift_X2_isLane rfl rfl rfl (by decide +kernel) ⟨Nat.le_of_ble_eq_true rfl, Nat.le_of_ble_eq_true rfl⟩) (fPre_of hG hI) rfl rfl hl.1 rfl (lv_room (Nat.le_of_ble_eq_true rfl)) dX0_drift_40 ⟨Nat.le_of_ble_eq_true rfl, Nat.le_of_ble_eq_true rfl⟩) hI (fun r17 E18 H locs hp hI => ?_)
    obtain ⟨he, rfl⟩ := hp
    refine lv_if_eq (tgt := 54) hx hb dX0_drift_43 (by decide) (fun c_43 => ?_) (fun c_43 => ?_)
    · have p_43 := bl_f he c_43
      refine lv_aload_n hx hb dX0_drift_54 rfl (lv_at hl 1 rfl) ?_
      refine lv_dup hx hb dX0_drift_55 rfl ?_
      refine f_get (ci := 0) (v := .int (b 7)) (C := RX0) (T := TX0) (N := 12) hx hb hts (by decide +kernel) hown hG.1 hI ha hk hC rfl 7 (by decide) (hts (.fieldLink RX0 32 "CoracleRace$Boat" "fouls" "I") (by decide +kernel)) rfl dX0_drift_56 ?_
      refine lv_iconst (v := 3) hx hb dX0_drift_59 (by decide) ?_
      refine lv_iadd hx hb dX0_drift_60 ?_
      refine f_put (ci := 0) (v := .int ((b 7) + 3)) (C := RX0) (T := TX0) (N := 12) hx hb hts (by decide +kernel) tyX0 tyX0_ok nmX0 hown hG.1 hI ha hk hC rfl 7 (by decide) (hts (.fieldLink RX0 32 "CoracleRace$Boat" "fouls" "I") (by decide +kernel)) rfl rfl rfl (Nat.le_of_ble_eq_true rfl) dX0_drift_61 (fun E19 H locs hE20 hn21 hI => ?_)
      have hC : E19 kb = .inr (0, [.ref (ad (kb + 1)), .int (b 1), .int (b 2), .int (b 3), .int (b 4), .int (b 5), .int (b 6), .int ((b 7) + 3), .int (b 8), .int (b 9), .int (b 10), .int (b 11)]) := hE20
      have hfr : ∀ q : Nat, q ≠ kb → E19 q = E q := fun q hq => (hn21 q (by omega)).trans (hfr q hq)
      exact f_retv hQ hx hb hr hlocks hI.2.2 (by omega) (by omega) dX0_drift_64 E19 (fB_of hI) (⟨(hC).trans (by rw [p_drift, hw]; simp [va_up, p_43]), hfr⟩)
    · have p_43 := bl_t he c_43
      refine lv_aload_n hx hb dX0_drift_46 rfl (lv_at hl 1 rfl) ?_
      refine lv_iload_n hx hb dX0_drift_47 rfl (lv_at hl 0 rfl) ?_
      refine f_put (ci := 0) (v := .int ((b 4) + 1)) (C := RX0) (T := TX0) (N := 12) hx hb hts (by decide +kernel) tyX0 tyX0_ok nmX0 hown hG.1 hI ha hk hC rfl 4 (by decide) (hts (.fieldLink RX0 23 "CoracleRace$Boat" "lane" "I") (by decide +kernel)) rfl rfl rfl (Nat.le_of_ble_eq_true rfl) dX0_drift_48 (fun E22 H locs hE23 hn24 hI => ?_)
      have hC : E22 kb = .inr (0, [.ref (ad (kb + 1)), .int (b 1), .int (b 2), .int (b 3), .int ((b 4) + 1), .int (b 5), .int (b 6), .int (b 7), .int (b 8), .int (b 9), .int (b 10), .int (b 11)]) := hE23
      have hfr : ∀ q : Nat, q ≠ kb → E22 q = E q := fun q hq => (hn24 q (by omega)).trans (hfr q hq)
      refine lv_goto (tgt := 64) hx hb dX0_drift_51 (by decide) ?_
      exact f_retv hQ hx hb hr hlocks hI.2.2 (by omega) (by omega) dX0_drift_64 E22 (fB_of hI) (⟨(hC).trans (by rw [p_drift, hw]; simp [va_up, p_43]), hfr⟩)

set_option maxHeartbeats 4000000 in
set_option maxRecDepth 100000 in
theorem m_J9_floorMod_7cf53 (l : Launch) {D : va_G} {cI cJ cB : ClassId} {t0 z : Nat} {tx ad : Nat → Nat} {L : List Nat} {E : Nat → va_E} (x y : Int32) (hx0 : 0 ≤ x) (hy0 : 0 < y) : Met l yJ9_floorMod_7cf53 wsJ9_floorMod_7cf53 ({ frames := 0, cells := 0, slots := 0, locals := 0 } : Room) (va_Pc [.int x, .int y] (fPre D cI cJ cB t0 z tx ad L E)) (va_Qi (fun (r : Int32) (E1 : Nat → va_E) => r = p_rem x y ∧ E1 = E) (fB D z ad L) (fA z)) 0 0 (fA z) := by
  refine f_ofW (cc := cJ9_floorMod_7cf53) (maxL := 3) (ret := some .int) (by decide) rfl (Nat.le_of_ble_eq_true rfl) ?_
  intro pr e s m args below meth c Q hx hb hr hml hts hown hlocks hin hG H locs hI hQ ls hl
  have hl : lv_has ls 3 [(0, .int x), (1, .int y)] := hl
  refine lv_iload_n hx hb dJ9_floorMod_7cf53_0 rfl (lv_at hl 0 rfl) ?_
  refine lv_iload_n hx hb dJ9_floorMod_7cf53_1 rfl (lv_at hl 1 rfl) ?_
  refine lv_irem hx hb dJ9_floorMod_7cf53_2 (fun q => by rw [q] at hy0; exact absurd hy0 (by decide)) ?_
  refine lv_istore_n (lv' := [(2, .int (x - x / y * y)), (0, .int x), (1, .int y)]) hx hb dJ9_floorMod_7cf53_3 rfl hl (by decide) rfl (fun ls hl => ?_)
  refine lv_iload_n hx hb dJ9_floorMod_7cf53_4 rfl (lv_at hl 1 rfl) ?_
  refine lv_iload_n hx hb dJ9_floorMod_7cf53_5 rfl (lv_at hl 2 rfl) ?_
  refine lv_ixor hx hb dJ9_floorMod_7cf53_6 ?_
  refine lv_if_ge (tgt := 18) hx hb dJ9_floorMod_7cf53_7 (by decide) (fun c_7 => ?_) (fun c_7 => ?_)
  · have n_7 := i_nlt.mpr c_7
    refine lv_iload_n hx hb dJ9_floorMod_7cf53_18 rfl (lv_at hl 0 rfl) ?_
    exact f_reti hQ hx hb hr hlocks hI.2.2 (by omega) (by omega) dJ9_floorMod_7cf53_19 E (fB_of hI) (⟨rfl, rfl⟩)
  · exact absurd (xor_pos hx0 hy0) (i_nle.mpr (i_nle.mp c_7))

set_option maxHeartbeats 4000000 in
set_option maxRecDepth 100000 in
theorem m_X0_strokeIn (l : Launch) {D : va_G} {cI cJ cB : ClassId} {t0 z : Nat} {tx ad : Nat → Nat} {L : List Nat} {E : Nat → va_E} {kb a : Nat} (ha : ad kb = a) (hk : kb ∈ L) {b : Nat → Int32} (hC : E kb = bE ad kb b) {f : Nat → Int32} (hk1 : kb + 1 ∈ L) (hF : E (kb + 1) = .inl (cI, 6, .inl f)) (t : Int32) (ht : 0 ≤ t) : Met l yX0_strokeIn wsX0_strokeIn ({ frames := 1, cells := 0, slots := 0, locals := 22 } : Room) (va_Pc [.ref a, .int t] (fPre D cI cJ cB t0 z tx ad L E)) (va_Qi (fun (r : Int32) (E1 : Nat → va_E) => r = p_stk b f t ∧ E1 = E) (fB D z ad L) (fA z)) 0 0 (fA z) := by
  refine f_ofW (cc := cX0_strokeIn) (maxL := 2) (ret := some .int) (by decide) rfl (Nat.le_of_ble_eq_true rfl) ?_
  intro pr e s m args below meth c Q hx hb hr hml hts hown hlocks hin hG H locs hI hQ ls hl
  have hl : lv_has ls 2 [(0, .ref a), (1, .int t)] := hl
  have hC : E kb = .inr (0, [.ref (ad (kb + 1)), .int (b 1), .int (b 2), .int (b 3), .int (b 4), .int (b 5), .int (b 6), .int (b 7), .int (b 8), .int (b 9), .int (b 10), .int (b 11)]) := hC
  have hF : E (kb + 1) = .inl (cI, 6, .inl f) := hF
  refine lv_aload_n hx hb dX0_strokeIn_0 rfl (lv_at hl 0 rfl) ?_
  refine f_get (ci := 0) (v := .int (b 1)) (C := RX0) (T := TX0) (N := 12) hx hb hts (by decide +kernel) hown hG.1 hI ha hk hC rfl 1 (by decide) (hts (.fieldLink RX0 13 "CoracleRace$Boat" "length" "I") (by decide +kernel)) rfl dX0_strokeIn_1 ?_
  refine lv_iconst (v := 1) hx hb dX0_strokeIn_4 (by decide) ?_
  refine lv_icmp_lt (tgt := 17) hx hb dX0_strokeIn_5 (by decide) (fun c_5 => ?_) (fun c_5 => ?_)
  · have n_5 := i_nle.mpr c_5
    refine lv_iconst (v := 0) hx hb dX0_strokeIn_17 (by decide) ?_
    exact f_reti hQ hx hb hr hlocks hI.2.2 (by omega) (by omega) dX0_strokeIn_18 E (fB_of hI) (⟨by simp [p_stk, c_5, n_5], rfl⟩)
  · have n_5 := c_5
    have c_5 := i_nlt.mp n_5
    refine lv_aload_n hx hb dX0_strokeIn_8 rfl (lv_at hl 0 rfl) ?_
    refine f_get (ci := 0) (v := .int (b 1)) (C := RX0) (T := TX0) (N := 12) hx hb hts (by decide +kernel) hown hG.1 hI ha hk hC rfl 1 (by decide) (hts (.fieldLink RX0 13 "CoracleRace$Boat" "length" "I") (by decide +kernel)) rfl dX0_strokeIn_9 ?_
    refine lv_bipush (v := 6) hx hb dX0_strokeIn_12 (by decide) ?_
    refine lv_icmp_le (tgt := 19) hx hb dX0_strokeIn_14 (by decide) (fun c_14 => ?_) (fun c_14 => ?_)
    · have n_14 := i_nlt.mpr c_14
      refine lv_aload_n hx hb dX0_strokeIn_19 rfl (lv_at hl 0 rfl) ?_
      refine f_get (ci := 0) (v := .ref (ad (kb + 1))) (C := RX0) (T := TX0) (N := 12) hx hb hts (by decide +kernel) hown hG.1 hI ha hk hC rfl 0 (by decide) (hts (.fieldLink RX0 9 "CoracleRace$Boat" "strokes" "[I") (by decide +kernel)) rfl dX0_strokeIn_20 ?_
      refine lv_iload_n hx hb dX0_strokeIn_23 rfl (lv_at hl 1 rfl) ?_
      refine lv_aload_n hx hb dX0_strokeIn_24 rfl (lv_at hl 0 rfl) ?_
      refine f_get (ci := 0) (v := .int (b 1)) (C := RX0) (T := TX0) (N := 12) hx hb hts (by decide +kernel) hown hG.1 hI ha hk hC rfl 1 (by decide) (hts (.fieldLink RX0 13 "CoracleRace$Boat" "length" "I") (by decide +kernel)) rfl dX0_strokeIn_25 ?_
      refine f_calli1 (va_runS (As := [.int t, .int (b 1)]) (rest := [.ref (ad (kb + 1))]) ⟨hx, hb, hml, hown, hts⟩ (m_J9_floorMod_7cf53 l t (b 1) ht (pos_of c_5)) (va_cwS 2 hts gX0_strokeIn_J9_floorMod_7cf53 rfl rfl rfl (by decide +kernel) ⟨Nat.le_of_ble_eq_true rfl, Nat.le_of_ble_eq_true rfl⟩) (fPre_of hG hI) rfl rfl hl.1 rfl (lv_room (Nat.le_of_ble_eq_true rfl)) dX0_strokeIn_28 ⟨Nat.le_of_ble_eq_true rfl, Nat.le_of_ble_eq_true rfl⟩) hI (fun r1 E2 H locs hp hI => ?_)
      obtain ⟨he3, rfl⟩ := hp
      have he3 : r1 = (p_rem t (b 1)) := he3
      subst he3
      refine f_iald hx hb hG.1 hI rfl hk1 hF (rem_ix ht c_5 c_14) dX0_strokeIn_31 ?_
      exact f_reti hQ hx hb hr hlocks hI.2.2 (by omega) (by omega) dX0_strokeIn_32 E (fB_of hI) (⟨by simp [p_stk, c_5, n_5, c_14, n_14], rfl⟩)
    · have n_14 := c_14
      have c_14 := i_nle.mp n_14
      refine lv_iconst (v := 0) hx hb dX0_strokeIn_17 (by decide) ?_
      exact f_reti hQ hx hb hr hlocks hI.2.2 (by omega) (by omega) dX0_strokeIn_18 E (fB_of hI) (⟨by simp [p_stk, c_5, n_5, c_14, n_14], rfl⟩)

set_option maxHeartbeats 4000000 in
set_option maxRecDepth 100000 in
theorem m_X0_advance (l : Launch) {D : va_G} {cI cJ cB : ClassId} {t0 z : Nat} {tx ad : Nat → Nat} {L : List Nat} {E : Nat → va_E} {kb a : Nat} (ha : ad kb = a) (hk : kb ∈ L) {b : Nat → Int32} (hC : E kb = bE ad kb b) (h10 : 10 ≤ kb) {w p g : Nat → Int32} {n : Nat} (hn : n ≤ 6) (hr1 : 1 ∈ L) (hr2 : 2 ∈ L) (hr3 : 3 ∈ L) (hr4 : 4 ∈ L) (hR : E 1 = rE ad n) (hRw : E 2 = .inl (cI, 5, .inl w)) (hRp : E 3 = .inl (cI, 6, .inl p)) (hRg : E 4 = .inl (cI, 6, .inl g)) (f : Int32) : Met l yX0_advance wsX0_advance ({ frames := 2, cells := 0, slots := 0, locals := 35 } : Room) (va_Pc [.ref a, .ref (ad 1), .int f] (fPre D cI cJ cB t0 z tx ad L E)) (va_Qv (fun (E1 : Nat → va_E) => E1 kb = bE ad kb (p_adv w p g n b f) ∧ ∀ q, q ≠ kb → E1 q = E q) (fB D z ad L) (fA z)) 0 0 (fA z) := by
  refine f_ofW (cc := cX0_advance) (maxL := 5) (ret := none) (by decide) rfl (Nat.le_of_ble_eq_true rfl) ?_
  intro pr e s m args below meth c Q hx hb hr hml hts hown hlocks hin hG H locs hI hQ ls hl
  have hl : lv_has ls 5 [(0, .ref a), (1, .ref (ad 1)), (2, .int f)] := hl
  have hfr : ∀ q : Nat, q ≠ kb → E q = E q := fun _ _ => rfl
  have hC : E kb = .inr (0, [.ref (ad (kb + 1)), .int (b 1), .int (b 2), .int (b 3), .int (b 4), .int (b 5), .int (b 6), .int (b 7), .int (b 8), .int (b 9), .int (b 10), .int (b 11)]) := hC
  have hR : E 1 = .inr (2, [.ref (ad 2), .ref (ad 3), .ref (ad 4), .int (nI n)]) := hR
  have hRw : E 2 = .inl (cI, 5, .inl w) := hRw
  have hRp : E 3 = .inl (cI, 6, .inl p) := hRp
  have hRg : E 4 = .inl (cI, 6, .inl g) := hRg
  refine lv_aload_n hx hb dX0_advance_0 rfl (lv_at hl 0 rfl) ?_
  refine f_get (ci := 0) (v := .int (b 4)) (C := RX0) (T := TX0) (N := 12) hx hb hts (by decide +kernel) hown hG.1 hI ha hk hC rfl 4 (by decide) (hts (.fieldLink RX0 23 "CoracleRace$Boat" "lane" "I") (by decide +kernel)) rfl dX0_advance_1 ?_
  refine f_calli1 (va_runS (As := [.int (b 4)]) (rest := []) ⟨hx, hb, hml, hown, hts⟩ (m_X2_isLane l (b 4)) (va_cwS 1 hts gX0_advance_X2_isLane rfl rfl rfl (by decide +kernel) ⟨Nat.le_of_ble_eq_true rfl, Nat.le_of_ble_eq_true rfl⟩) (fPre_of hG hI) rfl rfl hl.1 rfl (lv_room (Nat.le_of_ble_eq_true rfl)) dX0_advance_4 ⟨Nat.le_of_ble_eq_true rfl, Nat.le_of_ble_eq_true rfl⟩) hI (fun r1 E2 H locs hp hI => ?_)
  obtain ⟨he0, rfl⟩ := hp
  refine lv_if_ne (tgt := 11) hx hb dX0_advance_7 (by decide) (fun c_7 => ?_) (fun c_7 => ?_)
  · have p_7 := bl_t he0 c_7
    refine lv_iload_n hx hb dX0_advance_11 rfl (lv_at hl 2 rfl) ?_
    refine lv_iconst (v := 4) hx hb dX0_advance_12 (by decide) ?_
    refine lv_aload_n hx hb dX0_advance_13 rfl (lv_at hl 0 rfl) ?_
    refine f_get (ci := 0) (v := .int (b 5)) (C := RX0) (T := TX0) (N := 12) hx hb hts (by decide +kernel) hown hG.1 hI ha hk hC rfl 5 (by decide) (hts (.fieldLink RX0 26 "CoracleRace$Boat" "heading" "I") (by decide +kernel)) rfl dX0_advance_14 ?_
    refine va_mabs hx hb (hml.trans hl.1.symm) hown (hts (.methodLink RX0 98 Lib.Math.abs.name) (by decide +kernel)) (hts (.static Lib.Math.abs.name) (by decide +kernel)) (hts (.initialized "java/lang/Math") (by decide +kernel)) (hts (.code Lib.Math.abs.name Lib.Math.abs.code 1 (some .int)) (by decide +kernel)) (Nat.le_of_ble_eq_true rfl) (Nat.le_of_ble_eq_true rfl) (Nat.zero_le _) (Nat.zero_le _) dX0_advance_17 ?_
    refine lv_isub hx hb dX0_advance_20 ?_
    refine lv_imul hx hb dX0_advance_21 ?_
    refine lv_iconst (v := 4) hx hb dX0_advance_22 (by decide) ?_
    refine lv_idiv hx hb dX0_advance_23 (by decide) ?_
    refine lv_aload_n hx hb dX0_advance_24 rfl (lv_at hl 1 rfl) ?_
    refine f_get (ci := 2) (v := .ref (ad 2)) (C := RX2) (T := TX2) (N := 4) hx hb hts (by decide +kernel) hown hG.1 hI rfl hr1 hR rfl 0 (by decide) (hts (.fieldLink RX0 101 "CoracleRace$River" "water" "[I") (by decide +kernel)) rfl dX0_advance_25 ?_
    refine lv_aload_n hx hb dX0_advance_28 rfl (lv_at hl 0 rfl) ?_
    refine f_get (ci := 0) (v := .int (b 4)) (C := RX0) (T := TX0) (N := 12) hx hb hts (by decide +kernel) hown hG.1 hI ha hk hC rfl 4 (by decide) (hts (.fieldLink RX0 23 "CoracleRace$Boat" "lane" "I") (by decide +kernel)) rfl dX0_advance_29 ?_
    refine f_iald hx hb hG.1 hI rfl hr2 hRw (lane_ix p_7) dX0_advance_32 ?_
    refine lv_iadd hx hb dX0_advance_33 ?_
    refine lv_topi (fun tv etv => ?_)
    have etv : tv = p_way w b f := etv.trans (rfl)
    subst etv
    refine lv_istore_n (lv' := [(3, .int (p_way w b f)), (0, .ref a), (1, .ref (ad 1)), (2, .int f)]) hx hb dX0_advance_34 rfl hl (by decide) rfl (fun ls hl => ?_)
    refine lv_aload_n hx hb dX0_advance_35 rfl (lv_at hl 2 rfl) ?_
    refine lv_aload_n hx hb dX0_advance_36 rfl (lv_at hl 1 rfl) ?_
    refine f_get (ci := 0) (v := .int (b 3)) (C := RX0) (T := TX0) (N := 12) hx hb hts (by decide +kernel) hown hG.1 hI ha hk hC rfl 3 (by decide) (hts (.fieldLink RX0 20 "CoracleRace$Boat" "place" "I") (by decide +kernel)) rfl dX0_advance_37 ?_
    refine lv_aload_n hx hb dX0_advance_40 rfl (lv_at hl 1 rfl) ?_
    refine f_get (ci := 0) (v := .int (b 3)) (C := RX0) (T := TX0) (N := 12) hx hb hts (by decide +kernel) hown hG.1 hI ha hk hC rfl 3 (by decide) (hts (.fieldLink RX0 20 "CoracleRace$Boat" "place" "I") (by decide +kernel)) rfl dX0_advance_41 ?_
    refine lv_iload_n hx hb dX0_advance_44 rfl (lv_at hl 0 rfl) ?_
    refine lv_iadd hx hb dX0_advance_45 ?_
    refine lv_aload_n hx hb dX0_advance_46 rfl (lv_at hl 1 rfl) ?_
    refine f_get (ci := 0) (v := .int (b 4)) (C := RX0) (T := TX0) (N := 12) hx hb hts (by decide +kernel) hown hG.1 hI ha hk hC rfl 4 (by decide) (hts (.fieldLink RX0 23 "CoracleRace$Boat" "lane" "I") (by decide +kernel)) rfl dX0_advance_47 ?_
    refine f_calli1 (va_runV (As := [.int (b 3), .int ((b 3) + p_way w b f), .int (b 4)]) (rest := []) ⟨hx, hb, hml, hown, hts⟩ (m_X2_firstStop l hn hr1 hr2 hr3 hr4 hR hRw hRp hRg (b 3) (b 3 + p_way w b f) (b 4)) (cwV 3 hts gX0_advance_X2_firstStop rfl rfl rfl (by decide +kernel) ⟨Nat.le_of_ble_eq_true rfl, Nat.le_of_ble_eq_true rfl⟩) (fPre_ofV hG hI rfl hr1 hR rfl rfl) rfl rfl hl.1 rfl (lv_room (Nat.le_of_ble_eq_true rfl)) dX0_advance_50 ⟨Nat.le_of_ble_eq_true rfl, Nat.le_of_ble_eq_true rfl⟩) hI (fun r3 E4 H locs hp hI => ?_)
    obtain ⟨he, rfl⟩ := hp
    have he : r3 = (p_stops w p g n b f) := he
    subst he
    refine lv_istore (lv' := [(4, .int (p_stops w p g n b f)), (3, .int (p_way w b f)), (0, .ref a), (1, .ref (ad 1)), (2, .int f)]) hx hb dX0_advance_53 hl (by decide) rfl (fun ls hl => ?_)
    refine lv_iload hx hb dX0_advance_55 (lv_at hl 0 rfl) ?_
    refine lv_iconst (v := -1) hx hb dX0_advance_57 (by decide) ?_
    refine lv_icmp_ne (tgt := 78) hx hb dX0_advance_58 (by decide) (fun c_58 => ?_) (fun c_58 => ?_)
    · refine lv_aload_n hx hb dX0_advance_78 rfl (lv_at hl 2 rfl) ?_
      refine lv_iload hx hb dX0_advance_79 (lv_at hl 0 rfl) ?_
      refine f_put (ci := 0) (v := .int (p_stops w p g n b f)) (C := RX0) (T := TX0) (N := 12) hx hb hts (by decide +kernel) tyX0 tyX0_ok nmX0 hown hG.1 hI ha hk hC rfl 3 (by decide) (hts (.fieldLink RX0 20 "CoracleRace$Boat" "place" "I") (by decide +kernel)) rfl rfl rfl (Nat.le_of_ble_eq_true rfl) dX0_advance_81 (fun E5 H locs hE6 hn7 hI => ?_)
      have hC : E5 kb = .inr (0, [.ref (ad (kb + 1)), .int (b 1), .int (b 2), .int (p_stops w p g n b f), .int (b 4), .int (b 5), .int (b 6), .int (b 7), .int (b 8), .int (b 9), .int (b 10), .int (b 11)]) := hE6
      have hR : E5 1 = .inr (2, [.ref (ad 2), .ref (ad 3), .ref (ad 4), .int (nI n)]) := (hn7 1 (by omega)).trans hR
      have hRw : E5 2 = .inl (cI, 5, .inl w) := (hn7 2 (by omega)).trans hRw
      have hRp : E5 3 = .inl (cI, 6, .inl p) := (hn7 3 (by omega)).trans hRp
      have hRg : E5 4 = .inl (cI, 6, .inl g) := (hn7 4 (by omega)).trans hRg
      have hfr : ∀ q : Nat, q ≠ kb → E5 q = E q := fun q hq => (hn7 q (by omega)).trans (hfr q hq)
      refine lv_aload_n hx hb dX0_advance_84 rfl (lv_at hl 2 rfl) ?_
      refine lv_iconst (v := 0) hx hb dX0_advance_85 (by decide) ?_
      refine f_put (ci := 0) (v := .int 0) (C := RX0) (T := TX0) (N := 12) hx hb hts (by decide +kernel) tyX0 tyX0_ok nmX0 hown hG.1 hI ha hk hC rfl 5 (by decide) (hts (.fieldLink RX0 26 "CoracleRace$Boat" "heading" "I") (by decide +kernel)) rfl rfl rfl (Nat.le_of_ble_eq_true rfl) dX0_advance_86 (fun E8 H locs hE9 hn10 hI => ?_)
      have hC : E8 kb = .inr (0, [.ref (ad (kb + 1)), .int (b 1), .int (b 2), .int (p_stops w p g n b f), .int (b 4), .int 0, .int (b 6), .int (b 7), .int (b 8), .int (b 9), .int (b 10), .int (b 11)]) := hE9
      have hR : E8 1 = .inr (2, [.ref (ad 2), .ref (ad 3), .ref (ad 4), .int (nI n)]) := (hn10 1 (by omega)).trans hR
      have hRw : E8 2 = .inl (cI, 5, .inl w) := (hn10 2 (by omega)).trans hRw
      have hRp : E8 3 = .inl (cI, 6, .inl p) := (hn10 3 (by omega)).trans hRp
      have hRg : E8 4 = .inl (cI, 6, .inl g) := (hn10 4 (by omega)).trans hRg
      have hfr : ∀ q : Nat, q ≠ kb → E8 q = E q := fun q hq => (hn10 q (by omega)).trans (hfr q hq)
      refine lv_aload_n hx hb dX0_advance_89 rfl (lv_at hl 2 rfl) ?_
      refine lv_iconst (v := 5) hx hb dX0_advance_90 (by decide) ?_
      refine f_callv1 (va_runV (As := [.int 5]) (rest := []) ⟨hx, hb, hml, hown, hts⟩ (m_X0_soak l ha hk (b := va_up (va_up b 3 (p_stops w p g n b f)) 5 0) hC 5) (cwV 1 hts gX0_advance_X0_soak rfl rfl rfl (by decide +kernel) ⟨Nat.le_of_ble_eq_true rfl, Nat.le_of_ble_eq_true rfl⟩) (fPre_ofV hG hI ha hk hC rfl rfl) rfl rfl hl.1 rfl (lv_room (Nat.le_of_ble_eq_true rfl)) dX0_advance_91 ⟨Nat.le_of_ble_eq_true rfl, Nat.le_of_ble_eq_true rfl⟩) hI (fun E11 H locs hp hI => ?_)
      obtain ⟨hE13, hn12⟩ := hp
      have hC : E11 kb = .inr (0, [.ref (ad (kb + 1)), .int ((p_soak (va_up (va_up b 3 (p_stops w p g n b f)) 5 0) 5) 1), .int ((p_soak (va_up (va_up b 3 (p_stops w p g n b f)) 5 0) 5) 2), .int ((p_soak (va_up (va_up b 3 (p_stops w p g n b f)) 5 0) 5) 3), .int ((p_soak (va_up (va_up b 3 (p_stops w p g n b f)) 5 0) 5) 4), .int ((p_soak (va_up (va_up b 3 (p_stops w p g n b f)) 5 0) 5) 5), .int ((p_soak (va_up (va_up b 3 (p_stops w p g n b f)) 5 0) 5) 6), .int ((p_soak (va_up (va_up b 3 (p_stops w p g n b f)) 5 0) 5) 7), .int ((p_soak (va_up (va_up b 3 (p_stops w p g n b f)) 5 0) 5) 8), .int ((p_soak (va_up (va_up b 3 (p_stops w p g n b f)) 5 0) 5) 9), .int ((p_soak (va_up (va_up b 3 (p_stops w p g n b f)) 5 0) 5) 10), .int ((p_soak (va_up (va_up b 3 (p_stops w p g n b f)) 5 0) 5) 11)]) := hE13
      have hR : E11 1 = .inr (2, [.ref (ad 2), .ref (ad 3), .ref (ad 4), .int (nI n)]) := (hn12 1 (by omega)).trans hR
      have hRw : E11 2 = .inl (cI, 5, .inl w) := (hn12 2 (by omega)).trans hRw
      have hRp : E11 3 = .inl (cI, 6, .inl p) := (hn12 3 (by omega)).trans hRp
      have hRg : E11 4 = .inl (cI, 6, .inl g) := (hn12 4 (by omega)).trans hRg
      have hfr : ∀ q : Nat, q ≠ kb → E11 q = E q := fun q hq => (hn12 q (by omega)).trans (hfr q hq)
      refine lv_aload_n hx hb dX0_advance_94 rfl (lv_at hl 2 rfl) ?_
      refine lv_dup hx hb dX0_advance_95 rfl ?_
      refine f_get (ci := 0) (v := .int ((p_soak (va_up (va_up b 3 (p_stops w p g n b f)) 5 0) 5) 11)) (C := RX0) (T := TX0) (N := 12) hx hb hts (by decide +kernel) hown hG.1 hI ha hk hC rfl 11 (by decide) (hts (.fieldLink RX0 45 "CoracleRace$Boat" "stops" "I") (by decide +kernel)) rfl dX0_advance_96 ?_
      refine lv_iconst (v := 1) hx hb dX0_advance_99 (by decide) ?_
      refine lv_iadd hx hb dX0_advance_100 ?_
      refine f_put (ci := 0) (v := .int (((p_soak (va_up (va_up b 3 (p_stops w p g n b f)) 5 0) 5) 11) + 1)) (C := RX0) (T := TX0) (N := 12) hx hb hts (by decide +kernel) tyX0 tyX0_ok nmX0 hown hG.1 hI ha hk hC rfl 11 (by decide) (hts (.fieldLink RX0 45 "CoracleRace$Boat" "stops" "I") (by decide +kernel)) rfl rfl rfl (Nat.le_of_ble_eq_true rfl) dX0_advance_101 (fun E14 H locs hE15 hn16 hI => ?_)
      have hC : E14 kb = .inr (0, [.ref (ad (kb + 1)), .int ((p_soak (va_up (va_up b 3 (p_stops w p g n b f)) 5 0) 5) 1), .int ((p_soak (va_up (va_up b 3 (p_stops w p g n b f)) 5 0) 5) 2), .int ((p_soak (va_up (va_up b 3 (p_stops w p g n b f)) 5 0) 5) 3), .int ((p_soak (va_up (va_up b 3 (p_stops w p g n b f)) 5 0) 5) 4), .int ((p_soak (va_up (va_up b 3 (p_stops w p g n b f)) 5 0) 5) 5), .int ((p_soak (va_up (va_up b 3 (p_stops w p g n b f)) 5 0) 5) 6), .int ((p_soak (va_up (va_up b 3 (p_stops w p g n b f)) 5 0) 5) 7), .int ((p_soak (va_up (va_up b 3 (p_stops w p g n b f)) 5 0) 5) 8), .int ((p_soak (va_up (va_up b 3 (p_stops w p g n b f)) 5 0) 5) 9), .int ((p_soak (va_up (va_up b 3 (p_stops w p g n b f)) 5 0) 5) 10), .int (((p_soak (va_up (va_up b 3 (p_stops w p g n b f)) 5 0) 5) 11) + 1)]) := hE15
      have hR : E14 1 = .inr (2, [.ref (ad 2), .ref (ad 3), .ref (ad 4), .int (nI n)]) := (hn16 1 (by omega)).trans hR
      have hRw : E14 2 = .inl (cI, 5, .inl w) := (hn16 2 (by omega)).trans hRw
      have hRp : E14 3 = .inl (cI, 6, .inl p) := (hn16 3 (by omega)).trans hRp
      have hRg : E14 4 = .inl (cI, 6, .inl g) := (hn16 4 (by omega)).trans hRg
      have hfr : ∀ q : Nat, q ≠ kb → E14 q = E q := fun q hq => (hn16 q (by omega)).trans (hfr q hq)
      exact f_retv hQ hx hb hr hlocks hI.2.2 (by omega) (by omega) dX0_advance_104 E14 (fB_of hI) (⟨(hC).trans (by simp [p_adv, p_halt, p_min, va_up, c_7, p_7, c_58]), hfr⟩)
    · refine lv_aload_n hx hb dX0_advance_61 rfl (lv_at hl 2 rfl) ?_
      refine lv_aload_n hx hb dX0_advance_62 rfl (lv_at hl 2 rfl) ?_
      refine f_get (ci := 0) (v := .int (b 3)) (C := RX0) (T := TX0) (N := 12) hx hb hts (by decide +kernel) hown hG.1 hI ha hk hC rfl 3 (by decide) (hts (.fieldLink RX0 20 "CoracleRace$Boat" "place" "I") (by decide +kernel)) rfl dX0_advance_63 ?_
      refine lv_iload_n hx hb dX0_advance_66 rfl (lv_at hl 1 rfl) ?_
      refine lv_iadd hx hb dX0_advance_67 ?_
      refine lv_sipush (v := 200) hx hb dX0_advance_68 (by decide) ?_
      refine va_mmin hx hb (hml.trans hl.1.symm) hown (hts (.methodLink RX0 108 Lib.Math.min.name) (by decide +kernel)) (hts (.static Lib.Math.min.name) (by decide +kernel)) (hts (.initialized "java/lang/Math") (by decide +kernel)) (hts (.code Lib.Math.min.name Lib.Math.min.code 2 (some .int)) (by decide +kernel)) (Nat.le_of_ble_eq_true rfl) (Nat.le_of_ble_eq_true rfl) (Nat.zero_le _) (Nat.zero_le _) dX0_advance_71 ?_
      refine lv_topi (fun tv etv => ?_)
      have etv : tv = p_min (b 3 + p_way w b f) 200 := etv.trans (rfl)
      subst etv
      refine f_put (ci := 0) (v := .int (p_min (b 3 + p_way w b f) 200)) (C := RX0) (T := TX0) (N := 12) hx hb hts (by decide +kernel) tyX0 tyX0_ok nmX0 hown hG.1 hI ha hk hC rfl 3 (by decide) (hts (.fieldLink RX0 20 "CoracleRace$Boat" "place" "I") (by decide +kernel)) rfl rfl rfl (Nat.le_of_ble_eq_true rfl) dX0_advance_74 (fun E17 H locs hE18 hn19 hI => ?_)
      have hC : E17 kb = .inr (0, [.ref (ad (kb + 1)), .int (b 1), .int (b 2), .int (p_min (b 3 + p_way w b f) 200), .int (b 4), .int (b 5), .int (b 6), .int (b 7), .int (b 8), .int (b 9), .int (b 10), .int (b 11)]) := hE18
      have hR : E17 1 = .inr (2, [.ref (ad 2), .ref (ad 3), .ref (ad 4), .int (nI n)]) := (hn19 1 (by omega)).trans hR
      have hRw : E17 2 = .inl (cI, 5, .inl w) := (hn19 2 (by omega)).trans hRw
      have hRp : E17 3 = .inl (cI, 6, .inl p) := (hn19 3 (by omega)).trans hRp
      have hRg : E17 4 = .inl (cI, 6, .inl g) := (hn19 4 (by omega)).trans hRg
      have hfr : ∀ q : Nat, q ≠ kb → E17 q = E q := fun q hq => (hn19 q (by omega)).trans (hfr q hq)
      exact f_retv hQ hx hb hr hlocks hI.2.2 (by omega) (by omega) dX0_advance_77 E17 (fB_of hI) (⟨(hC).trans (by simp [p_adv, p_halt, p_min, va_up, c_7, p_7, c_58]), hfr⟩)
  · have p_7 := bl_f he0 c_7
    exact f_retv hQ hx hb hr hlocks hI.2.2 (by omega) (by omega) dX0_advance_10 E (fB_of hI) (⟨(hC).trans (by simp [p_adv, va_up, c_7, p_7]), hfr⟩)
