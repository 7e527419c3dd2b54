set_option maxHeartbeats 4000000 in
set_option maxRecDepth 100000 in
theorem m_X2_isLane (l : Launch) {D : va_G} {cI cJ cB : ClassId} {t0 z : Nat} {tx ad : Nat → Nat} {L : List Nat} {E : Nat → va_E} (x : Int32) : Met l yX2_isLane wsX2_isLane ({ frames := 0, cells := 0, slots := 0, locals := 0 } : Room) (va_Pc [.int x] (fPre D cI cJ cB t0 z tx ad L E)) (va_Qi (fun (r : Int32) (E1 : Nat → va_E) => r = (if p_lane x then 1 else 0) ∧ E1 = E) (fB D z ad L) (fA z)) 0 0 (fA z) := by
  refine f_ofW (cc := cX2_isLane) (maxL := 1) (ret := some .boolean) (by decide) rfl (Nat.le_of_ble_eq_true rfl) ?_
  intro pr e s m args below meth c Q hx hb hr hml hts hown hlocks hin hG H locs hI hQ ls hl
  have hl : lv_has ls 1 [(0, .int x)] := hl
  refine lv_iload_n hx hb dX2_isLane_0 rfl (lv_at hl 0 rfl) ?_
  refine lv_if_lt (tgt := 13) hx hb dX2_isLane_1 (by decide) (fun c_1 => ?_) (fun c_1 => ?_)
  · have n_1 := i_nle.mpr c_1
    refine lv_iconst (v := 0) hx hb dX2_isLane_13 (by decide) ?_
    exact f_retz hQ hx hb hr hlocks hI.2.2 (by omega) (by omega) dX2_isLane_14 rfl E (fB_of hI) (⟨by simp [c_1, n_1], rfl⟩)
  · have n_1 := c_1
    have c_1 := i_nlt.mp n_1
    refine lv_iload_n hx hb dX2_isLane_4 rfl (lv_at hl 0 rfl) ?_
    refine lv_iconst (v := 5) hx hb dX2_isLane_5 (by decide) ?_
    refine lv_icmp_ge (tgt := 13) hx hb dX2_isLane_6 (by decide) (fun c_6 => ?_) (fun c_6 => ?_)
    · have n_6 := i_nlt.mpr c_6
      refine lv_iconst (v := 0) hx hb dX2_isLane_13 (by decide) ?_
      exact f_retz hQ hx hb hr hlocks hI.2.2 (by omega) (by omega) dX2_isLane_14 rfl E (fB_of hI) (⟨by simp [c_1, n_1, c_6, n_6], rfl⟩)
    · have n_6 := c_6
      have c_6 := i_nle.mp n_6
      refine lv_iconst (v := 1) hx hb dX2_isLane_9 (by decide) ?_
      refine lv_goto (tgt := 14) hx hb dX2_isLane_10 (by decide) ?_
      exact f_retz hQ hx hb hr hlocks hI.2.2 (by omega) (by omega) dX2_isLane_14 rfl E (fB_of hI) (⟨by simp [c_1, n_1, c_6, n_6], rfl⟩)

set_option maxHeartbeats 4000000 in
set_option maxRecDepth 100000 in
theorem m_X2_firstStop (l : Launch) {D : va_G} {cI cJ cB : ClassId} {t0 z : Nat} {tx ad : Nat → Nat} {L : List Nat} {E : Nat → va_E} {w p g : Nat → Int32} {n : Nat} (hn : n ≤ 6) (hr1 : 1 ∈ L) (hr2 : 2 ∈ L) (hr3 : 3 ∈ L) (hr4 : 4 ∈ L) (hR : E 1 = rE ad n) (hRw : E 2 = .inl (cI, 5, .inl w)) (hRp : E 3 = .inl (cI, 6, .inl p)) (hRg : E 4 = .inl (cI, 6, .inl g)) (fr to ln : Int32) : Met l yX2_firstStop wsX2_firstStop ({ frames := 0, cells := 0, slots := 0, locals := 0 } : Room) (va_Pc [.ref (ad 1), .int fr, .int to, .int ln] (fPre D cI cJ cB t0 z tx ad L E)) (va_Qi (fun (r : Int32) (E1 : Nat → va_E) => r = p_stop p g fr to ln n ∧ E1 = E) (fB D z ad L) (fA z)) 0 0 (fA z) := by
  refine f_ofW (cc := cX2_firstStop) (maxL := 7) (ret := some .int) (by decide) rfl (Nat.le_of_ble_eq_true rfl) ?_
  intro pr e s m args below meth c Q hx hb hr hml hts hown hlocks hin hG H locs hI hQ ls hl
  have hl : lv_has ls 7 [(0, .ref (ad 1)), (1, .int fr), (2, .int to), (3, .int ln)] := hl
  have hR : E 1 = .inr (2, [.ref (ad 2), .ref (ad 3), .ref (ad 4), .int (nI n)]) := hR
  have hRw : E 2 = .inl (cI, 5, .inl w) := hRw
  have hRp : E 3 = .inl (cI, 6, .inl p) := hRp
  have hRg : E 4 = .inl (cI, 6, .inl g) := hRg
  refine lv_iconst (v := -1) hx hb dX2_firstStop_0 (by decide) ?_
  refine lv_istore (lv' := [(4, .int (-1)), (0, .ref (ad 1)), (1, .int fr), (2, .int to), (3, .int ln)]) hx hb dX2_firstStop_1 hl (by decide) rfl (fun ls hl => ?_)
  refine lv_iconst (v := 0) hx hb dX2_firstStop_3 (by decide) ?_
  refine lv_istore (lv' := [(5, .int 0), (4, .int (-1)), (0, .ref (ad 1)), (1, .int fr), (2, .int to), (3, .int ln)]) hx hb dX2_firstStop_4 hl (by decide) rfl (fun ls hl => ?_)
  have K : ∀ (k i : Nat), i ≤ n → n + 1 ≤ i + k → ∀ ls : Array Slot, lv_has ls 7 [(0, .ref (ad 1)), (1, .int fr), (2, .int to), (3, .int ln), (4, .int (p_stop p g fr to ln i)), (5, .int (nI i))] → W pr l e ({ frames := 0, cells := 0, slots := 0, locals := 0 } : Room) s m args below meth c H locs 0 0 Q (F0 m 6 ls []) := by
    intro k
    induction k with
    | zero => intro i h1 h2; exact absurd h2 (by omega)
    | succ k ih =>
      intro i hi1 hi2 ls hl
      refine lv_iload hx hb dX2_firstStop_6 (lv_at hl 5 rfl) ?_
      refine lv_aload_n hx hb dX2_firstStop_8 rfl (lv_at hl 0 rfl) ?_
      refine f_get (ci := 2) (v := .int (nI n)) (C := RX2) (T := TX2) (N := 4) hx hb hts (by decide +kernel) hown hG.1 hI rfl hr1 hR rfl 3 (by decide) (hts (.fieldLink RX2 19 "CoracleRace$River" "weirs" "I") (by decide +kernel)) rfl dX2_firstStop_9 ?_
      refine lv_icmp_ge (tgt := 93) hx hb dX2_firstStop_12 (by decide) (fun c_12 => ?_) (fun c_12 => ?_)
      · have n_12 := i_nlt.mpr c_12
        have hi : i = n := by have := (nI_leI (by omega) (by omega)).mp c_12; omega
        refine lv_iload hx hb dX2_firstStop_93 (lv_at hl 4 rfl) ?_
        exact f_reti hQ hx hb hr hlocks hI.2.2 (by omega) (by omega) dX2_firstStop_95 E (fB_of hI) (⟨by rw [hi], rfl⟩)
      · have n_12 := c_12
        have c_12 := i_nle.mp n_12
        have hi : i < n := (nI_ltI (by omega) (by omega)).mp c_12
        have hcl : (nI i).toNatClampNeg = i := nI_clamp (by omega)
        refine lv_aload_n hx hb dX2_firstStop_15 rfl (lv_at hl 0 rfl) ?_
        refine f_get (ci := 2) (v := .ref (ad 3)) (C := RX2) (T := TX2) (N := 4) hx hb hts (by decide +kernel) hown hG.1 hI rfl hr1 hR rfl 1 (by decide) (hts (.fieldLink RX2 13 "CoracleRace$River" "places" "[I") (by decide +kernel)) rfl dX2_firstStop_16 ?_
        refine lv_iload hx hb dX2_firstStop_19 (lv_at hl 5 rfl) ?_
        refine f_iald hx hb hG.1 hI rfl hr3 hRp (vp_in_nI (by omega) (by omega)) dX2_firstStop_21 ?_
        rw [hcl]
        refine lv_iload_n hx hb dX2_firstStop_22 rfl (lv_at hl 1 rfl) ?_
        refine lv_icmp_le (tgt := 41) hx hb dX2_firstStop_23 (by decide) (fun c_23 => ?_) (fun c_23 => ?_)
        · have n_23 := i_nlt.mpr c_23
          refine lv_iconst (v := 0) hx hb dX2_firstStop_41 (by decide) ?_
          refine lv_istore (lv' := [(6, .int 0), (0, .ref (ad 1)), (1, .int fr), (2, .int to), (3, .int ln), (4, .int (p_stop p g fr to ln i)), (5, .int (nI i))]) hx hb dX2_firstStop_42 hl (by decide) rfl (fun ls hl => ?_)
          refine lv_iload hx hb dX2_firstStop_44 (lv_at hl 0 rfl) ?_
          refine lv_if_eq (tgt := 87) hx hb dX2_firstStop_46 (by decide) (fun c_46 => ?_) (fun c_46 => ?_)
          · refine lv_iinc (v := (nI (i + 1))) (lv' := [(5, .int (nI (i + 1))), (6, .int 0), (0, .ref (ad 1)), (1, .int fr), (2, .int to), (3, .int ln), (4, .int (p_stop p g fr to ln i))]) hx hb dX2_firstStop_87 hl (k := 6) rfl (nI_1 i) (by decide) rfl (fun ls hl => ?_)
            refine lv_goto (tgt := 6) hx hb dX2_firstStop_90 (by decide) ?_
            refine ih (i + 1) (by omega) (by omega) ls ?_
            rw [show p_stop p g fr to ln (i + 1) = (p_stop p g fr to ln i) by rw [p_stop]; simp [c_12, n_12, c_23, n_23, c_46]]
            exact lv_sub hl [2, 3, 4, 5, 6, 0] rfl
          · exact absurd c_46 (by decide)
        · have n_23 := c_23
          have c_23 := i_nle.mp n_23
          refine lv_aload_n hx hb dX2_firstStop_26 rfl (lv_at hl 0 rfl) ?_
          refine f_get (ci := 2) (v := .ref (ad 3)) (C := RX2) (T := TX2) (N := 4) hx hb hts (by decide +kernel) hown hG.1 hI rfl hr1 hR rfl 1 (by decide) (hts (.fieldLink RX2 13 "CoracleRace$River" "places" "[I") (by decide +kernel)) rfl dX2_firstStop_27 ?_
          refine lv_iload hx hb dX2_firstStop_30 (lv_at hl 5 rfl) ?_
          refine f_iald hx hb hG.1 hI rfl hr3 hRp (vp_in_nI (by omega) (by omega)) dX2_firstStop_32 ?_
          rw [hcl]
          refine lv_iload_n hx hb dX2_firstStop_33 rfl (lv_at hl 2 rfl) ?_
          refine lv_icmp_gt (tgt := 41) hx hb dX2_firstStop_34 (by decide) (fun c_34 => ?_) (fun c_34 => ?_)
          · have n_34 := i_nle.mpr c_34
            refine lv_iconst (v := 0) hx hb dX2_firstStop_41 (by decide) ?_
            refine lv_istore (lv' := [(6, .int 0), (0, .ref (ad 1)), (1, .int fr), (2, .int to), (3, .int ln), (4, .int (p_stop p g fr to ln i)), (5, .int (nI i))]) hx hb dX2_firstStop_42 hl (by decide) rfl (fun ls hl => ?_)
            refine lv_iload hx hb dX2_firstStop_44 (lv_at hl 0 rfl) ?_
            refine lv_if_eq (tgt := 87) hx hb dX2_firstStop_46 (by decide) (fun c_46 => ?_) (fun c_46 => ?_)
            · refine lv_iinc (v := (nI (i + 1))) (lv' := [(5, .int (nI (i + 1))), (6, .int 0), (0, .ref (ad 1)), (1, .int fr), (2, .int to), (3, .int ln), (4, .int (p_stop p g fr to ln i))]) hx hb dX2_firstStop_87 hl (k := 6) rfl (nI_1 i) (by decide) rfl (fun ls hl => ?_)
              refine lv_goto (tgt := 6) hx hb dX2_firstStop_90 (by decide) ?_
              refine ih (i + 1) (by omega) (by omega) ls ?_
              rw [show p_stop p g fr to ln (i + 1) = (p_stop p g fr to ln i) by rw [p_stop]; simp [c_12, n_12, c_23, n_23, c_34, n_34, c_46]]
              exact lv_sub hl [2, 3, 4, 5, 6, 0] rfl
            · exact absurd c_46 (by decide)
          · have n_34 := c_34
            have c_34 := i_nlt.mp n_34
            refine lv_iconst (v := 1) hx hb dX2_firstStop_37 (by decide) ?_
            refine lv_goto (tgt := 42) hx hb dX2_firstStop_38 (by decide) ?_
            refine lv_istore (lv' := [(6, .int 1), (0, .ref (ad 1)), (1, .int fr), (2, .int to), (3, .int ln), (4, .int (p_stop p g fr to ln i)), (5, .int (nI i))]) hx hb dX2_firstStop_42 hl (by decide) rfl (fun ls hl => ?_)
            refine lv_iload hx hb dX2_firstStop_44 (lv_at hl 0 rfl) ?_
            refine lv_if_eq (tgt := 87) hx hb dX2_firstStop_46 (by decide) (fun c_46 => ?_) (fun c_46 => ?_)
            · exact absurd c_46 (by decide)
            · refine lv_aload_n hx hb dX2_firstStop_49 rfl (lv_at hl 1 rfl) ?_
              refine f_get (ci := 2) (v := .ref (ad 4)) (C := RX2) (T := TX2) (N := 4) hx hb hts (by decide +kernel) hown hG.1 hI rfl hr1 hR rfl 2 (by decide) (hts (.fieldLink RX2 16 "CoracleRace$River" "gaps" "[I") (by decide +kernel)) rfl dX2_firstStop_50 ?_
              refine lv_iload hx hb dX2_firstStop_53 (lv_at hl 6 rfl) ?_
              refine f_iald hx hb hG.1 hI rfl hr4 hRg (vp_in_nI (by omega) (by omega)) dX2_firstStop_55 ?_
              rw [hcl]
              refine lv_iload_n hx hb dX2_firstStop_56 rfl (lv_at hl 4 rfl) ?_
              refine lv_icmp_eq (tgt := 87) hx hb dX2_firstStop_57 (by decide) (fun c_57 => ?_) (fun c_57 => ?_)
              · refine lv_iinc (v := (nI (i + 1))) (lv' := [(5, .int (nI (i + 1))), (6, .int 1), (0, .ref (ad 1)), (1, .int fr), (2, .int to), (3, .int ln), (4, .int (p_stop p g fr to ln i))]) hx hb dX2_firstStop_87 hl (k := 6) rfl (nI_1 i) (by decide) rfl (fun ls hl => ?_)
                refine lv_goto (tgt := 6) hx hb dX2_firstStop_90 (by decide) ?_
                refine ih (i + 1) (by omega) (by omega) ls ?_
                rw [show p_stop p g fr to ln (i + 1) = (p_stop p g fr to ln i) by rw [p_stop]; simp [c_12, n_12, c_23, n_23, c_34, n_34, c_46, c_57]]
                exact lv_sub hl [2, 3, 4, 5, 6, 0] rfl
              · refine lv_iload hx hb dX2_firstStop_60 (lv_at hl 5 rfl) ?_
                refine lv_iconst (v := -1) hx hb dX2_firstStop_62 (by decide) ?_
                refine lv_icmp_eq (tgt := 78) hx hb dX2_firstStop_63 (by decide) (fun c_63 => ?_) (fun c_63 => ?_)
                · refine lv_aload_n hx hb dX2_firstStop_78 rfl (lv_at hl 1 rfl) ?_
                  refine f_get (ci := 2) (v := .ref (ad 3)) (C := RX2) (T := TX2) (N := 4) hx hb hts (by decide +kernel) hown hG.1 hI rfl hr1 hR rfl 1 (by decide) (hts (.fieldLink RX2 13 "CoracleRace$River" "places" "[I") (by decide +kernel)) rfl dX2_firstStop_79 ?_
                  refine lv_iload hx hb dX2_firstStop_82 (lv_at hl 6 rfl) ?_
                  refine f_iald hx hb hG.1 hI rfl hr3 hRp (vp_in_nI (by omega) (by omega)) dX2_firstStop_84 ?_
                  rw [hcl]
                  refine lv_istore (lv' := [(4, .int (p i)), (6, .int 1), (0, .ref (ad 1)), (1, .int fr), (2, .int to), (3, .int ln), (5, .int (nI i))]) hx hb dX2_firstStop_85 hl (by decide) rfl (fun ls hl => ?_)
                  refine lv_iinc (v := (nI (i + 1))) (lv' := [(5, .int (nI (i + 1))), (4, .int (p i)), (6, .int 1), (0, .ref (ad 1)), (1, .int fr), (2, .int to), (3, .int ln)]) hx hb dX2_firstStop_87 hl (k := 6) rfl (nI_1 i) (by decide) rfl (fun ls hl => ?_)
                  refine lv_goto (tgt := 6) hx hb dX2_firstStop_90 (by decide) ?_
                  refine ih (i + 1) (by omega) (by omega) ls ?_
                  rw [show p_stop p g fr to ln (i + 1) = (p i) by rw [p_stop]; simp [c_12, n_12, c_23, n_23, c_34, n_34, c_46, c_57, c_63]]
                  exact lv_sub hl [3, 4, 5, 6, 1, 0] rfl
                · refine lv_aload_n hx hb dX2_firstStop_66 rfl (lv_at hl 1 rfl) ?_
                  refine f_get (ci := 2) (v := .ref (ad 3)) (C := RX2) (T := TX2) (N := 4) hx hb hts (by decide +kernel) hown hG.1 hI rfl hr1 hR rfl 1 (by decide) (hts (.fieldLink RX2 13 "CoracleRace$River" "places" "[I") (by decide +kernel)) rfl dX2_firstStop_67 ?_
                  refine lv_iload hx hb dX2_firstStop_70 (lv_at hl 6 rfl) ?_
                  refine f_iald hx hb hG.1 hI rfl hr3 hRp (vp_in_nI (by omega) (by omega)) dX2_firstStop_72 ?_
                  rw [hcl]
                  refine lv_iload hx hb dX2_firstStop_73 (lv_at hl 5 rfl) ?_
                  refine lv_icmp_ge (tgt := 87) hx hb dX2_firstStop_75 (by decide) (fun c_75 => ?_) (fun c_75 => ?_)
                  · have n_75 := i_nlt.mpr c_75
                    refine lv_iinc (v := (nI (i + 1))) (lv' := [(5, .int (nI (i + 1))), (6, .int 1), (0, .ref (ad 1)), (1, .int fr), (2, .int to), (3, .int ln), (4, .int (p_stop p g fr to ln i))]) hx hb dX2_firstStop_87 hl (k := 6) rfl (nI_1 i) (by decide) rfl (fun ls hl => ?_)
                    refine lv_goto (tgt := 6) hx hb dX2_firstStop_90 (by decide) ?_
                    refine ih (i + 1) (by omega) (by omega) ls ?_
                    rw [show p_stop p g fr to ln (i + 1) = (p_stop p g fr to ln i) by rw [p_stop]; simp [c_12, n_12, c_23, n_23, c_34, n_34, c_46, c_57, c_63, c_75, n_75]]
                    exact lv_sub hl [2, 3, 4, 5, 6, 0] rfl
                  · have n_75 := c_75
                    have c_75 := i_nle.mp n_75
                    refine lv_aload_n hx hb dX2_firstStop_78 rfl (lv_at hl 1 rfl) ?_
                    refine f_get (ci := 2) (v := .ref (ad 3)) (C := RX2) (T := TX2) (N := 4) hx hb hts (by decide +kernel) hown hG.1 hI rfl hr1 hR rfl 1 (by decide) (hts (.fieldLink RX2 13 "CoracleRace$River" "places" "[I") (by decide +kernel)) rfl dX2_firstStop_79 ?_
                    refine lv_iload hx hb dX2_firstStop_82 (lv_at hl 6 rfl) ?_
                    refine f_iald hx hb hG.1 hI rfl hr3 hRp (vp_in_nI (by omega) (by omega)) dX2_firstStop_84 ?_
                    rw [hcl]
                    refine lv_istore (lv' := [(4, .int (p i)), (6, .int 1), (0, .ref (ad 1)), (1, .int fr), (2, .int to), (3, .int ln), (5, .int (nI i))]) hx hb dX2_firstStop_85 hl (by decide) rfl (fun ls hl => ?_)
                    refine lv_iinc (v := (nI (i + 1))) (lv' := [(5, .int (nI (i + 1))), (4, .int (p i)), (6, .int 1), (0, .ref (ad 1)), (1, .int fr), (2, .int to), (3, .int ln)]) hx hb dX2_firstStop_87 hl (k := 6) rfl (nI_1 i) (by decide) rfl (fun ls hl => ?_)
                    refine lv_goto (tgt := 6) hx hb dX2_firstStop_90 (by decide) ?_
                    refine ih (i + 1) (by omega) (by omega) ls ?_
                    rw [show p_stop p g fr to ln (i + 1) = (p i) by rw [p_stop]; simp [c_12, n_12, c_23, n_23, c_34, n_34, c_46, c_57, c_63, c_75, n_75]]
                    exact lv_sub hl [3, 4, 5, 6, 1, 0] rfl
  exact K (n + 1) 0 (Nat.zero_le _) (by omega) ls (lv_sub hl [2, 3, 4, 5, 1, 0] rfl)

set_option maxHeartbeats 4000000 in
set_option maxRecDepth 100000 in
theorem m_X0_soak (l : Launch) {D : va_G} {cI cJ cB : ClassId} {t0 z : Nat} {tx ad : Nat → Nat} {L : List Nat} {E : Nat → va_E} {kb a : Nat} (ha : ad kb = a) (hk : kb ∈ L) {b : Nat → Int32} (hC : E kb = bE ad kb b) (x : Int32) : Met l yX0_soak wsX0_soak ({ frames := 1, cells := 0, slots := 0, locals := 14 } : Room) (va_Pc [.ref a, .int x] (fPre D cI cJ cB t0 z tx ad L E)) (va_Qv (fun (E1 : Nat → va_E) => E1 kb = bE ad kb (p_soak b x) ∧ ∀ q, q ≠ kb → E1 q = E q) (fB D z ad L) (fA z)) 0 0 (fA z) := by
  refine f_ofW (cc := cX0_soak) (maxL := 2) (ret := none) (by decide) rfl (Nat.le_of_ble_eq_true rfl) ?_
  intro pr e s m args below meth c Q hx hb hr hml hts hown hlocks hin hG H locs hI hQ ls hl
  have hl : lv_has ls 2 [(0, .ref a), (1, .int x)] := hl
  have hfr : ∀ q : Nat, q ≠ kb → E q = E q := fun _ _ => rfl
  have hC : E kb = .inr (0, [.ref (ad (kb + 1)), .int (b 1), .int (b 2), .int (b 3), .int (b 4), .int (b 5), .int (b 6), .int (b 7), .int (b 8), .int (b 9), .int (b 10), .int (b 11)]) := hC
  refine lv_aload_n hx hb dX0_soak_0 rfl (lv_at hl 0 rfl) ?_
  refine lv_aload_n hx hb dX0_soak_1 rfl (lv_at hl 0 rfl) ?_
  refine f_get (ci := 0) (v := .int (b 6)) (C := RX0) (T := TX0) (N := 12) hx hb hts (by decide +kernel) hown hG.1 hI ha hk hC rfl 6 (by decide) (hts (.fieldLink RX0 29 "CoracleRace$Boat" "soaked" "I") (by decide +kernel)) rfl dX0_soak_2 ?_
  refine lv_iload_n hx hb dX0_soak_5 rfl (lv_at hl 1 rfl) ?_
  refine lv_iadd hx hb dX0_soak_6 ?_
  refine lv_bipush (v := 30) hx hb dX0_soak_7 (by decide) ?_
  refine va_mmin hx hb (hml.trans hl.1.symm) hown (hts (.methodLink RX0 108 Lib.Math.min.name) (by decide +kernel)) (hts (.static Lib.Math.min.name) (by decide +kernel)) (hts (.initialized "java/lang/Math") (by decide +kernel)) (hts (.code Lib.Math.min.name Lib.Math.min.code 2 (some .int)) (by decide +kernel)) (Nat.le_of_ble_eq_true rfl) (Nat.le_of_ble_eq_true rfl) (Nat.zero_le _) (Nat.zero_le _) dX0_soak_9 ?_
  refine f_put (ci := 0) (v := .int (if 30 < ((b 6) + x) then 30 else ((b 6) + x))) (C := RX0) (T := TX0) (N := 12) hx hb hts (by decide +kernel) tyX0 tyX0_ok nmX0 hown hG.1 hI ha hk hC rfl 6 (by decide) (hts (.fieldLink RX0 29 "CoracleRace$Boat" "soaked" "I") (by decide +kernel)) rfl rfl rfl (Nat.le_of_ble_eq_true rfl) dX0_soak_12 (fun E1 H locs hE2 hn3 hI => ?_)
  have hC : E1 kb = .inr (0, [.ref (ad (kb + 1)), .int (b 1), .int (b 2), .int (b 3), .int (b 4), .int (b 5), .int (if 30 < ((b 6) + x) then 30 else ((b 6) + x)), .int (b 7), .int (b 8), .int (b 9), .int (b 10), .int (b 11)]) := hE2
  have hfr : ∀ q : Nat, q ≠ kb → E1 q = E q := fun q hq => (hn3 q (by omega)).trans (hfr q hq)
  exact f_retv hQ hx hb hr hlocks hI.2.2 (by omega) (by omega) dX0_soak_15 E1 (fB_of hI) (⟨by rw [hC]; simp [p_soak, va_up, p_min], hfr⟩)

set_option maxHeartbeats 4000000 in
set_option maxRecDepth 100000 in
theorem m_X0_pushOf (l : Launch) {D : va_G} {cI cJ cB : ClassId} {t0 z : Nat} {tx ad : Nat → Nat} {L : List Nat} {E : Nat → va_E} {kb a : Nat} (ha : ad kb = a) (hk : kb ∈ L) {b : Nat → Int32} (hC : E kb = bE ad kb b) (k : Int32) : Met l yX0_pushOf wsX0_pushOf ({ frames := 0, cells := 0, slots := 0, locals := 0 } : Room) (va_Pc [.ref a, .int k] (fPre D cI cJ cB t0 z tx ad L E)) (va_Qi (fun (r : Int32) (E1 : Nat → va_E) => r = p_push b k ∧ E1 = E) (fB D z ad L) (fA z)) 0 0 (fA z) := by
  refine f_ofW (cc := cX0_pushOf) (maxL := 2) (ret := some .int) (by decide) rfl (Nat.le_of_ble_eq_true rfl) ?_
  intro pr e s m args below meth c Q hx hb hr hml hts hown hlocks hin hG H locs hI hQ ls hl
  have hl : lv_has ls 2 [(0, .ref a), (1, .int k)] := hl
  have hC : E kb = .inr (0, [.ref (ad (kb + 1)), .int (b 1), .int (b 2), .int (b 3), .int (b 4), .int (b 5), .int (b 6), .int (b 7), .int (b 8), .int (b 9), .int (b 10), .int (b 11)]) := hC
  refine lv_iload_n hx hb dX0_pushOf_0 rfl (lv_at hl 1 rfl) ?_
  refine lv_iconst (v := 3) hx hb dX0_pushOf_1 (by decide) ?_
  refine lv_icmp_ne (tgt := 10) hx hb dX0_pushOf_2 (by decide) (fun c_2 => ?_) (fun c_2 => ?_)
  · refine lv_iload_n hx hb dX0_pushOf_10 rfl (lv_at hl 1 rfl) ?_
    refine lv_if_ne (tgt := 18) hx hb dX0_pushOf_11 (by decide) (fun c_11 => ?_) (fun c_11 => ?_)
    · refine lv_aload_n hx hb dX0_pushOf_18 rfl (lv_at hl 0 rfl) ?_
      refine f_get (ci := 0) (v := .int (b 2)) (C := RX0) (T := TX0) (N := 12) hx hb hts (by decide +kernel) hown hG.1 hI ha hk hC rfl 2 (by decide) (hts (.fieldLink RX0 17 "CoracleRace$Boat" "strength" "I") (by decide +kernel)) rfl dX0_pushOf_19 ?_
      refine lv_iconst (v := 2) hx hb dX0_pushOf_22 (by decide) ?_
      refine lv_idiv hx hb dX0_pushOf_23 (by decide) ?_
      exact f_reti hQ hx hb hr hlocks hI.2.2 (by omega) (by omega) dX0_pushOf_24 E (fB_of hI) (⟨by simp [p_push, c_2, c_11], rfl⟩)
    · refine lv_iconst (v := 0) hx hb dX0_pushOf_14 (by decide) ?_
      refine lv_goto (tgt := 24) hx hb dX0_pushOf_15 (by decide) ?_
      exact f_reti hQ hx hb hr hlocks hI.2.2 (by omega) (by omega) dX0_pushOf_24 E (fB_of hI) (⟨by simp [p_push, c_2, c_11], rfl⟩)
  · refine lv_aload_n hx hb dX0_pushOf_5 rfl (lv_at hl 0 rfl) ?_
    refine f_get (ci := 0) (v := .int (b 2)) (C := RX0) (T := TX0) (N := 12) hx hb hts (by decide +kernel) hown hG.1 hI ha hk hC rfl 2 (by decide) (hts (.fieldLink RX0 17 "CoracleRace$Boat" "strength" "I") (by decide +kernel)) rfl dX0_pushOf_6 ?_
    exact f_reti hQ hx hb hr hlocks hI.2.2 (by omega) (by omega) dX0_pushOf_9 E (fB_of hI) (⟨by simp [p_push, c_2], rfl⟩)

set_option maxHeartbeats 4000000 in
set_option maxRecDepth 100000 in
theorem m_X0_forceOf (l : Launch) {D : va_G} {cI cJ cB : ClassId} {t0 z : Nat} {tx ad : Nat → Nat} {L : List Nat} {E : Nat → va_E} {kb a : Nat} (ha : ad kb = a) (hk : kb ∈ L) {b : Nat → Int32} (hC : E kb = bE ad kb b) (k : Int32) : Met l yX0_forceOf wsX0_forceOf ({ frames := 1, cells := 0, slots := 0, locals := 21 } : Room) (va_Pc [.ref a, .int k] (fPre D cI cJ cB t0 z tx ad L E)) (va_Qi (fun (r : Int32) (E1 : Nat → va_E) => r = p_force b k ∧ E1 kb = bE ad kb (p_turn b k) ∧ ∀ q, q ≠ kb → E1 q = E q) (fB D z ad L) (fA z)) 0 0 (fA z) := by
  refine f_ofW (cc := cX0_forceOf) (maxL := 2) (ret := some .int) (by decide) rfl (Nat.le_of_ble_eq_true rfl) ?_
  intro pr e s m args below meth c Q hx hb hr hml hts hown hlocks hin hG H locs hI hQ ls hl
  have hl : lv_has ls 2 [(0, .ref a), (1, .int k)] := hl
  have hfr : ∀ q : Nat, q ≠ kb → E q = E q := fun _ _ => rfl
  have hC : E kb = .inr (0, [.ref (ad (kb + 1)), .int (b 1), .int (b 2), .int (b 3), .int (b 4), .int (b 5), .int (b 6), .int (b 7), .int (b 8), .int (b 9), .int (b 10), .int (b 11)]) := hC
  refine lv_iload_n hx hb dX0_forceOf_0 rfl (lv_at hl 1 rfl) ?_
  refine lv_iconst (v := 1) hx hb dX0_forceOf_1 (by decide) ?_
  refine lv_icmp_ne (tgt := 18) hx hb dX0_forceOf_2 (by decide) (fun c_2 => ?_) (fun c_2 => ?_)
  · refine lv_iload_n hx hb dX0_forceOf_18 rfl (lv_at hl 1 rfl) ?_
    refine lv_iconst (v := 2) hx hb dX0_forceOf_19 (by decide) ?_
    refine lv_icmp_ne (tgt := 33) hx hb dX0_forceOf_20 (by decide) (fun c_20 => ?_) (fun c_20 => ?_)
    · refine lv_aload_n hx hb dX0_forceOf_33 rfl (lv_at hl 0 rfl) ?_
      refine f_get (ci := 0) (v := .int (b 5)) (C := RX0) (T := TX0) (N := 12) hx hb hts (by decide +kernel) hown hG.1 hI ha hk hC rfl 5 (by decide) (hts (.fieldLink RX0 26 "CoracleRace$Boat" "heading" "I") (by decide +kernel)) rfl dX0_forceOf_34 ?_
      refine lv_iconst (v := 4) hx hb dX0_forceOf_37 (by decide) ?_
      refine lv_icmp_gt (tgt := 50) hx hb dX0_forceOf_38 (by decide) (fun c_38 => ?_) (fun c_38 => ?_)
      · have n_38 := i_nle.mpr c_38
        refine lv_aload_n hx hb dX0_forceOf_50 rfl (lv_at hl 0 rfl) ?_
        refine lv_iconst (v := 0) hx hb dX0_forceOf_51 (by decide) ?_
        refine f_put (ci := 0) (v := .int 0) (C := RX0) (T := TX0) (N := 12) hx hb hts (by decide +kernel) tyX0 tyX0_ok nmX0 hown hG.1 hI ha hk hC rfl 5 (by decide) (hts (.fieldLink RX0 26 "CoracleRace$Boat" "heading" "I") (by decide +kernel)) rfl rfl rfl (Nat.le_of_ble_eq_true rfl) dX0_forceOf_52 (fun E1 H locs hE2 hn3 hI => ?_)
        have hC : E1 kb = .inr (0, [.ref (ad (kb + 1)), .int (b 1), .int (b 2), .int (b 3), .int (b 4), .int 0, .int (b 6), .int (b 7), .int (b 8), .int (b 9), .int (b 10), .int (b 11)]) := hE2
        have hfr : ∀ q : Nat, q ≠ kb → E1 q = E q := fun q hq => (hn3 q (by omega)).trans (hfr q hq)
        refine lv_aload_n hx hb dX0_forceOf_55 rfl (lv_at hl 0 rfl) ?_
        refine lv_dup hx hb dX0_forceOf_56 rfl ?_
        refine f_get (ci := 0) (v := .int (b 10)) (C := RX0) (T := TX0) (N := 12) hx hb hts (by decide +kernel) hown hG.1 hI ha hk hC rfl 10 (by decide) (hts (.fieldLink RX0 42 "CoracleRace$Boat" "spins" "I") (by decide +kernel)) rfl dX0_forceOf_57 ?_
        refine lv_iconst (v := 1) hx hb dX0_forceOf_60 (by decide) ?_
        refine lv_iadd hx hb dX0_forceOf_61 ?_
        refine f_put (ci := 0) (v := .int ((b 10) + 1)) (C := RX0) (T := TX0) (N := 12) hx hb hts (by decide +kernel) tyX0 tyX0_ok nmX0 hown hG.1 hI ha hk hC rfl 10 (by decide) (hts (.fieldLink RX0 42 "CoracleRace$Boat" "spins" "I") (by decide +kernel)) rfl rfl rfl (Nat.le_of_ble_eq_true rfl) dX0_forceOf_62 (fun E4 H locs hE5 hn6 hI => ?_)
        have hC : E4 kb = .inr (0, [.ref (ad (kb + 1)), .int (b 1), .int (b 2), .int (b 3), .int (b 4), .int 0, .int (b 6), .int (b 7), .int (b 8), .int (b 9), .int ((b 10) + 1), .int (b 11)]) := hE5
        have hfr : ∀ q : Nat, q ≠ kb → E4 q = E q := fun q hq => (hn6 q (by omega)).trans (hfr q hq)
        refine lv_iconst (v := 0) hx hb dX0_forceOf_65 (by decide) ?_
        exact f_reti hQ hx hb hr hlocks hI.2.2 (by omega) (by omega) dX0_forceOf_66 E4 (fB_of hI) (⟨by simp [p_force, p_spun, p_head, p_max, p_push, va_up, c_2, c_20, c_38, n_38] <;> rfl, by rw [hC]; simp [p_turn, p_spun, p_head, va_up, c_2, c_20, c_38, n_38], hfr⟩)
      · have n_38 := c_38
        have c_38 := i_nlt.mp n_38
        refine lv_aload_n hx hb dX0_forceOf_41 rfl (lv_at hl 0 rfl) ?_
        refine f_get (ci := 0) (v := .int (b 5)) (C := RX0) (T := TX0) (N := 12) hx hb hts (by decide +kernel) hown hG.1 hI ha hk hC rfl 5 (by decide) (hts (.fieldLink RX0 26 "CoracleRace$Boat" "heading" "I") (by decide +kernel)) rfl dX0_forceOf_42 ?_
        refine lv_bipush (v := -4) hx hb dX0_forceOf_45 (by decide) ?_
        refine lv_icmp_ge (tgt := 67) hx hb dX0_forceOf_47 (by decide) (fun c_47 => ?_) (fun c_47 => ?_)
        · have n_47 := i_nlt.mpr c_47
          refine lv_iconst (v := 0) hx hb dX0_forceOf_67 (by decide) ?_
          refine lv_aload_n hx hb dX0_forceOf_68 rfl (lv_at hl 0 rfl) ?_
          refine lv_iload_n hx hb dX0_forceOf_69 rfl (lv_at hl 1 rfl) ?_
          refine f_calli1 (va_runV (As := [.int k]) (rest := [.int 0]) ⟨hx, hb, hml, hown, hts⟩ (m_X0_pushOf l ha hk (b := va_up b 5 (b 5)) hC k) (cwV 1 hts gX0_forceOf_X0_pushOf rfl rfl rfl (by decide +kernel) ⟨Nat.le_of_ble_eq_true rfl, Nat.le_of_ble_eq_true rfl⟩) (fPre_ofV hG hI ha hk hC rfl rfl) rfl rfl hl.1 rfl (lv_room (Nat.le_of_ble_eq_true rfl)) dX0_forceOf_70 ⟨Nat.le_of_ble_eq_true rfl, Nat.le_of_ble_eq_true rfl⟩) hI (fun r7 E8 H locs hp hI => ?_)
          obtain ⟨he, hq⟩ := hp
          rw [hq] at hI
          subst he
          refine lv_aload_n hx hb dX0_forceOf_73 rfl (lv_at hl 0 rfl) ?_
          refine f_get (ci := 0) (v := .int (b 6)) (C := RX0) (T := TX0) (N := 12) hx hb hts (by decide +kernel) hown hG.1 hI ha hk hC rfl 6 (by decide) (hts (.fieldLink RX0 29 "CoracleRace$Boat" "soaked" "I") (by decide +kernel)) rfl dX0_forceOf_74 ?_
          refine lv_bipush (v := 6) hx hb dX0_forceOf_77 (by decide) ?_
          refine lv_idiv hx hb dX0_forceOf_79 (by decide) ?_
          refine lv_isub hx hb dX0_forceOf_80 ?_
          refine va_mmax hx hb (hml.trans hl.1.symm) hown (hts (.methodLink RX0 91 Lib.Math.max.name) (by decide +kernel)) (hts (.static Lib.Math.max.name) (by decide +kernel)) (hts (.initialized "java/lang/Math") (by decide +kernel)) (hts (.code Lib.Math.max.name Lib.Math.max.code 2 (some .int)) (by decide +kernel)) (Nat.le_of_ble_eq_true rfl) (Nat.le_of_ble_eq_true rfl) (Nat.zero_le _) (Nat.zero_le _) dX0_forceOf_81 ?_
          exact f_reti hQ hx hb hr hlocks hI.2.2 (by omega) (by omega) dX0_forceOf_84 E (fB_of hI) (⟨by simp [p_force, p_spun, p_head, p_max, p_push, va_up, c_2, c_20, c_38, n_38, c_47, n_47] <;> rfl, by rw [hC]; simp [p_turn, p_spun, p_head, va_up, c_2, c_20, c_38, n_38, c_47, n_47], hfr⟩)
        · have n_47 := c_47
          have c_47 := i_nle.mp n_47
          refine lv_aload_n hx hb dX0_forceOf_50 rfl (lv_at hl 0 rfl) ?_
          refine lv_iconst (v := 0) hx hb dX0_forceOf_51 (by decide) ?_
          refine f_put (ci := 0) (v := .int 0) (C := RX0) (T := TX0) (N := 12) hx hb hts (by decide +kernel) tyX0 tyX0_ok nmX0 hown hG.1 hI ha hk hC rfl 5 (by decide) (hts (.fieldLink RX0 26 "CoracleRace$Boat" "heading" "I") (by decide +kernel)) rfl rfl rfl (Nat.le_of_ble_eq_true rfl) dX0_forceOf_52 (fun E9 H locs hE10 hn11 hI => ?_)
          have hC : E9 kb = .inr (0, [.ref (ad (kb + 1)), .int (b 1), .int (b 2), .int (b 3), .int (b 4), .int 0, .int (b 6), .int (b 7), .int (b 8), .int (b 9), .int (b 10), .int (b 11)]) := hE10
          have hfr : ∀ q : Nat, q ≠ kb → E9 q = E q := fun q hq => (hn11 q (by omega)).trans (hfr q hq)
          refine lv_aload_n hx hb dX0_forceOf_55 rfl (lv_at hl 0 rfl) ?_
          refine lv_dup hx hb dX0_forceOf_56 rfl ?_
          refine f_get (ci := 0) (v := .int (b 10)) (C := RX0) (T := TX0) (N := 12) hx hb hts (by decide +kernel) hown hG.1 hI ha hk hC rfl 10 (by decide) (hts (.fieldLink RX0 42 "CoracleRace$Boat" "spins" "I") (by decide +kernel)) rfl dX0_forceOf_57 ?_
          refine lv_iconst (v := 1) hx hb dX0_forceOf_60 (by decide) ?_
          refine lv_iadd hx hb dX0_forceOf_61 ?_
          refine f_put (ci := 0) (v := .int ((b 10) + 1)) (C := RX0) (T := TX0) (N := 12) hx hb hts (by decide +kernel) tyX0 tyX0_ok nmX0 hown hG.1 hI ha hk hC rfl 10 (by decide) (hts (.fieldLink RX0 42 "CoracleRace$Boat" "spins" "I") (by decide +kernel)) rfl rfl rfl (Nat.le_of_ble_eq_true rfl) dX0_forceOf_62 (fun E12 H locs hE13 hn14 hI => ?_)
          have hC : E12 kb = .inr (0, [.ref (ad (kb + 1)), .int (b 1), .int (b 2), .int (b 3), .int (b 4), .int 0, .int (b 6), .int (b 7), .int (b 8), .int (b 9), .int ((b 10) + 1), .int (b 11)]) := hE13
          have hfr : ∀ q : Nat, q ≠ kb → E12 q = E q := fun q hq => (hn14 q (by omega)).trans (hfr q hq)
          refine lv_iconst (v := 0) hx hb dX0_forceOf_65 (by decide) ?_
          exact f_reti hQ hx hb hr hlocks hI.2.2 (by omega) (by omega) dX0_forceOf_66 E12 (fB_of hI) (⟨by simp [p_force, p_spun, p_head, p_max, p_push, va_up, c_2, c_20, c_38, n_38, c_47, n_47] <;> rfl, by rw [hC]; simp [p_turn, p_spun, p_head, va_up, c_2, c_20, c_38, n_38, c_47, n_47], hfr⟩)
    · refine lv_aload_n hx hb dX0_forceOf_23 rfl (lv_at hl 0 rfl) ?_
      refine lv_dup hx hb dX0_forceOf_24 rfl ?_
      refine f_get (ci := 0) (v := .int (b 5)) (C := RX0) (T := TX0) (N := 12) hx hb hts (by decide +kernel) hown hG.1 hI ha hk hC rfl 5 (by decide) (hts (.fieldLink RX0 26 "CoracleRace$Boat" "heading" "I") (by decide +kernel)) rfl dX0_forceOf_25 ?_
      refine lv_iconst (v := 1) hx hb dX0_forceOf_28 (by decide) ?_
      refine lv_isub hx hb dX0_forceOf_29 ?_
      refine f_put (ci := 0) (v := .int ((b 5) - 1)) (C := RX0) (T := TX0) (N := 12) hx hb hts (by decide +kernel) tyX0 tyX0_ok nmX0 hown hG.1 hI ha hk hC rfl 5 (by decide) (hts (.fieldLink RX0 26 "CoracleRace$Boat" "heading" "I") (by decide +kernel)) rfl rfl rfl (Nat.le_of_ble_eq_true rfl) dX0_forceOf_30 (fun E15 H locs hE16 hn17 hI => ?_)
      have hC : E15 kb = .inr (0, [.ref (ad (kb + 1)), .int (b 1), .int (b 2), .int (b 3), .int (b 4), .int ((b 5) - 1), .int (b 6), .int (b 7), .int (b 8), .int (b 9), .int (b 10), .int (b 11)]) := hE16
      have hfr : ∀ q : Nat, q ≠ kb → E15 q = E q := fun q hq => (hn17 q (by omega)).trans (hfr q hq)
      refine lv_aload_n hx hb dX0_forceOf_33 rfl (lv_at hl 0 rfl) ?_
      refine f_get (ci := 0) (v := .int ((b 5) - 1)) (C := RX0) (T := TX0) (N := 12) hx hb hts (by decide +kernel) hown hG.1 hI ha hk hC rfl 5 (by decide) (hts (.fieldLink RX0 26 "CoracleRace$Boat" "heading" "I") (by decide +kernel)) rfl dX0_forceOf_34 ?_
      refine lv_iconst (v := 4) hx hb dX0_forceOf_37 (by decide) ?_
      refine lv_icmp_gt (tgt := 50) hx hb dX0_forceOf_38 (by decide) (fun c_38 => ?_) (fun c_38 => ?_)
      · have n_38 := i_nle.mpr c_38
        refine lv_aload_n hx hb dX0_forceOf_50 rfl (lv_at hl 0 rfl) ?_
        refine lv_iconst (v := 0) hx hb dX0_forceOf_51 (by decide) ?_
        refine f_put (ci := 0) (v := .int 0) (C := RX0) (T := TX0) (N := 12) hx hb hts (by decide +kernel) tyX0 tyX0_ok nmX0 hown hG.1 hI ha hk hC rfl 5 (by decide) (hts (.fieldLink RX0 26 "CoracleRace$Boat" "heading" "I") (by decide +kernel)) rfl rfl rfl (Nat.le_of_ble_eq_true rfl) dX0_forceOf_52 (fun E18 H locs hE19 hn20 hI => ?_)
        have hC : E18 kb = .inr (0, [.ref (ad (kb + 1)), .int (b 1), .int (b 2), .int (b 3), .int (b 4), .int 0, .int (b 6), .int (b 7), .int (b 8), .int (b 9), .int (b 10), .int (b 11)]) := hE19
        have hfr : ∀ q : Nat, q ≠ kb → E18 q = E q := fun q hq => (hn20 q (by omega)).trans (hfr q hq)
        refine lv_aload_n hx hb dX0_forceOf_55 rfl (lv_at hl 0 rfl) ?_
        refine lv_dup hx hb dX0_forceOf_56 rfl ?_
        refine f_get (ci := 0) (v := .int (b 10)) (C := RX0) (T := TX0) (N := 12) hx hb hts (by decide +kernel) hown hG.1 hI ha hk hC rfl 10 (by decide) (hts (.fieldLink RX0 42 "CoracleRace$Boat" "spins" "I") (by decide +kernel)) rfl dX0_forceOf_57 ?_
        refine lv_iconst (v := 1) hx hb dX0_forceOf_60 (by decide) ?_
        refine lv_iadd hx hb dX0_forceOf_61 ?_
        refine f_put (ci := 0) (v := .int ((b 10) + 1)) (C := RX0) (T := TX0) (N := 12) hx hb hts (by decide +kernel) tyX0 tyX0_ok nmX0 hown hG.1 hI ha hk hC rfl 10 (by decide) (hts (.fieldLink RX0 42 "CoracleRace$Boat" "spins" "I") (by decide +kernel)) rfl rfl rfl (Nat.le_of_ble_eq_true rfl) dX0_forceOf_62 (fun E21 H locs hE22 hn23 hI => ?_)
        have hC : E21 kb = .inr (0, [.ref (ad (kb + 1)), .int (b 1), .int (b 2), .int (b 3), .int (b 4), .int 0, .int (b 6), .int (b 7), .int (b 8), .int (b 9), .int ((b 10) + 1), .int (b 11)]) := hE22
        have hfr : ∀ q : Nat, q ≠ kb → E21 q = E q := fun q hq => (hn23 q (by omega)).trans (hfr q hq)
        refine lv_iconst (v := 0) hx hb dX0_forceOf_65 (by decide) ?_
        exact f_reti hQ hx hb hr hlocks hI.2.2 (by omega) (by omega) dX0_forceOf_66 E21 (fB_of hI) (⟨by simp [p_force, p_spun, p_head, p_max, p_push, va_up, c_2, c_20, c_38, n_38] <;> rfl, by rw [hC]; simp [p_turn, p_spun, p_head, va_up, c_2, c_20, c_38, n_38], hfr⟩)
      · have n_38 := c_38
        have c_38 := i_nlt.mp n_38
        refine lv_aload_n hx hb dX0_forceOf_41 rfl (lv_at hl 0 rfl) ?_
        refine f_get (ci := 0) (v := .int ((b 5) - 1)) (C := RX0) (T := TX0) (N := 12) hx hb hts (by decide +kernel) hown hG.1 hI ha hk hC rfl 5 (by decide) (hts (.fieldLink RX0 26 "CoracleRace$Boat" "heading" "I") (by decide +kernel)) rfl dX0_forceOf_42 ?_
        refine lv_bipush (v := -4) hx hb dX0_forceOf_45 (by decide) ?_
        refine lv_icmp_ge (tgt := 67) hx hb dX0_forceOf_47 (by decide) (fun c_47 => ?_) (fun c_47 => ?_)
        · have n_47 := i_nlt.mpr c_47
          refine lv_iconst (v := 0) hx hb dX0_forceOf_67 (by decide) ?_
          refine lv_aload_n hx hb dX0_forceOf_68 rfl (lv_at hl 0 rfl) ?_
          refine lv_iload_n hx hb dX0_forceOf_69 rfl (lv_at hl 1 rfl) ?_
          refine f_calli1 (va_runV (As := [.int k]) (rest := [.int 0]) ⟨hx, hb, hml, hown, hts⟩ (m_X0_pushOf l ha hk (b := va_up b 5 ((b 5) - 1)) hC k) (cwV 1 hts gX0_forceOf_X0_pushOf rfl rfl rfl (by decide +kernel) ⟨Nat.le_of_ble_eq_true rfl, Nat.le_of_ble_eq_true rfl⟩) (fPre_ofV hG hI ha hk hC rfl rfl) rfl rfl hl.1 rfl (lv_room (Nat.le_of_ble_eq_true rfl)) dX0_forceOf_70 ⟨Nat.le_of_ble_eq_true rfl, Nat.le_of_ble_eq_true rfl⟩) hI (fun r24 E25 H locs hp hI => ?_)
          obtain ⟨he, hq⟩ := hp
          rw [hq] at hI
          subst he
          refine lv_aload_n hx hb dX0_forceOf_73 rfl (lv_at hl 0 rfl) ?_
          refine f_get (ci := 0) (v := .int (b 6)) (C := RX0) (T := TX0) (N := 12) hx hb hts (by decide +kernel) hown hG.1 hI ha hk hC rfl 6 (by decide) (hts (.fieldLink RX0 29 "CoracleRace$Boat" "soaked" "I") (by decide +kernel)) rfl dX0_forceOf_74 ?_
          refine lv_bipush (v := 6) hx hb dX0_forceOf_77 (by decide) ?_
          refine lv_idiv hx hb dX0_forceOf_79 (by decide) ?_
          refine lv_isub hx hb dX0_forceOf_80 ?_
          refine va_mmax hx hb (hml.trans hl.1.symm) hown (hts (.methodLink RX0 91 Lib.Math.max.name) (by decide +kernel)) (hts (.static Lib.Math.max.name) (by decide +kernel)) (hts (.initialized "java/lang/Math") (by decide +kernel)) (hts (.code Lib.Math.max.name Lib.Math.max.code 2 (some .int)) (by decide +kernel)) (Nat.le_of_ble_eq_true rfl) (Nat.le_of_ble_eq_true rfl) (Nat.zero_le _) (Nat.zero_le _) dX0_forceOf_81 ?_
          exact f_reti hQ hx hb hr hlocks hI.2.2 (by omega) (by omega) dX0_forceOf_84 E15 (fB_of hI) (⟨by simp [p_force, p_spun, p_head, p_max, p_push, va_up, c_2, c_20, c_38, n_38, c_47, n_47] <;> rfl, by rw [hC]; simp [p_turn, p_spun, p_head, va_up, c_2, c_20, c_38, n_38, c_47, n_47], hfr⟩)
        · have n_47 := c_47
          have c_47 := i_nle.mp n_47
          refine lv_aload_n hx hb dX0_forceOf_50 rfl (lv_at hl 0 rfl) ?_
          refine lv_iconst (v := 0) hx hb dX0_forceOf_51 (by decide) ?_
          refine f_put (ci := 0) (v := .int 0) (C := RX0) (T := TX0) (N := 12) hx hb hts (by decide +kernel) tyX0 tyX0_ok nmX0 hown hG.1 hI ha hk hC rfl 5 (by decide) (hts (.fieldLink RX0 26 "CoracleRace$Boat" "heading" "I") (by decide +kernel)) rfl rfl rfl (Nat.le_of_ble_eq_true rfl) dX0_forceOf_52 (fun E26 H locs hE27 hn28 hI => ?_)
          have hC : E26 kb = .inr (0, [.ref (ad (kb + 1)), .int (b 1), .int (b 2), .int (b 3), .int (b 4), .int 0, .int (b 6), .int (b 7), .int (b 8), .int (b 9), .int (b 10), .int (b 11)]) := hE27
          have hfr : ∀ q : Nat, q ≠ kb → E26 q = E q := fun q hq => (hn28 q (by omega)).trans (hfr q hq)
          refine lv_aload_n hx hb dX0_forceOf_55 rfl (lv_at hl 0 rfl) ?_
          refine lv_dup hx hb dX0_forceOf_56 rfl ?_
          refine f_get (ci := 0) (v := .int (b 10)) (C := RX0) (T := TX0) (N := 12) hx hb hts (by decide +kernel) hown hG.1 hI ha hk hC rfl 10 (by decide) (hts (.fieldLink RX0 42 "CoracleRace$Boat" "spins" "I") (by decide +kernel)) rfl dX0_forceOf_57 ?_
          refine lv_iconst (v := 1) hx hb dX0_forceOf_60 (by decide) ?_
          refine lv_iadd hx hb dX0_forceOf_61 ?_
          refine f_put (ci := 0) (v := .int ((b 10) + 1)) (C := RX0) (T := TX0) (N := 12) hx hb hts (by decide +kernel) tyX0 tyX0_ok nmX0 hown hG.1 hI ha hk hC rfl 10 (by decide) (hts (.fieldLink RX0 42 "CoracleRace$Boat" "spins" "I") (by decide +kernel)) rfl rfl rfl (Nat.le_of_ble_eq_true rfl) dX0_forceOf_62 (fun E29 H locs hE30 hn31 hI => ?_)
          have hC : E29 kb = .inr (0, [.ref (ad (kb + 1)), .int (b 1), .int (b 2), .int (b 3), .int (b 4), .int 0, .int (b 6), .int (b 7), .int (b 8), .int (b 9), .int ((b 10) + 1), .int (b 11)]) := hE30
          have hfr : ∀ q : Nat, q ≠ kb → E29 q = E q := fun q hq => (hn31 q (by omega)).trans (hfr q hq)
          refine lv_iconst (v := 0) hx hb dX0_forceOf_65 (by decide) ?_
          exact f_reti hQ hx hb hr hlocks hI.2.2 (by omega) (by omega) dX0_forceOf_66 E29 (fB_of hI) (⟨by simp [p_force, p_spun, p_head, p_max, p_push, va_up, c_2, c_20, c_38, n_38, c_47, n_47] <;> rfl, by rw [hC]; simp [p_turn, p_spun, p_head, va_up, c_2, c_20, c_38, n_38, c_47, n_47], hfr⟩)
  · refine lv_aload_n hx hb dX0_forceOf_5 rfl (lv_at hl 0 rfl) ?_
    refine lv_dup hx hb dX0_forceOf_6 rfl ?_
    refine f_get (ci := 0) (v := .int (b 5)) (C := RX0) (T := TX0) (N := 12) hx hb hts (by decide +kernel) hown hG.1 hI ha hk hC rfl 5 (by decide) (hts (.fieldLink RX0 26 "CoracleRace$Boat" "heading" "I") (by decide +kernel)) rfl dX0_forceOf_7 ?_
    refine lv_iconst (v := 1) hx hb dX0_forceOf_10 (by decide) ?_
    refine lv_iadd hx hb dX0_forceOf_11 ?_
    refine f_put (ci := 0) (v := .int ((b 5) + 1)) (C := RX0) (T := TX0) (N := 12) hx hb hts (by decide +kernel) tyX0 tyX0_ok nmX0 hown hG.1 hI ha hk hC rfl 5 (by decide) (hts (.fieldLink RX0 26 "CoracleRace$Boat" "heading" "I") (by decide +kernel)) rfl rfl rfl (Nat.le_of_ble_eq_true rfl) dX0_forceOf_12 (fun E32 H locs hE33 hn34 hI => ?_)
    have hC : E32 kb = .inr (0, [.ref (ad (kb + 1)), .int (b 1), .int (b 2), .int (b 3), .int (b 4), .int ((b 5) + 1), .int (b 6), .int (b 7), .int (b 8), .int (b 9), .int (b 10), .int (b 11)]) := hE33
    have hfr : ∀ q : Nat, q ≠ kb → E32 q = E q := fun q hq => (hn34 q (by omega)).trans (hfr q hq)
    refine lv_goto (tgt := 33) hx hb dX0_forceOf_15 (by decide) ?_
    refine lv_aload_n hx hb dX0_forceOf_33 rfl (lv_at hl 0 rfl) ?_
    refine f_get (ci := 0) (v := .int ((b 5) + 1)) (C := RX0) (T := TX0) (N := 12) hx hb hts (by decide +kernel) hown hG.1 hI ha hk hC rfl 5 (by decide) (hts (.fieldLink RX0 26 "CoracleRace$Boat" "heading" "I") (by decide +kernel)) rfl dX0_forceOf_34 ?_
    refine lv_iconst (v := 4) hx hb dX0_forceOf_37 (by decide) ?_
    refine lv_icmp_gt (tgt := 50) hx hb dX0_forceOf_38 (by decide) (fun c_38 => ?_) (fun c_38 => ?_)
    · have n_38 := i_nle.mpr c_38
      refine lv_aload_n hx hb dX0_forceOf_50 rfl (lv_at hl 0 rfl) ?_
      refine lv_iconst (v := 0) hx hb dX0_forceOf_51 (by decide) ?_
      refine f_put (ci := 0) (v := .int 0) (C := RX0) (T := TX0) (N := 12) hx hb hts (by decide +kernel) tyX0 tyX0_ok nmX0 hown hG.1 hI ha hk hC rfl 5 (by decide) (hts (.fieldLink RX0 26 "CoracleRace$Boat" "heading" "I") (by decide +kernel)) rfl rfl rfl (Nat.le_of_ble_eq_true rfl) dX0_forceOf_52 (fun E35 H locs hE36 hn37 hI => ?_)
      have hC : E35 kb = .inr (0, [.ref (ad (kb + 1)), .int (b 1), .int (b 2), .int (b 3), .int (b 4), .int 0, .int (b 6), .int (b 7), .int (b 8), .int (b 9), .int (b 10), .int (b 11)]) := hE36
      have hfr : ∀ q : Nat, q ≠ kb → E35 q = E q := fun q hq => (hn37 q (by omega)).trans (hfr q hq)
      refine lv_aload_n hx hb dX0_forceOf_55 rfl (lv_at hl 0 rfl) ?_
      refine lv_dup hx hb dX0_forceOf_56 rfl ?_
      refine f_get (ci := 0) (v := .int (b 10)) (C := RX0) (T := TX0) (N := 12) hx hb hts (by decide +kernel) hown hG.1 hI ha hk hC rfl 10 (by decide) (hts (.fieldLink RX0 42 "CoracleRace$Boat" "spins" "I") (by decide +kernel)) rfl dX0_forceOf_57 ?_
      refine lv_iconst (v := 1) hx hb dX0_forceOf_60 (by decide) ?_
      refine lv_iadd hx hb dX0_forceOf_61 ?_
      refine f_put (ci := 0) (v := .int ((b 10) + 1)) (C := RX0) (T := TX0) (N := 12) hx hb hts (by decide +kernel) tyX0 tyX0_ok nmX0 hown hG.1 hI ha hk hC rfl 10 (by decide) (hts (.fieldLink RX0 42 "CoracleRace$Boat" "spins" "I") (by decide +kernel)) rfl rfl rfl (Nat.le_of_ble_eq_true rfl) dX0_forceOf_62 (fun E38 H locs hE39 hn40 hI => ?_)
      have hC : E38 kb = .inr (0, [.ref (ad (kb + 1)), .int (b 1), .int (b 2), .int (b 3), .int (b 4), .int 0, .int (b 6), .int (b 7), .int (b 8), .int (b 9), .int ((b 10) + 1), .int (b 11)]) := hE39
      have hfr : ∀ q : Nat, q ≠ kb → E38 q = E q := fun q hq => (hn40 q (by omega)).trans (hfr q hq)
      refine lv_iconst (v := 0) hx hb dX0_forceOf_65 (by decide) ?_
      exact f_reti hQ hx hb hr hlocks hI.2.2 (by omega) (by omega) dX0_forceOf_66 E38 (fB_of hI) (⟨by simp [p_force, p_spun, p_head, p_max, p_push, va_up, c_2, c_38, n_38] <;> rfl, by rw [hC]; simp [p_turn, p_spun, p_head, va_up, c_2, c_38, n_38], hfr⟩)
    · have n_38 := c_38
      have c_38 := i_nlt.mp n_38
      refine lv_aload_n hx hb dX0_forceOf_41 rfl (lv_at hl 0 rfl) ?_
      refine f_get (ci := 0) (v := .int ((b 5) + 1)) (C := RX0) (T := TX0) (N := 12) hx hb hts (by decide +kernel) hown hG.1 hI ha hk hC rfl 5 (by decide) (hts (.fieldLink RX0 26 "CoracleRace$Boat" "heading" "I") (by decide +kernel)) rfl dX0_forceOf_42 ?_
      refine lv_bipush (v := -4) hx hb dX0_forceOf_45 (by decide) ?_
      refine lv_icmp_ge (tgt := 67) hx hb dX0_forceOf_47 (by decide) (fun c_47 => ?_) (fun c_47 => ?_)
      · have n_47 := i_nlt.mpr c_47
        refine lv_iconst (v := 0) hx hb dX0_forceOf_67 (by decide) ?_
        refine lv_aload_n hx hb dX0_forceOf_68 rfl (lv_at hl 0 rfl) ?_
        refine lv_iload_n hx hb dX0_forceOf_69 rfl (lv_at hl 1 rfl) ?_
        refine f_calli1 (va_runV (As := [.int k]) (rest := [.int 0]) ⟨hx, hb, hml, hown, hts⟩ (m_X0_pushOf l ha hk (b := va_up b 5 ((b 5) + 1)) hC k) (cwV 1 hts gX0_forceOf_X0_pushOf rfl rfl rfl (by decide +kernel) ⟨Nat.le_of_ble_eq_true rfl, Nat.le_of_ble_eq_true rfl⟩) (fPre_ofV hG hI ha hk hC rfl rfl) rfl rfl hl.1 rfl (lv_room (Nat.le_of_ble_eq_true rfl)) dX0_forceOf_70 ⟨Nat.le_of_ble_eq_true rfl, Nat.le_of_ble_eq_true rfl⟩) hI (fun r41 E42 H locs hp hI => ?_)
        obtain ⟨he, hq⟩ := hp
        rw [hq] at hI
        subst he
        refine lv_aload_n hx hb dX0_forceOf_73 rfl (lv_at hl 0 rfl) ?_
        refine f_get (ci := 0) (v := .int (b 6)) (C := RX0) (T := TX0) (N := 12) hx hb hts (by decide +kernel) hown hG.1 hI ha hk hC rfl 6 (by decide) (hts (.fieldLink RX0 29 "CoracleRace$Boat" "soaked" "I") (by decide +kernel)) rfl dX0_forceOf_74 ?_
        refine lv_bipush (v := 6) hx hb dX0_forceOf_77 (by decide) ?_
        refine lv_idiv hx hb dX0_forceOf_79 (by decide) ?_
        refine lv_isub hx hb dX0_forceOf_80 ?_
        refine va_mmax hx hb (hml.trans hl.1.symm) hown (hts (.methodLink RX0 91 Lib.Math.max.name) (by decide +kernel)) (hts (.static Lib.Math.max.name) (by decide +kernel)) (hts (.initialized "java/lang/Math") (by decide +kernel)) (hts (.code Lib.Math.max.name Lib.Math.max.code 2 (some .int)) (by decide +kernel)) (Nat.le_of_ble_eq_true rfl) (Nat.le_of_ble_eq_true rfl) (Nat.zero_le _) (Nat.zero_le _) dX0_forceOf_81 ?_
        exact f_reti hQ hx hb hr hlocks hI.2.2 (by omega) (by omega) dX0_forceOf_84 E32 (fB_of hI) (⟨by simp [p_force, p_spun, p_head, p_max, p_push, va_up, c_2, c_38, n_38, c_47, n_47] <;> rfl, by rw [hC]; simp [p_turn, p_spun, p_head, va_up, c_2, c_38, n_38, c_47, n_47], hfr⟩)
      · have n_47 := c_47
        have c_47 := i_nle.mp n_47
        refine lv_aload_n hx hb dX0_forceOf_50 rfl (lv_at hl 0 rfl) ?_
        refine lv_iconst (v := 0) hx hb dX0_forceOf_51 (by decide) ?_
        refine f_put (ci := 0) (v := .int 0) (C := RX0) (T := TX0) (N := 12) hx hb hts (by decide +kernel) tyX0 tyX0_ok nmX0 hown hG.1 hI ha hk hC rfl 5 (by decide) (hts (.fieldLink RX0 26 "CoracleRace$Boat" "heading" "I") (by decide +kernel)) rfl rfl rfl (Nat.le_of_ble_eq_true rfl) dX0_forceOf_52 (fun E43 H locs hE44 hn45 hI => ?_)
        have hC : E43 kb = .inr (0, [.ref (ad (kb + 1)), .int (b 1), .int (b 2), .int (b 3), .int (b 4), .int 0, .int (b 6), .int (b 7), .int (b 8), .int (b 9), .int (b 10), .int (b 11)]) := hE44
        have hfr : ∀ q : Nat, q ≠ kb → E43 q = E q := fun q hq => (hn45 q (by omega)).trans (hfr q hq)
        refine lv_aload_n hx hb dX0_forceOf_55 rfl (lv_at hl 0 rfl) ?_
        refine lv_dup hx hb dX0_forceOf_56 rfl ?_
        refine f_get (ci := 0) (v := .int (b 10)) (C := RX0) (T := TX0) (N := 12) hx hb hts (by decide +kernel) hown hG.1 hI ha hk hC rfl 10 (by decide) (hts (.fieldLink RX0 42 "CoracleRace$Boat" "spins" "I") (by decide +kernel)) rfl dX0_forceOf_57 ?_
        refine lv_iconst (v := 1) hx hb dX0_forceOf_60 (by decide) ?_
        refine lv_iadd hx hb dX0_forceOf_61 ?_
        refine f_put (ci := 0) (v := .int ((b 10) + 1)) (C := RX0) (T := TX0) (N := 12) hx hb hts (by decide +kernel) tyX0 tyX0_ok nmX0 hown hG.1 hI ha hk hC rfl 10 (by decide) (hts (.fieldLink RX0 42 "CoracleRace$Boat" "spins" "I") (by decide +kernel)) rfl rfl rfl (Nat.le_of_ble_eq_true rfl) dX0_forceOf_62 (fun E46 H locs hE47 hn48 hI => ?_)
        have hC : E46 kb = .inr (0, [.ref (ad (kb + 1)), .int (b 1), .int (b 2), .int (b 3), .int (b 4), .int 0, .int (b 6), .int (b 7), .int (b 8), .int (b 9), .int ((b 10) + 1), .int (b 11)]) := hE47
        have hfr : ∀ q : Nat, q ≠ kb → E46 q = E q := fun q hq => (hn48 q (by omega)).trans (hfr q hq)
        refine lv_iconst (v := 0) hx hb dX0_forceOf_65 (by decide) ?_
        exact f_reti hQ hx hb hr hlocks hI.2.2 (by omega) (by omega) dX0_forceOf_66 E46 (fB_of hI) (⟨by simp [p_force, p_spun, p_head, p_max, p_push, va_up, c_2, c_38, n_38, c_47, n_47] <;> rfl, by rw [hC]; simp [p_turn, p_spun, p_head, va_up, c_2, c_38, n_38, c_47, n_47], hfr⟩)

set_option maxHeartbeats 4000000 in
set_option maxRecDepth 100000 in
theorem m_X0_drift (l : Launch) {D : va_G} {cI cJ cB : ClassId} {t0 z : Nat} {tx ad : Nat → Nat} {L : List Nat} {E : Nat → va_E} {kb a : Nat} (ha : ad kb = a) (hk : kb ∈ L) {b : Nat → Int32} (hC : E kb = bE ad kb b) : Met l yX0_drift wsX0_drift ({ frames := 1, cells := 0, slots := 0, locals := 20 } : Room) (va_Pc [.ref a] (fPre D cI cJ cB t0 z tx ad L E)) (va_Qv (fun (E1 : Nat → va_E) => E1 kb = bE ad kb (p_drift b) ∧ ∀ q, q ≠ kb → E1 q = E q) (fB D z ad L) (fA z)) 0 0 (fA z) := by
  refine f_ofW (cc := cX0_drift) (maxL := 2) (ret := none) (by decide) rfl (Nat.le_of_ble_eq_true rfl) ?_
  intro pr e s m args below meth c Q hx hb hr hml hts hown hlocks hin hG H locs hI hQ ls hl
  have hl : lv_has ls 2 [(0, .ref a)] := hl
  have hfr : ∀ q : Nat, q ≠ kb → E q = E q := fun _ _ => rfl
  have hC : E kb = .inr (0, [.ref (ad (kb + 1)), .int (b 1), .int (b 2), .int (b 3), .int (b 4), .int (b 5), .int (b 6), .int (b 7), .int (b 8), .int (b 9), .int (b 10), .int (b 11)]) := hC
  refine lv_aload_n hx hb dX0_drift_0 rfl (lv_at hl 0 rfl) ?_
  refine f_get (ci := 0) (v := .int (b 4)) (C := RX0) (T := TX0) (N := 12) hx hb hts (by decide +kernel) hown hG.1 hI ha hk hC rfl 4 (by decide) (hts (.fieldLink RX0 23 "CoracleRace$Boat" "lane" "I") (by decide +kernel)) rfl dX0_drift_1 ?_
  refine lv_istore_n (lv' := [(1, .int (b 4)), (0, .ref a)]) hx hb dX0_drift_4 rfl hl (by decide) rfl (fun ls hl => ?_)
  refine lv_aload_n hx hb dX0_drift_5 rfl (lv_at hl 1 rfl) ?_
  refine f_get (ci := 0) (v := .int (b 5)) (C := RX0) (T := TX0) (N := 12) hx hb hts (by decide +kernel) hown hG.1 hI ha hk hC rfl 5 (by decide) (hts (.fieldLink RX0 26 "CoracleRace$Boat" "heading" "I") (by decide +kernel)) rfl dX0_drift_6 ?_
  refine lv_iconst (v := 2) hx hb dX0_drift_9 (by decide) ?_
  refine lv_icmp_lt (tgt := 23) hx hb dX0_drift_10 (by decide) (fun c_10 => ?_) (fun c_10 => ?_)
  · have n_10 := i_nle.mpr c_10
    refine lv_aload_n hx hb dX0_drift_23 rfl (lv_at hl 1 rfl) ?_
    refine f_get (ci := 0) (v := .int (b 5)) (C := RX0) (T := TX0) (N := 12) hx hb hts (by decide +kernel) hown hG.1 hI ha hk hC rfl 5 (by decide) (hts (.fieldLink RX0 26 "CoracleRace$Boat" "heading" "I") (by decide +kernel)) rfl dX0_drift_24 ?_
    refine lv_bipush (v := -2) hx hb dX0_drift_27 (by decide) ?_
    refine lv_icmp_gt (tgt := 39) hx hb dX0_drift_29 (by decide) (fun c_29 => ?_) (fun c_29 => ?_)
    · have n_29 := i_nle.mpr c_29
      have hw : p_want b = (b 4) := by simp [p_want, c_10, n_10, c_29, n_29]
      refine lv_iload_n hx hb dX0_drift_39 rfl (lv_at hl 0 rfl) ?_
      refine f_calli1 (va_runS (As := [.int (b 4)]) (rest := []) ⟨hx, hb, hml, hown, hts⟩ (m_X2_isLane l (b 4)) (va_cwS 1 hts gX0_drift_X2_isLane rfl rfl rfl (by decide +kernel) ⟨Nat.le_of_ble_eq_true rfl, Nat.le_of_ble_eq_true rfl⟩) (fPre_of hG hI) rfl rfl hl.1 rfl (lv_room (Nat.le_of_ble_eq_true rfl)) dX0_drift_40 ⟨Nat.le_of_ble_eq_true rfl, Nat.le_of_ble_eq_true rfl⟩) hI (fun r1 E2 H locs hp hI => ?_)
      obtain ⟨he, hq⟩ := hp
      rw [hq] at hI
      refine lv_if_eq (tgt := 54) hx hb dX0_drift_43 (by decide) (fun c_43 => ?_) (fun c_43 => ?_)
      · have p_43 := bl_f he c_43
        refine lv_aload_n hx hb dX0_drift_54 rfl (lv_at hl 1 rfl) ?_
        refine lv_dup hx hb dX0_drift_55 rfl ?_
        refine f_get (ci := 0) (v := .int (b 7)) (C := RX0) (T := TX0) (N := 12) hx hb hts (by decide +kernel) hown hG.1 hI ha hk hC rfl 7 (by decide) (hts (.fieldLink RX0 32 "CoracleRace$Boat" "fouls" "I") (by decide +kernel)) rfl dX0_drift_56 ?_
        refine lv_iconst (v := 3) hx hb dX0_drift_59 (by decide) ?_
        refine lv_iadd hx hb dX0_drift_60 ?_
        refine f_put (ci := 0) (v := .int ((b 7) + 3)) (C := RX0) (T := TX0) (N := 12) hx hb hts (by decide +kernel) tyX0 tyX0_ok nmX0 hown hG.1 hI ha hk hC rfl 7 (by decide) (hts (.fieldLink RX0 32 "CoracleRace$Boat" "fouls" "I") (by decide +kernel)) rfl rfl rfl (Nat.le_of_ble_eq_true rfl) dX0_drift_61 (fun E3 H locs hE4 hn5 hI => ?_)
        have hC : E3 kb = .inr (0, [.ref (ad (kb + 1)), .int (b 1), .int (b 2), .int (b 3), .int (b 4), .int (b 5), .int (b 6), .int ((b 7) + 3), .int (b 8), .int (b 9), .int (b 10), .int (b 11)]) := hE4
        have hfr : ∀ q : Nat, q ≠ kb → E3 q = E q := fun q hq => (hn5 q (by omega)).trans (hfr q hq)
        exact f_retv hQ hx hb hr hlocks hI.2.2 (by omega) (by omega) dX0_drift_64 E3 (fB_of hI) (⟨(hC).trans (by simp [p_drift, hw, va_up, if_neg p_43]), hfr⟩)
      · have p_43 := bl_t he c_43
        refine lv_aload_n hx hb dX0_drift_46 rfl (lv_at hl 1 rfl) ?_
        refine lv_iload_n hx hb dX0_drift_47 rfl (lv_at hl 0 rfl) ?_
        refine f_put (ci := 0) (v := .int (b 4)) (C := RX0) (T := TX0) (N := 12) hx hb hts (by decide +kernel) tyX0 tyX0_ok nmX0 hown hG.1 hI ha hk hC rfl 4 (by decide) (hts (.fieldLink RX0 23 "CoracleRace$Boat" "lane" "I") (by decide +kernel)) rfl rfl rfl (Nat.le_of_ble_eq_true rfl) dX0_drift_48 (fun E6 H locs hE7 hn8 hI => ?_)
        have hC : E6 kb = .inr (0, [.ref (ad (kb + 1)), .int (b 1), .int (b 2), .int (b 3), .int (b 4), .int (b 5), .int (b 6), .int (b 7), .int (b 8), .int (b 9), .int (b 10), .int (b 11)]) := hE7
        have hfr : ∀ q : Nat, q ≠ kb → E6 q = E q := fun q hq => (hn8 q (by omega)).trans (hfr q hq)
        refine lv_goto (tgt := 64) hx hb dX0_drift_51 (by decide) ?_
        exact f_retv hQ hx hb hr hlocks hI.2.2 (by omega) (by omega) dX0_drift_64 E6 (fB_of hI) (⟨(hC).trans (by simp [p_drift, hw, va_up, if_pos p_43]), hfr⟩)
    · have n_29 := c_29
      have c_29 := i_nlt.mp n_29
      refine lv_aload_n hx hb dX0_drift_32 rfl (lv_at hl 1 rfl) ?_
      refine f_get (ci := 0) (v := .int (b 4)) (C := RX0) (T := TX0) (N := 12) hx hb hts (by decide +kernel) hown hG.1 hI ha hk hC rfl 4 (by decide) (hts (.fieldLink RX0 23 "CoracleRace$Boat" "lane" "I") (by decide +kernel)) rfl dX0_drift_33 ?_
      refine lv_iconst (v := 1) hx hb dX0_drift_36 (by decide) ?_
      refine lv_isub hx hb dX0_drift_37 ?_
      refine lv_istore_n (lv' := [(1, .int ((b 4) - 1)), (0, .ref a)]) hx hb dX0_drift_38 rfl hl (by decide) rfl (fun ls hl => ?_)
      have hw : p_want b = ((b 4) - 1) := by simp [p_want, c_10, n_10, c_29, n_29]
      refine lv_iload_n hx hb dX0_drift_39 rfl (lv_at hl 0 rfl) ?_
      refine f_calli1 (va_runS (As := [.int ((b 4) - 1)]) (rest := []) ⟨hx, hb, hml, hown, hts⟩ (m_X2_isLane l ((b 4) - 1)) (va_cwS 1 hts gX0_drift_X2_isLane rfl rfl rfl (by decide +kernel) ⟨Nat.le_of_ble_eq_true rfl, Nat.le_of_ble_eq_true rfl⟩) (fPre_of hG hI) rfl rfl hl.1 rfl (lv_room (Nat.le_of_ble_eq_true rfl)) dX0_drift_40 ⟨Nat.le_of_ble_eq_true rfl, Nat.le_of_ble_eq_true rfl⟩) hI (fun r9 E10 H locs hp hI => ?_)
      obtain ⟨he, hq⟩ := hp
      rw [hq] at hI
      refine lv_if_eq (tgt := 54) hx hb dX0_drift_43 (by decide) (fun c_43 => ?_) (fun c_43 => ?_)
      · have p_43 := bl_f he c_43
        refine lv_aload_n hx hb dX0_drift_54 rfl (lv_at hl 1 rfl) ?_
        refine lv_dup hx hb dX0_drift_55 rfl ?_
        refine f_get (ci := 0) (v := .int (b 7)) (C := RX0) (T := TX0) (N := 12) hx hb hts (by decide +kernel) hown hG.1 hI ha hk hC rfl 7 (by decide) (hts (.fieldLink RX0 32 "CoracleRace$Boat" "fouls" "I") (by decide +kernel)) rfl dX0_drift_56 ?_
        refine lv_iconst (v := 3) hx hb dX0_drift_59 (by decide) ?_
        refine lv_iadd hx hb dX0_drift_60 ?_
        refine f_put (ci := 0) (v := .int ((b 7) + 3)) (C := RX0) (T := TX0) (N := 12) hx hb hts (by decide +kernel) tyX0 tyX0_ok nmX0 hown hG.1 hI ha hk hC rfl 7 (by decide) (hts (.fieldLink RX0 32 "CoracleRace$Boat" "fouls" "I") (by decide +kernel)) rfl rfl rfl (Nat.le_of_ble_eq_true rfl) dX0_drift_61 (fun E11 H locs hE12 hn13 hI => ?_)
        have hC : E11 kb = .inr (0, [.ref (ad (kb + 1)), .int (b 1), .int (b 2), .int (b 3), .int (b 4), .int (b 5), .int (b 6), .int ((b 7) + 3), .int (b 8), .int (b 9), .int (b 10), .int (b 11)]) := hE12
        have hfr : ∀ q : Nat, q ≠ kb → E11 q = E q := fun q hq => (hn13 q (by omega)).trans (hfr q hq)
        exact f_retv hQ hx hb hr hlocks hI.2.2 (by omega) (by omega) dX0_drift_64 E11 (fB_of hI) (⟨(hC).trans (by simp [p_drift, hw, va_up, if_neg p_43]), hfr⟩)
      · have p_43 := bl_t he c_43
        refine lv_aload_n hx hb dX0_drift_46 rfl (lv_at hl 1 rfl) ?_
        refine lv_iload_n hx hb dX0_drift_47 rfl (lv_at hl 0 rfl) ?_
        refine f_put (ci := 0) (v := .int ((b 4) - 1)) (C := RX0) (T := TX0) (N := 12) hx hb hts (by decide +kernel) tyX0 tyX0_ok nmX0 hown hG.1 hI ha hk hC rfl 4 (by decide) (hts (.fieldLink RX0 23 "CoracleRace$Boat" "lane" "I") (by decide +kernel)) rfl rfl rfl (Nat.le_of_ble_eq_true rfl) dX0_drift_48 (fun E14 H locs hE15 hn16 hI => ?_)
        have hC : E14 kb = .inr (0, [.ref (ad (kb + 1)), .int (b 1), .int (b 2), .int (b 3), .int ((b 4) - 1), .int (b 5), .int (b 6), .int (b 7), .int (b 8), .int (b 9), .int (b 10), .int (b 11)]) := hE15
        have hfr : ∀ q : Nat, q ≠ kb → E14 q = E q := fun q hq => (hn16 q (by omega)).trans (hfr q hq)
        refine lv_goto (tgt := 64) hx hb dX0_drift_51 (by decide) ?_
        exact f_retv hQ hx hb hr hlocks hI.2.2 (by omega) (by omega) dX0_drift_64 E14 (fB_of hI) (⟨(hC).trans (by simp [p_drift, hw, va_up, if_pos p_43]), hfr⟩)
  · have n_10 := c_10
    have c_10 := i_nlt.mp n_10
    refine lv_aload_n hx hb dX0_drift_13 rfl (lv_at hl 1 rfl) ?_
    refine f_get (ci := 0) (v := .int (b 4)) (C := RX0) (T := TX0) (N := 12) hx hb hts (by decide +kernel) hown hG.1 hI ha hk hC rfl 4 (by decide) (hts (.fieldLink RX0 23 "CoracleRace$Boat" "lane" "I") (by decide +kernel)) rfl dX0_drift_14 ?_
    refine lv_iconst (v := 1) hx hb dX0_drift_17 (by decide) ?_
    refine lv_iadd hx hb dX0_drift_18 ?_
    refine lv_istore_n (lv' := [(1, .int ((b 4) + 1)), (0, .ref a)]) hx hb dX0_drift_19 rfl hl (by decide) rfl (fun ls hl => ?_)
    refine lv_goto (tgt := 39) hx hb dX0_drift_20 (by decide) ?_
    have hw : p_want b = ((b 4) + 1) := by simp [p_want, c_10, n_10]
    refine lv_iload_n hx hb dX0_drift_39 rfl (lv_at hl 0 rfl) ?_
    refine f_calli1 (va_runS (As := [.int ((b 4) + 1)]) (rest := []) ⟨hx, hb, hml, hown, hts⟩ (m_X2_isLane l ((b 4) + 1)) (va_cwS 1 hts gX0_drift_X2_isLane rfl rfl rfl (by decide +kernel) ⟨Nat.le_of_ble_eq_true rfl, Nat.le_of_ble_eq_true rfl⟩) (fPre_of hG hI) rfl rfl hl.1 rfl (lv_room (Nat.le_of_ble_eq_true rfl)) dX0_drift_40 ⟨Nat.le_of_ble_eq_true rfl, Nat.le_of_ble_eq_true rfl⟩) hI (fun r17 E18 H locs hp hI => ?_)
    obtain ⟨he, hq⟩ := hp
    rw [hq] at hI
    refine lv_if_eq (tgt := 54) hx hb dX0_drift_43 (by decide) (fun c_43 => ?_) (fun c_43 => ?_)
    · have p_43 := bl_f he c_43
      refine lv_aload_n hx hb dX0_drift_54 rfl (lv_at hl 1 rfl) ?_
      refine lv_dup hx hb dX0_drift_55 rfl ?_
      refine f_get (ci := 0) (v := .int (b 7)) (C := RX0) (T := TX0) (N := 12) hx hb hts (by decide +kernel) hown hG.1 hI ha hk hC rfl 7 (by decide) (hts (.fieldLink RX0 32 "CoracleRace$Boat" "fouls" "I") (by decide +kernel)) rfl dX0_drift_56 ?_
      refine lv_iconst (v := 3) hx hb dX0_drift_59 (by decide) ?_
      refine lv_iadd hx hb dX0_drift_60 ?_
      refine f_put (ci := 0) (v := .int ((b 7) + 3)) (C := RX0) (T := TX0) (N := 12) hx hb hts (by decide +kernel) tyX0 tyX0_ok nmX0 hown hG.1 hI ha hk hC rfl 7 (by decide) (hts (.fieldLink RX0 32 "CoracleRace$Boat" "fouls" "I") (by decide +kernel)) rfl rfl rfl (Nat.le_of_ble_eq_true rfl) dX0_drift_61 (fun E19 H locs hE20 hn21 hI => ?_)
      have hC : E19 kb = .inr (0, [.ref (ad (kb + 1)), .int (b 1), .int (b 2), .int (b 3), .int (b 4), .int (b 5), .int (b 6), .int ((b 7) + 3), .int (b 8), .int (b 9), .int (b 10), .int (b 11)]) := hE20
      have hfr : ∀ q : Nat, q ≠ kb → E19 q = E q := fun q hq => (hn21 q (by omega)).trans (hfr q hq)
      exact f_retv hQ hx hb hr hlocks hI.2.2 (by omega) (by omega) dX0_drift_64 E19 (fB_of hI) (⟨(hC).trans (by simp [p_drift, hw, va_up, if_neg p_43]), hfr⟩)
    · have p_43 := bl_t he c_43
      refine lv_aload_n hx hb dX0_drift_46 rfl (lv_at hl 1 rfl) ?_
      refine lv_iload_n hx hb dX0_drift_47 rfl (lv_at hl 0 rfl) ?_
      refine f_put (ci := 0) (v := .int ((b 4) + 1)) (C := RX0) (T := TX0) (N := 12) hx hb hts (by decide +kernel) tyX0 tyX0_ok nmX0 hown hG.1 hI ha hk hC rfl 4 (by decide) (hts (.fieldLink RX0 23 "CoracleRace$Boat" "lane" "I") (by decide +kernel)) rfl rfl rfl (Nat.le_of_ble_eq_true rfl) dX0_drift_48 (fun E22 H locs hE23 hn24 hI => ?_)
      have hC : E22 kb = .inr (0, [.ref (ad (kb + 1)), .int (b 1), .int (b 2), .int (b 3), .int ((b 4) + 1), .int (b 5), .int (b 6), .int (b 7), .int (b 8), .int (b 9), .int (b 10), .int (b 11)]) := hE23
      have hfr : ∀ q : Nat, q ≠ kb → E22 q = E q := fun q hq => (hn24 q (by omega)).trans (hfr q hq)
      refine lv_goto (tgt := 64) hx hb dX0_drift_51 (by decide) ?_
      exact f_retv hQ hx hb hr hlocks hI.2.2 (by omega) (by omega) dX0_drift_64 E22 (fB_of hI) (⟨(hC).trans (by simp [p_drift, hw, va_up, if_pos p_43]), hfr⟩)

set_option maxHeartbeats 4000000 in
set_option maxRecDepth 100000 in
theorem m_J9_floorMod_7cf53 (l : Launch) {D : va_G} {cI cJ cB : ClassId} {t0 z : Nat} {tx ad : Nat → Nat} {L : List Nat} {E : Nat → va_E} (x y : Int32) (hx0 : 0 ≤ x) (hy0 : 0 < y) : Met l yJ9_floorMod_7cf53 wsJ9_floorMod_7cf53 ({ frames := 0, cells := 0, slots := 0, locals := 0 } : Room) (va_Pc [.int x, .int y] (fPre D cI cJ cB t0 z tx ad L E)) (va_Qi (fun (r : Int32) (E1 : Nat → va_E) => r = p_rem x y ∧ E1 = E) (fB D z ad L) (fA z)) 0 0 (fA z) := by
  refine f_ofWF (cc := cJ9_floorMod_7cf53) (maxL := 3) (ret := some .int) (by decide +kernel) rfl (Nat.le_of_ble_eq_true rfl) ?_
  intro pr e s m args below meth c Q hx hb hr hml hts hown hlocks hin hG H locs hI hQ ls hl
  have hl : lv_has ls 3 [(0, .int x), (1, .int y)] := hl
  refine lv_iload_n hx hb dJ9_floorMod_7cf53_0 rfl (lv_at hl 0 rfl) ?_
  refine lv_iload_n hx hb dJ9_floorMod_7cf53_1 rfl (lv_at hl 1 rfl) ?_
  refine lv_irem hx hb dJ9_floorMod_7cf53_2 (fun q => by rw [q] at hy0; exact absurd hy0 (by decide)) ?_
  refine lv_istore_n (lv' := [(2, .int (x - x / y * y)), (0, .int x), (1, .int y)]) hx hb dJ9_floorMod_7cf53_3 rfl hl (by decide) rfl (fun ls hl => ?_)
  refine lv_iload_n hx hb dJ9_floorMod_7cf53_4 rfl (lv_at hl 1 rfl) ?_
  refine lv_iload_n hx hb dJ9_floorMod_7cf53_5 rfl (lv_at hl 2 rfl) ?_
  refine lv_ixor hx hb dJ9_floorMod_7cf53_6 ?_
  refine lv_if_ge (tgt := 18) hx hb dJ9_floorMod_7cf53_7 (by decide) (fun c_7 => ?_) (fun c_7 => ?_)
  · have n_7 := i_nlt.mpr c_7
    refine lv_iload_n hx hb dJ9_floorMod_7cf53_18 rfl (lv_at hl 0 rfl) ?_
    exact f_reti hQ hx hb hr hlocks hI.2.2 (by omega) (by omega) dJ9_floorMod_7cf53_19 E (fB_of hI) (⟨rfl, rfl⟩)
  · exact absurd (xor_pos hx0 hy0) (i_nle.mpr (i_nle.mp c_7))

set_option maxHeartbeats 4000000 in
set_option maxRecDepth 100000 in
theorem m_X0_strokeIn (l : Launch) {D : va_G} {cI cJ cB : ClassId} {t0 z : Nat} {tx ad : Nat → Nat} {L : List Nat} {E : Nat → va_E} {kb a : Nat} (ha : ad kb = a) (hk : kb ∈ L) {b : Nat → Int32} (hC : E kb = bE ad kb b) {f : Nat → Int32} (hk1 : kb + 1 ∈ L) (hF : E (kb + 1) = .inl (cI, 6, .inl f)) (t : Int32) (ht : 0 ≤ t) : Met l yX0_strokeIn wsX0_strokeIn ({ frames := 1, cells := 0, slots := 0, locals := 22 } : Room) (va_Pc [.ref a, .int t] (fPre D cI cJ cB t0 z tx ad L E)) (va_Qi (fun (r : Int32) (E1 : Nat → va_E) => r = p_stk b f t ∧ E1 = E) (fB D z ad L) (fA z)) 0 0 (fA z) := by
  refine f_ofW (cc := cX0_strokeIn) (maxL := 2) (ret := some .int) (by decide) rfl (Nat.le_of_ble_eq_true rfl) ?_
  intro pr e s m args below meth c Q hx hb hr hml hts hown hlocks hin hG H locs hI hQ ls hl
  have hl : lv_has ls 2 [(0, .ref a), (1, .int t)] := hl
  have hC : E kb = .inr (0, [.ref (ad (kb + 1)), .int (b 1), .int (b 2), .int (b 3), .int (b 4), .int (b 5), .int (b 6), .int (b 7), .int (b 8), .int (b 9), .int (b 10), .int (b 11)]) := hC
  have hF : E (kb + 1) = .inl (cI, 6, .inl f) := hF
  refine lv_aload_n hx hb dX0_strokeIn_0 rfl (lv_at hl 0 rfl) ?_
  refine f_get (ci := 0) (v := .int (b 1)) (C := RX0) (T := TX0) (N := 12) hx hb hts (by decide +kernel) hown hG.1 hI ha hk hC rfl 1 (by decide) (hts (.fieldLink RX0 13 "CoracleRace$Boat" "length" "I") (by decide +kernel)) rfl dX0_strokeIn_1 ?_
  refine lv_iconst (v := 1) hx hb dX0_strokeIn_4 (by decide) ?_
  refine lv_icmp_lt (tgt := 17) hx hb dX0_strokeIn_5 (by decide) (fun c_5 => ?_) (fun c_5 => ?_)
  · have n_5 := i_nle.mpr c_5
    refine lv_iconst (v := 0) hx hb dX0_strokeIn_17 (by decide) ?_
    exact f_reti hQ hx hb hr hlocks hI.2.2 (by omega) (by omega) dX0_strokeIn_18 E (fB_of hI) (⟨by simp [p_stk, c_5, n_5], rfl⟩)
  · have n_5 := c_5
    have c_5 := i_nlt.mp n_5
    refine lv_aload_n hx hb dX0_strokeIn_8 rfl (lv_at hl 0 rfl) ?_
    refine f_get (ci := 0) (v := .int (b 1)) (C := RX0) (T := TX0) (N := 12) hx hb hts (by decide +kernel) hown hG.1 hI ha hk hC rfl 1 (by decide) (hts (.fieldLink RX0 13 "CoracleRace$Boat" "length" "I") (by decide +kernel)) rfl dX0_strokeIn_9 ?_
    refine lv_bipush (v := 6) hx hb dX0_strokeIn_12 (by decide) ?_
    refine lv_icmp_le (tgt := 19) hx hb dX0_strokeIn_14 (by decide) (fun c_14 => ?_) (fun c_14 => ?_)
    · have n_14 := i_nlt.mpr c_14
      refine lv_aload_n hx hb dX0_strokeIn_19 rfl (lv_at hl 0 rfl) ?_
      refine f_get (ci := 0) (v := .ref (ad (kb + 1))) (C := RX0) (T := TX0) (N := 12) hx hb hts (by decide +kernel) hown hG.1 hI ha hk hC rfl 0 (by decide) (hts (.fieldLink RX0 9 "CoracleRace$Boat" "strokes" "[I") (by decide +kernel)) rfl dX0_strokeIn_20 ?_
      refine lv_iload_n hx hb dX0_strokeIn_23 rfl (lv_at hl 1 rfl) ?_
      refine lv_aload_n hx hb dX0_strokeIn_24 rfl (lv_at hl 0 rfl) ?_
      refine f_get (ci := 0) (v := .int (b 1)) (C := RX0) (T := TX0) (N := 12) hx hb hts (by decide +kernel) hown hG.1 hI ha hk hC rfl 1 (by decide) (hts (.fieldLink RX0 13 "CoracleRace$Boat" "length" "I") (by decide +kernel)) rfl dX0_strokeIn_25 ?_
      refine f_calli1 (va_runS (As := [.int t, .int (b 1)]) (rest := [.ref (ad (kb + 1))]) ⟨hx, hb, hml, hown, hts⟩ (m_J9_floorMod_7cf53 l t (b 1) ht (pos_of c_5)) (va_cwS 2 hts gX0_strokeIn_J9_floorMod_7cf53 rfl rfl rfl (by decide +kernel) ⟨Nat.le_of_ble_eq_true rfl, Nat.le_of_ble_eq_true rfl⟩) (fPre_of hG hI) rfl rfl hl.1 rfl (lv_room (Nat.le_of_ble_eq_true rfl)) dX0_strokeIn_28 ⟨Nat.le_of_ble_eq_true rfl, Nat.le_of_ble_eq_true rfl⟩) hI (fun r1 E2 H locs hp hI => ?_)
      obtain ⟨he3, hq⟩ := hp
      rw [hq] at hI
      have he3 : r1 = (p_rem t (b 1)) := he3
      subst he3
      refine f_iald hx hb hG.1 hI rfl hk1 hF (rem_ix ht c_5 c_14) dX0_strokeIn_31 ?_
      exact f_reti hQ hx hb hr hlocks hI.2.2 (by omega) (by omega) dX0_strokeIn_32 E (fB_of hI) (⟨by simp [p_stk, c_5, n_5, c_14, n_14], rfl⟩)
    · have n_14 := c_14
      have c_14 := i_nle.mp n_14
      refine lv_iconst (v := 0) hx hb dX0_strokeIn_17 (by decide) ?_
      exact f_reti hQ hx hb hr hlocks hI.2.2 (by omega) (by omega) dX0_strokeIn_18 E (fB_of hI) (⟨by simp [p_stk, c_5, n_5, c_14, n_14], rfl⟩)

set_option maxHeartbeats 4000000 in
set_option maxRecDepth 100000 in
theorem m_X0_advance (l : Launch) {D : va_G} {cI cJ cB : ClassId} {t0 z : Nat} {tx ad : Nat → Nat} {L : List Nat} {E : Nat → va_E} {kb a : Nat} (ha : ad kb = a) (hk : kb ∈ L) {b : Nat → Int32} (hC : E kb = bE ad kb b) (h10 : 10 ≤ kb) {w p g : Nat → Int32} {n : Nat} (hn : n ≤ 6) (hr1 : 1 ∈ L) (hr2 : 2 ∈ L) (hr3 : 3 ∈ L) (hr4 : 4 ∈ L) (hR : E 1 = rE ad n) (hRw : E 2 = .inl (cI, 5, .inl w)) (hRp : E 3 = .inl (cI, 6, .inl p)) (hRg : E 4 = .inl (cI, 6, .inl g)) (f : Int32) : Met l yX0_advance wsX0_advance ({ frames := 2, cells := 0, slots := 0, locals := 35 } : Room) (va_Pc [.ref a, .ref (ad 1), .int f] (fPre D cI cJ cB t0 z tx ad L E)) (va_Qv (fun (E1 : Nat → va_E) => E1 kb = bE ad kb (p_adv w p g n b f) ∧ ∀ q, q ≠ kb → E1 q = E q) (fB D z ad L) (fA z)) 0 0 (fA z) := by
  refine f_ofW (cc := cX0_advance) (maxL := 5) (ret := none) (by decide) rfl (Nat.le_of_ble_eq_true rfl) ?_
  intro pr e s m args below meth c Q hx hb hr hml hts hown hlocks hin hG H locs hI hQ ls hl
  have hl : lv_has ls 5 [(0, .ref a), (1, .ref (ad 1)), (2, .int f)] := hl
  have hfr : ∀ q : Nat, q ≠ kb → E q = E q := fun _ _ => rfl
  have hC : E kb = .inr (0, [.ref (ad (kb + 1)), .int (b 1), .int (b 2), .int (b 3), .int (b 4), .int (b 5), .int (b 6), .int (b 7), .int (b 8), .int (b 9), .int (b 10), .int (b 11)]) := hC
  have hR : E 1 = .inr (2, [.ref (ad 2), .ref (ad 3), .ref (ad 4), .int (nI n)]) := hR
  have hRw : E 2 = .inl (cI, 5, .inl w) := hRw
  have hRp : E 3 = .inl (cI, 6, .inl p) := hRp
  have hRg : E 4 = .inl (cI, 6, .inl g) := hRg
  refine lv_aload_n hx hb dX0_advance_0 rfl (lv_at hl 0 rfl) ?_
  refine f_get (ci := 0) (v := .int (b 4)) (C := RX0) (T := TX0) (N := 12) hx hb hts (by decide +kernel) hown hG.1 hI ha hk hC rfl 4 (by decide) (hts (.fieldLink RX0 23 "CoracleRace$Boat" "lane" "I") (by decide +kernel)) rfl dX0_advance_1 ?_
  refine f_calli1 (va_runS (As := [.int (b 4)]) (rest := []) ⟨hx, hb, hml, hown, hts⟩ (m_X2_isLane l (b 4)) (va_cwS 1 hts gX0_advance_X2_isLane rfl rfl rfl (by decide +kernel) ⟨Nat.le_of_ble_eq_true rfl, Nat.le_of_ble_eq_true rfl⟩) (fPre_of hG hI) rfl rfl hl.1 rfl (lv_room (Nat.le_of_ble_eq_true rfl)) dX0_advance_4 ⟨Nat.le_of_ble_eq_true rfl, Nat.le_of_ble_eq_true rfl⟩) hI (fun r1 E2 H locs hp hI => ?_)
  obtain ⟨he0, hq⟩ := hp
  rw [hq] at hI
  refine lv_if_ne (tgt := 11) hx hb dX0_advance_7 (by decide) (fun c_7 => ?_) (fun c_7 => ?_)
  · have p_7 := bl_t he0 c_7
    refine lv_iload_n hx hb dX0_advance_11 rfl (lv_at hl 2 rfl) ?_
    refine lv_iconst (v := 4) hx hb dX0_advance_12 (by decide) ?_
    refine lv_aload_n hx hb dX0_advance_13 rfl (lv_at hl 0 rfl) ?_
    refine f_get (ci := 0) (v := .int (b 5)) (C := RX0) (T := TX0) (N := 12) hx hb hts (by decide +kernel) hown hG.1 hI ha hk hC rfl 5 (by decide) (hts (.fieldLink RX0 26 "CoracleRace$Boat" "heading" "I") (by decide +kernel)) rfl dX0_advance_14 ?_
    refine va_mabs hx hb (hml.trans hl.1.symm) hown (hts (.methodLink RX0 98 Lib.Math.abs.name) (by decide +kernel)) (hts (.static Lib.Math.abs.name) (by decide +kernel)) (hts (.initialized "java/lang/Math") (by decide +kernel)) (hts (.code Lib.Math.abs.name Lib.Math.abs.code 1 (some .int)) (by decide +kernel)) (Nat.le_of_ble_eq_true rfl) (Nat.le_of_ble_eq_true rfl) (Nat.zero_le _) (Nat.zero_le _) dX0_advance_17 ?_
    refine lv_isub hx hb dX0_advance_20 ?_
    refine lv_imul hx hb dX0_advance_21 ?_
    refine lv_iconst (v := 4) hx hb dX0_advance_22 (by decide) ?_
    refine lv_idiv hx hb dX0_advance_23 (by decide) ?_
    refine lv_aload_n hx hb dX0_advance_24 rfl (lv_at hl 1 rfl) ?_
    refine f_get (ci := 2) (v := .ref (ad 2)) (C := RX2) (T := TX2) (N := 4) hx hb hts (by decide +kernel) hown hG.1 hI rfl hr1 hR rfl 0 (by decide) (hts (.fieldLink RX0 101 "CoracleRace$River" "water" "[I") (by decide +kernel)) rfl dX0_advance_25 ?_
    refine lv_aload_n hx hb dX0_advance_28 rfl (lv_at hl 0 rfl) ?_
    refine f_get (ci := 0) (v := .int (b 4)) (C := RX0) (T := TX0) (N := 12) hx hb hts (by decide +kernel) hown hG.1 hI ha hk hC rfl 4 (by decide) (hts (.fieldLink RX0 23 "CoracleRace$Boat" "lane" "I") (by decide +kernel)) rfl dX0_advance_29 ?_
    refine f_iald hx hb hG.1 hI rfl hr2 hRw (lane_ix p_7) dX0_advance_32 ?_
    refine lv_iadd hx hb dX0_advance_33 ?_
    refine lv_topi (fun tv etv => ?_)
    have etv : tv = p_way w b f := etv.trans (rfl)
    subst etv
    refine lv_istore_n (lv' := [(3, .int (p_way w b f)), (0, .ref a), (1, .ref (ad 1)), (2, .int f)]) hx hb dX0_advance_34 rfl hl (by decide) rfl (fun ls hl => ?_)
    refine lv_aload_n hx hb dX0_advance_35 rfl (lv_at hl 2 rfl) ?_
    refine lv_aload_n hx hb dX0_advance_36 rfl (lv_at hl 1 rfl) ?_
    refine f_get (ci := 0) (v := .int (b 3)) (C := RX0) (T := TX0) (N := 12) hx hb hts (by decide +kernel) hown hG.1 hI ha hk hC rfl 3 (by decide) (hts (.fieldLink RX0 20 "CoracleRace$Boat" "place" "I") (by decide +kernel)) rfl dX0_advance_37 ?_
    refine lv_aload_n hx hb dX0_advance_40 rfl (lv_at hl 1 rfl) ?_
    refine f_get (ci := 0) (v := .int (b 3)) (C := RX0) (T := TX0) (N := 12) hx hb hts (by decide +kernel) hown hG.1 hI ha hk hC rfl 3 (by decide) (hts (.fieldLink RX0 20 "CoracleRace$Boat" "place" "I") (by decide +kernel)) rfl dX0_advance_41 ?_
    refine lv_iload_n hx hb dX0_advance_44 rfl (lv_at hl 0 rfl) ?_
    refine lv_iadd hx hb dX0_advance_45 ?_
    refine lv_aload_n hx hb dX0_advance_46 rfl (lv_at hl 1 rfl) ?_
    refine f_get (ci := 0) (v := .int (b 4)) (C := RX0) (T := TX0) (N := 12) hx hb hts (by decide +kernel) hown hG.1 hI ha hk hC rfl 4 (by decide) (hts (.fieldLink RX0 23 "CoracleRace$Boat" "lane" "I") (by decide +kernel)) rfl dX0_advance_47 ?_
    refine f_calli1 (va_runV (As := [.int (b 3), .int ((b 3) + p_way w b f), .int (b 4)]) (rest := []) ⟨hx, hb, hml, hown, hts⟩ (m_X2_firstStop l hn hr1 hr2 hr3 hr4 hR hRw hRp hRg (b 3) (b 3 + p_way w b f) (b 4)) (cwV 3 hts gX0_advance_X2_firstStop rfl rfl rfl (by decide +kernel) ⟨Nat.le_of_ble_eq_true rfl, Nat.le_of_ble_eq_true rfl⟩) (fPre_ofV hG hI rfl hr1 hR rfl rfl) rfl rfl hl.1 rfl (lv_room (Nat.le_of_ble_eq_true rfl)) dX0_advance_50 ⟨Nat.le_of_ble_eq_true rfl, Nat.le_of_ble_eq_true rfl⟩) hI (fun r3 E4 H locs hp hI => ?_)
    obtain ⟨he, hq⟩ := hp
    rw [hq] at hI
    have he : r3 = (p_stops w p g n b f) := he
    subst he
    refine lv_istore (lv' := [(4, .int (p_stops w p g n b f)), (3, .int (p_way w b f)), (0, .ref a), (1, .ref (ad 1)), (2, .int f)]) hx hb dX0_advance_53 hl (by decide) rfl (fun ls hl => ?_)
    refine lv_iload hx hb dX0_advance_55 (lv_at hl 0 rfl) ?_
    refine lv_iconst (v := -1) hx hb dX0_advance_57 (by decide) ?_
    refine lv_icmp_ne (tgt := 78) hx hb dX0_advance_58 (by decide) (fun c_58 => ?_) (fun c_58 => ?_)
    · refine lv_aload_n hx hb dX0_advance_78 rfl (lv_at hl 2 rfl) ?_
      refine lv_iload hx hb dX0_advance_79 (lv_at hl 0 rfl) ?_
      refine f_put (ci := 0) (v := .int (p_stops w p g n b f)) (C := RX0) (T := TX0) (N := 12) hx hb hts (by decide +kernel) tyX0 tyX0_ok nmX0 hown hG.1 hI ha hk hC rfl 3 (by decide) (hts (.fieldLink RX0 20 "CoracleRace$Boat" "place" "I") (by decide +kernel)) rfl rfl rfl (Nat.le_of_ble_eq_true rfl) dX0_advance_81 (fun E5 H locs hE6 hn7 hI => ?_)
      have hC : E5 kb = .inr (0, [.ref (ad (kb + 1)), .int (b 1), .int (b 2), .int (p_stops w p g n b f), .int (b 4), .int (b 5), .int (b 6), .int (b 7), .int (b 8), .int (b 9), .int (b 10), .int (b 11)]) := hE6
      have hR : E5 1 = .inr (2, [.ref (ad 2), .ref (ad 3), .ref (ad 4), .int (nI n)]) := (hn7 1 (by omega)).trans hR
      have hRw : E5 2 = .inl (cI, 5, .inl w) := (hn7 2 (by omega)).trans hRw
      have hRp : E5 3 = .inl (cI, 6, .inl p) := (hn7 3 (by omega)).trans hRp
      have hRg : E5 4 = .inl (cI, 6, .inl g) := (hn7 4 (by omega)).trans hRg
      have hfr : ∀ q : Nat, q ≠ kb → E5 q = E q := fun q hq => (hn7 q (by omega)).trans (hfr q hq)
      refine lv_aload_n hx hb dX0_advance_84 rfl (lv_at hl 2 rfl) ?_
      refine lv_iconst (v := 0) hx hb dX0_advance_85 (by decide) ?_
      refine f_put (ci := 0) (v := .int 0) (C := RX0) (T := TX0) (N := 12) hx hb hts (by decide +kernel) tyX0 tyX0_ok nmX0 hown hG.1 hI ha hk hC rfl 5 (by decide) (hts (.fieldLink RX0 26 "CoracleRace$Boat" "heading" "I") (by decide +kernel)) rfl rfl rfl (Nat.le_of_ble_eq_true rfl) dX0_advance_86 (fun E8 H locs hE9 hn10 hI => ?_)
      have hC : E8 kb = .inr (0, [.ref (ad (kb + 1)), .int (b 1), .int (b 2), .int (p_stops w p g n b f), .int (b 4), .int 0, .int (b 6), .int (b 7), .int (b 8), .int (b 9), .int (b 10), .int (b 11)]) := hE9
      have hR : E8 1 = .inr (2, [.ref (ad 2), .ref (ad 3), .ref (ad 4), .int (nI n)]) := (hn10 1 (by omega)).trans hR
      have hRw : E8 2 = .inl (cI, 5, .inl w) := (hn10 2 (by omega)).trans hRw
      have hRp : E8 3 = .inl (cI, 6, .inl p) := (hn10 3 (by omega)).trans hRp
      have hRg : E8 4 = .inl (cI, 6, .inl g) := (hn10 4 (by omega)).trans hRg
      have hfr : ∀ q : Nat, q ≠ kb → E8 q = E q := fun q hq => (hn10 q (by omega)).trans (hfr q hq)
      refine lv_aload_n hx hb dX0_advance_89 rfl (lv_at hl 2 rfl) ?_
      refine lv_iconst (v := 5) hx hb dX0_advance_90 (by decide) ?_
      refine f_callv1 (va_runV (As := [.int 5]) (rest := []) ⟨hx, hb, hml, hown, hts⟩ (m_X0_soak l ha hk (b := va_up (va_up b 3 (p_stops w p g n b f)) 5 0) hC 5) (cwV 1 hts gX0_advance_X0_soak rfl rfl rfl (by decide +kernel) ⟨Nat.le_of_ble_eq_true rfl, Nat.le_of_ble_eq_true rfl⟩) (fPre_ofV hG hI ha hk hC rfl rfl) rfl rfl hl.1 rfl (lv_room (Nat.le_of_ble_eq_true rfl)) dX0_advance_91 ⟨Nat.le_of_ble_eq_true rfl, Nat.le_of_ble_eq_true rfl⟩) hI (fun E11 H locs hp hI => ?_)
      obtain ⟨hE13, hn12⟩ := hp
      have hC : E11 kb = .inr (0, [.ref (ad (kb + 1)), .int ((p_soak (va_up (va_up b 3 (p_stops w p g n b f)) 5 0) 5) 1), .int ((p_soak (va_up (va_up b 3 (p_stops w p g n b f)) 5 0) 5) 2), .int ((p_soak (va_up (va_up b 3 (p_stops w p g n b f)) 5 0) 5) 3), .int ((p_soak (va_up (va_up b 3 (p_stops w p g n b f)) 5 0) 5) 4), .int ((p_soak (va_up (va_up b 3 (p_stops w p g n b f)) 5 0) 5) 5), .int ((p_soak (va_up (va_up b 3 (p_stops w p g n b f)) 5 0) 5) 6), .int ((p_soak (va_up (va_up b 3 (p_stops w p g n b f)) 5 0) 5) 7), .int ((p_soak (va_up (va_up b 3 (p_stops w p g n b f)) 5 0) 5) 8), .int ((p_soak (va_up (va_up b 3 (p_stops w p g n b f)) 5 0) 5) 9), .int ((p_soak (va_up (va_up b 3 (p_stops w p g n b f)) 5 0) 5) 10), .int ((p_soak (va_up (va_up b 3 (p_stops w p g n b f)) 5 0) 5) 11)]) := hE13
      have hR : E11 1 = .inr (2, [.ref (ad 2), .ref (ad 3), .ref (ad 4), .int (nI n)]) := (hn12 1 (by omega)).trans hR
      have hRw : E11 2 = .inl (cI, 5, .inl w) := (hn12 2 (by omega)).trans hRw
      have hRp : E11 3 = .inl (cI, 6, .inl p) := (hn12 3 (by omega)).trans hRp
      have hRg : E11 4 = .inl (cI, 6, .inl g) := (hn12 4 (by omega)).trans hRg
      have hfr : ∀ q : Nat, q ≠ kb → E11 q = E q := fun q hq => (hn12 q (by omega)).trans (hfr q hq)
      refine lv_aload_n hx hb dX0_advance_94 rfl (lv_at hl 2 rfl) ?_
      refine lv_dup hx hb dX0_advance_95 rfl ?_
      refine f_get (ci := 0) (v := .int ((p_soak (va_up (va_up b 3 (p_stops w p g n b f)) 5 0) 5) 11)) (C := RX0) (T := TX0) (N := 12) hx hb hts (by decide +kernel) hown hG.1 hI ha hk hC rfl 11 (by decide) (hts (.fieldLink RX0 45 "CoracleRace$Boat" "stops" "I") (by decide +kernel)) rfl dX0_advance_96 ?_
      refine lv_iconst (v := 1) hx hb dX0_advance_99 (by decide) ?_
      refine lv_iadd hx hb dX0_advance_100 ?_
      refine f_put (ci := 0) (v := .int (((p_soak (va_up (va_up b 3 (p_stops w p g n b f)) 5 0) 5) 11) + 1)) (C := RX0) (T := TX0) (N := 12) hx hb hts (by decide +kernel) tyX0 tyX0_ok nmX0 hown hG.1 hI ha hk hC rfl 11 (by decide) (hts (.fieldLink RX0 45 "CoracleRace$Boat" "stops" "I") (by decide +kernel)) rfl rfl rfl (Nat.le_of_ble_eq_true rfl) dX0_advance_101 (fun E14 H locs hE15 hn16 hI => ?_)
      have hC : E14 kb = .inr (0, [.ref (ad (kb + 1)), .int ((p_soak (va_up (va_up b 3 (p_stops w p g n b f)) 5 0) 5) 1), .int ((p_soak (va_up (va_up b 3 (p_stops w p g n b f)) 5 0) 5) 2), .int ((p_soak (va_up (va_up b 3 (p_stops w p g n b f)) 5 0) 5) 3), .int ((p_soak (va_up (va_up b 3 (p_stops w p g n b f)) 5 0) 5) 4), .int ((p_soak (va_up (va_up b 3 (p_stops w p g n b f)) 5 0) 5) 5), .int ((p_soak (va_up (va_up b 3 (p_stops w p g n b f)) 5 0) 5) 6), .int ((p_soak (va_up (va_up b 3 (p_stops w p g n b f)) 5 0) 5) 7), .int ((p_soak (va_up (va_up b 3 (p_stops w p g n b f)) 5 0) 5) 8), .int ((p_soak (va_up (va_up b 3 (p_stops w p g n b f)) 5 0) 5) 9), .int ((p_soak (va_up (va_up b 3 (p_stops w p g n b f)) 5 0) 5) 10), .int (((p_soak (va_up (va_up b 3 (p_stops w p g n b f)) 5 0) 5) 11) + 1)]) := hE15
      have hR : E14 1 = .inr (2, [.ref (ad 2), .ref (ad 3), .ref (ad 4), .int (nI n)]) := (hn16 1 (by omega)).trans hR
      have hRw : E14 2 = .inl (cI, 5, .inl w) := (hn16 2 (by omega)).trans hRw
      have hRp : E14 3 = .inl (cI, 6, .inl p) := (hn16 3 (by omega)).trans hRp
      have hRg : E14 4 = .inl (cI, 6, .inl g) := (hn16 4 (by omega)).trans hRg
      have hfr : ∀ q : Nat, q ≠ kb → E14 q = E q := fun q hq => (hn16 q (by omega)).trans (hfr q hq)
      exact f_retv hQ hx hb hr hlocks hI.2.2 (by omega) (by omega) dX0_advance_104 E14 (fB_of hI) (⟨(hC).trans (by simp [p_adv, p_halt, p_soak, p_min, va_up, c_7, if_pos p_7, p_7, c_58]), hfr⟩)
    · refine lv_aload_n hx hb dX0_advance_61 rfl (lv_at hl 2 rfl) ?_
      refine lv_aload_n hx hb dX0_advance_62 rfl (lv_at hl 2 rfl) ?_
      refine f_get (ci := 0) (v := .int (b 3)) (C := RX0) (T := TX0) (N := 12) hx hb hts (by decide +kernel) hown hG.1 hI ha hk hC rfl 3 (by decide) (hts (.fieldLink RX0 20 "CoracleRace$Boat" "place" "I") (by decide +kernel)) rfl dX0_advance_63 ?_
      refine lv_iload_n hx hb dX0_advance_66 rfl (lv_at hl 1 rfl) ?_
      refine lv_iadd hx hb dX0_advance_67 ?_
      refine lv_sipush (v := 200) hx hb dX0_advance_68 (by decide) ?_
      refine va_mmin hx hb (hml.trans hl.1.symm) hown (hts (.methodLink RX0 108 Lib.Math.min.name) (by decide +kernel)) (hts (.static Lib.Math.min.name) (by decide +kernel)) (hts (.initialized "java/lang/Math") (by decide +kernel)) (hts (.code Lib.Math.min.name Lib.Math.min.code 2 (some .int)) (by decide +kernel)) (Nat.le_of_ble_eq_true rfl) (Nat.le_of_ble_eq_true rfl) (Nat.zero_le _) (Nat.zero_le _) dX0_advance_71 ?_
      refine lv_topi (fun tv etv => ?_)
      have etv : tv = p_min (b 3 + p_way w b f) 200 := etv.trans (rfl)
      subst etv
      refine f_put (ci := 0) (v := .int (p_min (b 3 + p_way w b f) 200)) (C := RX0) (T := TX0) (N := 12) hx hb hts (by decide +kernel) tyX0 tyX0_ok nmX0 hown hG.1 hI ha hk hC rfl 3 (by decide) (hts (.fieldLink RX0 20 "CoracleRace$Boat" "place" "I") (by decide +kernel)) rfl rfl rfl (Nat.le_of_ble_eq_true rfl) dX0_advance_74 (fun E17 H locs hE18 hn19 hI => ?_)
      have hC : E17 kb = .inr (0, [.ref (ad (kb + 1)), .int (b 1), .int (b 2), .int (p_min (b 3 + p_way w b f) 200), .int (b 4), .int (b 5), .int (b 6), .int (b 7), .int (b 8), .int (b 9), .int (b 10), .int (b 11)]) := hE18
      have hR : E17 1 = .inr (2, [.ref (ad 2), .ref (ad 3), .ref (ad 4), .int (nI n)]) := (hn19 1 (by omega)).trans hR
      have hRw : E17 2 = .inl (cI, 5, .inl w) := (hn19 2 (by omega)).trans hRw
      have hRp : E17 3 = .inl (cI, 6, .inl p) := (hn19 3 (by omega)).trans hRp
      have hRg : E17 4 = .inl (cI, 6, .inl g) := (hn19 4 (by omega)).trans hRg
      have hfr : ∀ q : Nat, q ≠ kb → E17 q = E q := fun q hq => (hn19 q (by omega)).trans (hfr q hq)
      exact f_retv hQ hx hb hr hlocks hI.2.2 (by omega) (by omega) dX0_advance_77 E17 (fB_of hI) (⟨(hC).trans (by simp [p_adv, p_halt, p_soak, p_min, va_up, c_7, if_pos p_7, p_7, c_58]), hfr⟩)
  · have p_7 := bl_f he0 c_7
    exact f_retv hQ hx hb hr hlocks hI.2.2 (by omega) (by omega) dX0_advance_10 E (fB_of hI) (⟨(hC).trans (by simp [p_adv, va_up, c_7, if_neg p_7]), hfr⟩)

set_option maxHeartbeats 4000000 in
set_option maxRecDepth 100000 in
theorem m_X0_isIn (l : Launch) {D : va_G} {cI cJ cB : ClassId} {t0 z : Nat} {tx ad : Nat → Nat} {L : List Nat} {E : Nat → va_E} {kb a : Nat} (ha : ad kb = a) (hk : kb ∈ L) {b : Nat → Int32} (hC : E kb = bE ad kb b) (h8 : b 8 = 0 ∨ b 8 = 1) : Met l yX0_isIn wsX0_isIn ({ frames := 0, cells := 0, slots := 0, locals := 0 } : Room) (va_Pc [.ref a] (fPre D cI cJ cB t0 z tx ad L E)) (va_Qi (fun (r : Int32) (E1 : Nat → va_E) => r = b 8 ∧ E1 = E) (fB D z ad L) (fA z)) 0 0 (fA z) := by
  refine f_ofW (cc := cX0_isIn) (maxL := 1) (ret := some .boolean) (by decide) rfl (Nat.le_of_ble_eq_true rfl) ?_
  intro pr e s m args below meth c Q hx hb hr hml hts hown hlocks hin hG H locs hI hQ ls hl
  have hl : lv_has ls 1 [(0, .ref a)] := hl
  have hC : E kb = .inr (0, [.ref (ad (kb + 1)), .int (b 1), .int (b 2), .int (b 3), .int (b 4), .int (b 5), .int (b 6), .int (b 7), .int (b 8), .int (b 9), .int (b 10), .int (b 11)]) := hC
  refine lv_aload_n hx hb dX0_isIn_0 rfl (lv_at hl 0 rfl) ?_
  refine f_get (ci := 0) (v := .int (b 8)) (C := RX0) (T := TX0) (N := 12) hx hb hts (by decide +kernel) hown hG.1 hI ha hk hC rfl 8 (by decide) (hts (.fieldLink RX0 35 "CoracleRace$Boat" "in" "Z") (by decide +kernel)) rfl dX0_isIn_1 ?_
  exact f_retz hQ hx hb hr hlocks hI.2.2 (by omega) (by omega) dX0_isIn_4 (bn_of h8) E (fB_of hI) (⟨rfl, rfl⟩)

set_option maxHeartbeats 4000000 in
set_option maxRecDepth 100000 in
theorem m_X0_time (l : Launch) {D : va_G} {cI cJ cB : ClassId} {t0 z : Nat} {tx ad : Nat → Nat} {L : List Nat} {E : Nat → va_E} {kb a : Nat} (ha : ad kb = a) (hk : kb ∈ L) {b : Nat → Int32} (hC : E kb = bE ad kb b) : Met l yX0_time wsX0_time ({ frames := 0, cells := 0, slots := 0, locals := 0 } : Room) (va_Pc [.ref a] (fPre D cI cJ cB t0 z tx ad L E)) (va_Qi (fun (r : Int32) (E1 : Nat → va_E) => r = p_time b ∧ E1 = E) (fB D z ad L) (fA z)) 0 0 (fA z) := by
  refine f_ofW (cc := cX0_time) (maxL := 1) (ret := some .int) (by decide) rfl (Nat.le_of_ble_eq_true rfl) ?_
  intro pr e s m args below meth c Q hx hb hr hml hts hown hlocks hin hG H locs hI hQ ls hl
  have hl : lv_has ls 1 [(0, .ref a)] := hl
  have hC : E kb = .inr (0, [.ref (ad (kb + 1)), .int (b 1), .int (b 2), .int (b 3), .int (b 4), .int (b 5), .int (b 6), .int (b 7), .int (b 8), .int (b 9), .int (b 10), .int (b 11)]) := hC
  refine lv_aload_n hx hb dX0_time_0 rfl (lv_at hl 0 rfl) ?_
  refine f_get (ci := 0) (v := .int (b 8)) (C := RX0) (T := TX0) (N := 12) hx hb hts (by decide +kernel) hown hG.1 hI ha hk hC rfl 8 (by decide) (hts (.fieldLink RX0 35 "CoracleRace$Boat" "in" "Z") (by decide +kernel)) rfl dX0_time_1 ?_
  refine lv_if_eq (tgt := 21) hx hb dX0_time_4 (by decide) (fun c_4 => ?_) (fun c_4 => ?_)
  · refine lv_iconst (v := -1) hx hb dX0_time_21 (by decide) ?_
    exact f_reti hQ hx hb hr hlocks hI.2.2 (by omega) (by omega) dX0_time_22 E (fB_of hI) (⟨by simp [p_time, c_4], rfl⟩)
  · refine lv_aload_n hx hb dX0_time_7 rfl (lv_at hl 0 rfl) ?_
    refine f_get (ci := 0) (v := .int (b 9)) (C := RX0) (T := TX0) (N := 12) hx hb hts (by decide +kernel) hown hG.1 hI ha hk hC rfl 9 (by decide) (hts (.fieldLink RX0 39 "CoracleRace$Boat" "tickIn" "I") (by decide +kernel)) rfl dX0_time_8 ?_
    refine lv_iconst (v := 1) hx hb dX0_time_11 (by decide) ?_
    refine lv_iadd hx hb dX0_time_12 ?_
    refine lv_aload_n hx hb dX0_time_13 rfl (lv_at hl 0 rfl) ?_
    refine f_get (ci := 0) (v := .int (b 7)) (C := RX0) (T := TX0) (N := 12) hx hb hts (by decide +kernel) hown hG.1 hI ha hk hC rfl 7 (by decide) (hts (.fieldLink RX0 32 "CoracleRace$Boat" "fouls" "I") (by decide +kernel)) rfl dX0_time_14 ?_
    refine lv_iadd hx hb dX0_time_17 ?_
    refine lv_goto (tgt := 22) hx hb dX0_time_18 (by decide) ?_
    exact f_reti hQ hx hb hr hlocks hI.2.2 (by omega) (by omega) dX0_time_22 E (fB_of hI) (⟨by simp [p_time, c_4], rfl⟩)

set_option maxHeartbeats 4000000 in
set_option maxRecDepth 100000 in
theorem m_X0_letTickGoBy (l : Launch) {D : va_G} {cI cJ cB : ClassId} {t0 z : Nat} {tx ad : Nat → Nat} {L : List Nat} {E : Nat → va_E} {kb a : Nat} (ha : ad kb = a) (hk : kb ∈ L) {b : Nat → Int32} (hC : E kb = bE ad kb b) {f : Nat → Int32} (hk1 : kb + 1 ∈ L) (hF : E (kb + 1) = .inl (cI, 6, .inl f)) (h10 : 10 ≤ kb) {w p g : Nat → Int32} {n : Nat} (hn : n ≤ 6) (hr1 : 1 ∈ L) (hr2 : 2 ∈ L) (hr3 : 3 ∈ L) (hr4 : 4 ∈ L) (hR : E 1 = rE ad n) (hRw : E 2 = .inl (cI, 5, .inl w)) (hRp : E 3 = .inl (cI, 6, .inl p)) (hRg : E 4 = .inl (cI, 6, .inl g)) (t : Int32) (ht : 0 ≤ t) : Met l yX0_letTickGoBy wsX0_letTickGoBy ({ frames := 3, cells := 0, slots := 0, locals := 59 } : Room) (va_Pc [.ref a, .ref (ad 1), .int t] (fPre D cI cJ cB t0 z tx ad L E)) (va_Qv (fun (E1 : Nat → va_E) => E1 kb = bE ad kb (p_tick w p g n t f b) ∧ ∀ q, q ≠ kb → E1 q = E q) (fB D z ad L) (fA z)) 0 0 (fA z) := by
  refine f_ofW (cc := cX0_letTickGoBy) (maxL := 4) (ret := none) (by decide) rfl (Nat.le_of_ble_eq_true rfl) ?_
  intro pr e s m args below meth c Q hx hb hr hml hts hown hlocks hin hG H locs hI hQ ls hl
  have hl : lv_has ls 4 [(0, .ref a), (1, .ref (ad 1)), (2, .int t)] := hl
  have hfr : ∀ q : Nat, q ≠ kb → E q = E q := fun _ _ => rfl
  have hC : E kb = .inr (0, [.ref (ad (kb + 1)), .int (b 1), .int (b 2), .int (b 3), .int (b 4), .int (b 5), .int (b 6), .int (b 7), .int (b 8), .int (b 9), .int (b 10), .int (b 11)]) := hC
  have hF : E (kb + 1) = .inl (cI, 6, .inl f) := hF
  have hR : E 1 = .inr (2, [.ref (ad 2), .ref (ad 3), .ref (ad 4), .int (nI n)]) := hR
  have hRw : E 2 = .inl (cI, 5, .inl w) := hRw
  have hRp : E 3 = .inl (cI, 6, .inl p) := hRp
  have hRg : E 4 = .inl (cI, 6, .inl g) := hRg
  refine lv_aload_n hx hb dX0_letTickGoBy_0 rfl (lv_at hl 0 rfl) ?_
  refine f_get (ci := 0) (v := .int (b 8)) (C := RX0) (T := TX0) (N := 12) hx hb hts (by decide +kernel) hown hG.1 hI ha hk hC rfl 8 (by decide) (hts (.fieldLink RX0 35 "CoracleRace$Boat" "in" "Z") (by decide +kernel)) rfl dX0_letTickGoBy_1 ?_
  refine lv_if_eq (tgt := 8) hx hb dX0_letTickGoBy_4 (by decide) (fun c_4 => ?_) (fun c_4 => ?_)
  · refine lv_aload_n hx hb dX0_letTickGoBy_8 rfl (lv_at hl 0 rfl) ?_
    refine lv_aload_n hx hb dX0_letTickGoBy_9 rfl (lv_at hl 0 rfl) ?_
    refine lv_iload_n hx hb dX0_letTickGoBy_10 rfl (lv_at hl 2 rfl) ?_
    refine f_calli1 (va_runV (As := [.int t]) (rest := [.ref a]) ⟨hx, hb, hml, hown, hts⟩ (m_X0_strokeIn l ha hk (b := b) hC hk1 hF t ht) (cwV 1 hts gX0_letTickGoBy_X0_strokeIn rfl rfl rfl (by decide +kernel) ⟨Nat.le_of_ble_eq_true rfl, Nat.le_of_ble_eq_true rfl⟩) (fPre_ofV hG hI ha hk hC rfl rfl) rfl rfl hl.1 rfl (lv_room (Nat.le_of_ble_eq_true rfl)) dX0_letTickGoBy_11 ⟨Nat.le_of_ble_eq_true rfl, Nat.le_of_ble_eq_true rfl⟩) hI (fun r1 E2 H locs hp hI => ?_)
    obtain ⟨he, hq⟩ := hp
    rw [hq] at hI
    have he : r1 = (p_stk b f t) := he
    subst he
    refine f_calli1 (va_runV (As := [.int (p_stk b f t)]) (rest := []) ⟨hx, hb, hml, hown, hts⟩ (m_X0_forceOf l ha hk (b := b) hC (p_stk b f t)) (cwV 1 hts gX0_letTickGoBy_X0_forceOf rfl rfl rfl (by decide +kernel) ⟨Nat.le_of_ble_eq_true rfl, Nat.le_of_ble_eq_true rfl⟩) (fPre_ofV hG hI ha hk hC rfl rfl) rfl rfl hl.1 rfl (lv_room (Nat.le_of_ble_eq_true rfl)) dX0_letTickGoBy_14 ⟨Nat.le_of_ble_eq_true rfl, Nat.le_of_ble_eq_true rfl⟩) hI (fun r3 E4 H locs hp hI => ?_)
    obtain ⟨he7, hE6, hn5⟩ := hp
    subst he7
    have hC : E4 kb = .inr (0, [.ref (ad (kb + 1)), .int ((p_turn b (p_stk b f t)) 1), .int ((p_turn b (p_stk b f t)) 2), .int ((p_turn b (p_stk b f t)) 3), .int ((p_turn b (p_stk b f t)) 4), .int ((p_turn b (p_stk b f t)) 5), .int ((p_turn b (p_stk b f t)) 6), .int ((p_turn b (p_stk b f t)) 7), .int ((p_turn b (p_stk b f t)) 8), .int ((p_turn b (p_stk b f t)) 9), .int ((p_turn b (p_stk b f t)) 10), .int ((p_turn b (p_stk b f t)) 11)]) := hE6
    have hF : E4 (kb + 1) = .inl (cI, 6, .inl f) := (hn5 (kb + 1) (by omega)).trans hF
    have hR : E4 1 = .inr (2, [.ref (ad 2), .ref (ad 3), .ref (ad 4), .int (nI n)]) := (hn5 1 (by omega)).trans hR
    have hRw : E4 2 = .inl (cI, 5, .inl w) := (hn5 2 (by omega)).trans hRw
    have hRp : E4 3 = .inl (cI, 6, .inl p) := (hn5 3 (by omega)).trans hRp
    have hRg : E4 4 = .inl (cI, 6, .inl g) := (hn5 4 (by omega)).trans hRg
    have hfr : ∀ q : Nat, q ≠ kb → E4 q = E q := fun q hq => (hn5 q (by omega)).trans (hfr q hq)
    refine lv_istore_n (lv' := [(3, .int (p_force b (p_stk b f t))), (0, .ref a), (1, .ref (ad 1)), (2, .int t)]) hx hb dX0_letTickGoBy_17 rfl hl (by decide) rfl (fun ls hl => ?_)
    refine lv_aload_n hx hb dX0_letTickGoBy_18 rfl (lv_at hl 1 rfl) ?_
    refine f_callv1 (va_runV (As := []) (rest := []) ⟨hx, hb, hml, hown, hts⟩ (m_X0_drift l ha hk (b := p_turn b (p_stk b f t)) hC) (cwV 0 hts gX0_letTickGoBy_X0_drift rfl rfl rfl (by decide +kernel) ⟨Nat.le_of_ble_eq_true rfl, Nat.le_of_ble_eq_true rfl⟩) (fPre_ofV hG hI ha hk hC rfl rfl) rfl rfl hl.1 rfl (lv_room (Nat.le_of_ble_eq_true rfl)) dX0_letTickGoBy_19 ⟨Nat.le_of_ble_eq_true rfl, Nat.le_of_ble_eq_true rfl⟩) hI (fun E8 H locs hp hI => ?_)
    obtain ⟨hE10, hn9⟩ := hp
    have hC : E8 kb = .inr (0, [.ref (ad (kb + 1)), .int ((p_drift (p_turn b (p_stk b f t))) 1), .int ((p_drift (p_turn b (p_stk b f t))) 2), .int ((p_drift (p_turn b (p_stk b f t))) 3), .int ((p_drift (p_turn b (p_stk b f t))) 4), .int ((p_drift (p_turn b (p_stk b f t))) 5), .int ((p_drift (p_turn b (p_stk b f t))) 6), .int ((p_drift (p_turn b (p_stk b f t))) 7), .int ((p_drift (p_turn b (p_stk b f t))) 8), .int ((p_drift (p_turn b (p_stk b f t))) 9), .int ((p_drift (p_turn b (p_stk b f t))) 10), .int ((p_drift (p_turn b (p_stk b f t))) 11)]) := hE10
    have hF : E8 (kb + 1) = .inl (cI, 6, .inl f) := (hn9 (kb + 1) (by omega)).trans hF
    have hR : E8 1 = .inr (2, [.ref (ad 2), .ref (ad 3), .ref (ad 4), .int (nI n)]) := (hn9 1 (by omega)).trans hR
    have hRw : E8 2 = .inl (cI, 5, .inl w) := (hn9 2 (by omega)).trans hRw
    have hRp : E8 3 = .inl (cI, 6, .inl p) := (hn9 3 (by omega)).trans hRp
    have hRg : E8 4 = .inl (cI, 6, .inl g) := (hn9 4 (by omega)).trans hRg
    have hfr : ∀ q : Nat, q ≠ kb → E8 q = E q := fun q hq => (hn9 q (by omega)).trans (hfr q hq)
    refine lv_aload_n hx hb dX0_letTickGoBy_22 rfl (lv_at hl 1 rfl) ?_
    refine lv_aload_n hx hb dX0_letTickGoBy_23 rfl (lv_at hl 2 rfl) ?_
    refine lv_iload_n hx hb dX0_letTickGoBy_24 rfl (lv_at hl 0 rfl) ?_
    refine f_callv1 (va_runV (As := [.ref (ad 1), .int (p_force b (p_stk b f t))]) (rest := []) ⟨hx, hb, hml, hown, hts⟩ (m_X0_advance l ha hk (b := p_drift (p_turn b (p_stk b f t))) hC h10 hn hr1 hr2 hr3 hr4 hR hRw hRp hRg (p_force b (p_stk b f t))) (cwV 2 hts gX0_letTickGoBy_X0_advance rfl rfl rfl (by decide +kernel) ⟨Nat.le_of_ble_eq_true rfl, Nat.le_of_ble_eq_true rfl⟩) (fPre_ofV hG hI ha hk hC rfl rfl) rfl rfl hl.1 rfl (lv_room (Nat.le_of_ble_eq_true rfl)) dX0_letTickGoBy_25 ⟨Nat.le_of_ble_eq_true rfl, Nat.le_of_ble_eq_true rfl⟩) hI (fun E12 H locs hp hI => ?_)
    obtain ⟨hE14, hn13⟩ := hp
    have hC : E12 kb = .inr (0, [.ref (ad (kb + 1)), .int ((p_adv w p g n (p_drift (p_turn b (p_stk b f t))) (p_force b (p_stk b f t))) 1), .int ((p_adv w p g n (p_drift (p_turn b (p_stk b f t))) (p_force b (p_stk b f t))) 2), .int ((p_adv w p g n (p_drift (p_turn b (p_stk b f t))) (p_force b (p_stk b f t))) 3), .int ((p_adv w p g n (p_drift (p_turn b (p_stk b f t))) (p_force b (p_stk b f t))) 4), .int ((p_adv w p g n (p_drift (p_turn b (p_stk b f t))) (p_force b (p_stk b f t))) 5), .int ((p_adv w p g n (p_drift (p_turn b (p_stk b f t))) (p_force b (p_stk b f t))) 6), .int ((p_adv w p g n (p_drift (p_turn b (p_stk b f t))) (p_force b (p_stk b f t))) 7), .int ((p_adv w p g n (p_drift (p_turn b (p_stk b f t))) (p_force b (p_stk b f t))) 8), .int ((p_adv w p g n (p_drift (p_turn b (p_stk b f t))) (p_force b (p_stk b f t))) 9), .int ((p_adv w p g n (p_drift (p_turn b (p_stk b f t))) (p_force b (p_stk b f t))) 10), .int ((p_adv w p g n (p_drift (p_turn b (p_stk b f t))) (p_force b (p_stk b f t))) 11)]) := hE14
    have hF : E12 (kb + 1) = .inl (cI, 6, .inl f) := (hn13 (kb + 1) (by omega)).trans hF
    have hR : E12 1 = .inr (2, [.ref (ad 2), .ref (ad 3), .ref (ad 4), .int (nI n)]) := (hn13 1 (by omega)).trans hR
    have hRw : E12 2 = .inl (cI, 5, .inl w) := (hn13 2 (by omega)).trans hRw
    have hRp : E12 3 = .inl (cI, 6, .inl p) := (hn13 3 (by omega)).trans hRp
    have hRg : E12 4 = .inl (cI, 6, .inl g) := (hn13 4 (by omega)).trans hRg
    have hfr : ∀ q : Nat, q ≠ kb → E12 q = E q := fun q hq => (hn13 q (by omega)).trans (hfr q hq)
    refine lv_iload_n hx hb dX0_letTickGoBy_28 rfl (lv_at hl 3 rfl) ?_
    refine lv_iconst (v := 4) hx hb dX0_letTickGoBy_29 (by decide) ?_
    refine lv_irem hx hb dX0_letTickGoBy_30 (by decide) ?_
    refine lv_topi (fun tv etv => ?_)
    have etv : tv = p_rem t 4 := etv.trans (rfl)
    subst etv
    refine lv_if_ne (tgt := 39) hx hb dX0_letTickGoBy_31 (by decide) (fun c_31 => ?_) (fun c_31 => ?_)
    · refine lv_aload_n hx hb dX0_letTickGoBy_39 rfl (lv_at hl 1 rfl) ?_
      refine f_get (ci := 0) (v := .int ((p_adv w p g n (p_drift (p_turn b (p_stk b f t))) (p_force b (p_stk b f t))) 3)) (C := RX0) (T := TX0) (N := 12) hx hb hts (by decide +kernel) hown hG.1 hI ha hk hC rfl 3 (by decide) (hts (.fieldLink RX0 20 "CoracleRace$Boat" "place" "I") (by decide +kernel)) rfl dX0_letTickGoBy_40 ?_
      refine lv_sipush (v := 200) hx hb dX0_letTickGoBy_43 (by decide) ?_
      refine lv_icmp_ne (tgt := 59) hx hb dX0_letTickGoBy_46 (by decide) (fun c_46 => ?_) (fun c_46 => ?_)
      · exact f_retv hQ hx hb hr hlocks hI.2.2 (by omega) (by omega) dX0_letTickGoBy_59 E12 (fB_of hI) (⟨(hC).trans (by simp [p_tick, p_tickK, p_wet, p_home, va_up, c_4, c_31, c_46]), hfr⟩)
      · refine lv_aload_n hx hb dX0_letTickGoBy_49 rfl (lv_at hl 1 rfl) ?_
        refine lv_iconst (v := 1) hx hb dX0_letTickGoBy_50 (by decide) ?_
        refine f_put (ci := 0) (v := .int 1) (C := RX0) (T := TX0) (N := 12) hx hb hts (by decide +kernel) tyX0 tyX0_ok nmX0 hown hG.1 hI ha hk hC rfl 8 (by decide) (hts (.fieldLink RX0 35 "CoracleRace$Boat" "in" "Z") (by decide +kernel)) rfl rfl rfl (Nat.le_of_ble_eq_true rfl) dX0_letTickGoBy_51 (fun E16 H locs hE17 hn18 hI => ?_)
        have hC : E16 kb = .inr (0, [.ref (ad (kb + 1)), .int ((p_adv w p g n (p_drift (p_turn b (p_stk b f t))) (p_force b (p_stk b f t))) 1), .int ((p_adv w p g n (p_drift (p_turn b (p_stk b f t))) (p_force b (p_stk b f t))) 2), .int ((p_adv w p g n (p_drift (p_turn b (p_stk b f t))) (p_force b (p_stk b f t))) 3), .int ((p_adv w p g n (p_drift (p_turn b (p_stk b f t))) (p_force b (p_stk b f t))) 4), .int ((p_adv w p g n (p_drift (p_turn b (p_stk b f t))) (p_force b (p_stk b f t))) 5), .int ((p_adv w p g n (p_drift (p_turn b (p_stk b f t))) (p_force b (p_stk b f t))) 6), .int ((p_adv w p g n (p_drift (p_turn b (p_stk b f t))) (p_force b (p_stk b f t))) 7), .int 1, .int ((p_adv w p g n (p_drift (p_turn b (p_stk b f t))) (p_force b (p_stk b f t))) 9), .int ((p_adv w p g n (p_drift (p_turn b (p_stk b f t))) (p_force b (p_stk b f t))) 10), .int ((p_adv w p g n (p_drift (p_turn b (p_stk b f t))) (p_force b (p_stk b f t))) 11)]) := hE17
        have hF : E16 (kb + 1) = .inl (cI, 6, .inl f) := (hn18 (kb + 1) (by omega)).trans hF
        have hR : E16 1 = .inr (2, [.ref (ad 2), .ref (ad 3), .ref (ad 4), .int (nI n)]) := (hn18 1 (by omega)).trans hR
        have hRw : E16 2 = .inl (cI, 5, .inl w) := (hn18 2 (by omega)).trans hRw
        have hRp : E16 3 = .inl (cI, 6, .inl p) := (hn18 3 (by omega)).trans hRp
        have hRg : E16 4 = .inl (cI, 6, .inl g) := (hn18 4 (by omega)).trans hRg
        have hfr : ∀ q : Nat, q ≠ kb → E16 q = E q := fun q hq => (hn18 q (by omega)).trans (hfr q hq)
        refine lv_aload_n hx hb dX0_letTickGoBy_54 rfl (lv_at hl 1 rfl) ?_
        refine lv_iload_n hx hb dX0_letTickGoBy_55 rfl (lv_at hl 3 rfl) ?_
        refine f_put (ci := 0) (v := .int t) (C := RX0) (T := TX0) (N := 12) hx hb hts (by decide +kernel) tyX0 tyX0_ok nmX0 hown hG.1 hI ha hk hC rfl 9 (by decide) (hts (.fieldLink RX0 39 "CoracleRace$Boat" "tickIn" "I") (by decide +kernel)) rfl rfl rfl (Nat.le_of_ble_eq_true rfl) dX0_letTickGoBy_56 (fun E19 H locs hE20 hn21 hI => ?_)
        have hC : E19 kb = .inr (0, [.ref (ad (kb + 1)), .int ((p_adv w p g n (p_drift (p_turn b (p_stk b f t))) (p_force b (p_stk b f t))) 1), .int ((p_adv w p g n (p_drift (p_turn b (p_stk b f t))) (p_force b (p_stk b f t))) 2), .int ((p_adv w p g n (p_drift (p_turn b (p_stk b f t))) (p_force b (p_stk b f t))) 3), .int ((p_adv w p g n (p_drift (p_turn b (p_stk b f t))) (p_force b (p_stk b f t))) 4), .int ((p_adv w p g n (p_drift (p_turn b (p_stk b f t))) (p_force b (p_stk b f t))) 5), .int ((p_adv w p g n (p_drift (p_turn b (p_stk b f t))) (p_force b (p_stk b f t))) 6), .int ((p_adv w p g n (p_drift (p_turn b (p_stk b f t))) (p_force b (p_stk b f t))) 7), .int 1, .int t, .int ((p_adv w p g n (p_drift (p_turn b (p_stk b f t))) (p_force b (p_stk b f t))) 10), .int ((p_adv w p g n (p_drift (p_turn b (p_stk b f t))) (p_force b (p_stk b f t))) 11)]) := hE20
        have hF : E19 (kb + 1) = .inl (cI, 6, .inl f) := (hn21 (kb + 1) (by omega)).trans hF
        have hR : E19 1 = .inr (2, [.ref (ad 2), .ref (ad 3), .ref (ad 4), .int (nI n)]) := (hn21 1 (by omega)).trans hR
        have hRw : E19 2 = .inl (cI, 5, .inl w) := (hn21 2 (by omega)).trans hRw
        have hRp : E19 3 = .inl (cI, 6, .inl p) := (hn21 3 (by omega)).trans hRp
        have hRg : E19 4 = .inl (cI, 6, .inl g) := (hn21 4 (by omega)).trans hRg
        have hfr : ∀ q : Nat, q ≠ kb → E19 q = E q := fun q hq => (hn21 q (by omega)).trans (hfr q hq)
        exact f_retv hQ hx hb hr hlocks hI.2.2 (by omega) (by omega) dX0_letTickGoBy_59 E19 (fB_of hI) (⟨(hC).trans (by simp [p_tick, p_tickK, p_wet, p_home, va_up, c_4, c_31, c_46]), hfr⟩)
    · refine lv_aload_n hx hb dX0_letTickGoBy_34 rfl (lv_at hl 1 rfl) ?_
      refine lv_iconst (v := 1) hx hb dX0_letTickGoBy_35 (by decide) ?_
      refine f_callv1 (va_runV (As := [.int 1]) (rest := []) ⟨hx, hb, hml, hown, hts⟩ (m_X0_soak l ha hk (b := p_adv w p g n (p_drift (p_turn b (p_stk b f t))) (p_force b (p_stk b f t))) hC 1) (cwV 1 hts gX0_letTickGoBy_X0_soak rfl rfl rfl (by decide +kernel) ⟨Nat.le_of_ble_eq_true rfl, Nat.le_of_ble_eq_true rfl⟩) (fPre_ofV hG hI ha hk hC rfl rfl) rfl rfl hl.1 rfl (lv_room (Nat.le_of_ble_eq_true rfl)) dX0_letTickGoBy_36 ⟨Nat.le_of_ble_eq_true rfl, Nat.le_of_ble_eq_true rfl⟩) hI (fun E22 H locs hp hI => ?_)
      obtain ⟨hE24, hn23⟩ := hp
      have hC : E22 kb = .inr (0, [.ref (ad (kb + 1)), .int ((p_soak (p_adv w p g n (p_drift (p_turn b (p_stk b f t))) (p_force b (p_stk b f t))) 1) 1), .int ((p_soak (p_adv w p g n (p_drift (p_turn b (p_stk b f t))) (p_force b (p_stk b f t))) 1) 2), .int ((p_soak (p_adv w p g n (p_drift (p_turn b (p_stk b f t))) (p_force b (p_stk b f t))) 1) 3), .int ((p_soak (p_adv w p g n (p_drift (p_turn b (p_stk b f t))) (p_force b (p_stk b f t))) 1) 4), .int ((p_soak (p_adv w p g n (p_drift (p_turn b (p_stk b f t))) (p_force b (p_stk b f t))) 1) 5), .int ((p_soak (p_adv w p g n (p_drift (p_turn b (p_stk b f t))) (p_force b (p_stk b f t))) 1) 6), .int ((p_soak (p_adv w p g n (p_drift (p_turn b (p_stk b f t))) (p_force b (p_stk b f t))) 1) 7), .int ((p_soak (p_adv w p g n (p_drift (p_turn b (p_stk b f t))) (p_force b (p_stk b f t))) 1) 8), .int ((p_soak (p_adv w p g n (p_drift (p_turn b (p_stk b f t))) (p_force b (p_stk b f t))) 1) 9), .int ((p_soak (p_adv w p g n (p_drift (p_turn b (p_stk b f t))) (p_force b (p_stk b f t))) 1) 10), .int ((p_soak (p_adv w p g n (p_drift (p_turn b (p_stk b f t))) (p_force b (p_stk b f t))) 1) 11)]) := hE24
      have hF : E22 (kb + 1) = .inl (cI, 6, .inl f) := (hn23 (kb + 1) (by omega)).trans hF
      have hR : E22 1 = .inr (2, [.ref (ad 2), .ref (ad 3), .ref (ad 4), .int (nI n)]) := (hn23 1 (by omega)).trans hR
      have hRw : E22 2 = .inl (cI, 5, .inl w) := (hn23 2 (by omega)).trans hRw
      have hRp : E22 3 = .inl (cI, 6, .inl p) := (hn23 3 (by omega)).trans hRp
      have hRg : E22 4 = .inl (cI, 6, .inl g) := (hn23 4 (by omega)).trans hRg
      have hfr : ∀ q : Nat, q ≠ kb → E22 q = E q := fun q hq => (hn23 q (by omega)).trans (hfr q hq)
      refine lv_aload_n hx hb dX0_letTickGoBy_39 rfl (lv_at hl 1 rfl) ?_
      refine f_get (ci := 0) (v := .int ((p_soak (p_adv w p g n (p_drift (p_turn b (p_stk b f t))) (p_force b (p_stk b f t))) 1) 3)) (C := RX0) (T := TX0) (N := 12) hx hb hts (by decide +kernel) hown hG.1 hI ha hk hC rfl 3 (by decide) (hts (.fieldLink RX0 20 "CoracleRace$Boat" "place" "I") (by decide +kernel)) rfl dX0_letTickGoBy_40 ?_
      refine lv_sipush (v := 200) hx hb dX0_letTickGoBy_43 (by decide) ?_
      refine lv_icmp_ne (tgt := 59) hx hb dX0_letTickGoBy_46 (by decide) (fun c_46 => ?_) (fun c_46 => ?_)
      · exact f_retv hQ hx hb hr hlocks hI.2.2 (by omega) (by omega) dX0_letTickGoBy_59 E22 (fB_of hI) (⟨(hC).trans (by simp [p_tick, p_tickK, p_wet, p_home, va_up, c_4, c_31, c_46]), hfr⟩)
      · refine lv_aload_n hx hb dX0_letTickGoBy_49 rfl (lv_at hl 1 rfl) ?_
        refine lv_iconst (v := 1) hx hb dX0_letTickGoBy_50 (by decide) ?_
        refine f_put (ci := 0) (v := .int 1) (C := RX0) (T := TX0) (N := 12) hx hb hts (by decide +kernel) tyX0 tyX0_ok nmX0 hown hG.1 hI ha hk hC rfl 8 (by decide) (hts (.fieldLink RX0 35 "CoracleRace$Boat" "in" "Z") (by decide +kernel)) rfl rfl rfl (Nat.le_of_ble_eq_true rfl) dX0_letTickGoBy_51 (fun E26 H locs hE27 hn28 hI => ?_)
        have hC : E26 kb = .inr (0, [.ref (ad (kb + 1)), .int ((p_soak (p_adv w p g n (p_drift (p_turn b (p_stk b f t))) (p_force b (p_stk b f t))) 1) 1), .int ((p_soak (p_adv w p g n (p_drift (p_turn b (p_stk b f t))) (p_force b (p_stk b f t))) 1) 2), .int ((p_soak (p_adv w p g n (p_drift (p_turn b (p_stk b f t))) (p_force b (p_stk b f t))) 1) 3), .int ((p_soak (p_adv w p g n (p_drift (p_turn b (p_stk b f t))) (p_force b (p_stk b f t))) 1) 4), .int ((p_soak (p_adv w p g n (p_drift (p_turn b (p_stk b f t))) (p_force b (p_stk b f t))) 1) 5), .int ((p_soak (p_adv w p g n (p_drift (p_turn b (p_stk b f t))) (p_force b (p_stk b f t))) 1) 6), .int ((p_soak (p_adv w p g n (p_drift (p_turn b (p_stk b f t))) (p_force b (p_stk b f t))) 1) 7), .int 1, .int ((p_soak (p_adv w p g n (p_drift (p_turn b (p_stk b f t))) (p_force b (p_stk b f t))) 1) 9), .int ((p_soak (p_adv w p g n (p_drift (p_turn b (p_stk b f t))) (p_force b (p_stk b f t))) 1) 10), .int ((p_soak (p_adv w p g n (p_drift (p_turn b (p_stk b f t))) (p_force b (p_stk b f t))) 1) 11)]) := hE27
        have hF : E26 (kb + 1) = .inl (cI, 6, .inl f) := (hn28 (kb + 1) (by omega)).trans hF
        have hR : E26 1 = .inr (2, [.ref (ad 2), .ref (ad 3), .ref (ad 4), .int (nI n)]) := (hn28 1 (by omega)).trans hR
        have hRw : E26 2 = .inl (cI, 5, .inl w) := (hn28 2 (by omega)).trans hRw
        have hRp : E26 3 = .inl (cI, 6, .inl p) := (hn28 3 (by omega)).trans hRp
        have hRg : E26 4 = .inl (cI, 6, .inl g) := (hn28 4 (by omega)).trans hRg
        have hfr : ∀ q : Nat, q ≠ kb → E26 q = E q := fun q hq => (hn28 q (by omega)).trans (hfr q hq)
        refine lv_aload_n hx hb dX0_letTickGoBy_54 rfl (lv_at hl 1 rfl) ?_
        refine lv_iload_n hx hb dX0_letTickGoBy_55 rfl (lv_at hl 3 rfl) ?_
        refine f_put (ci := 0) (v := .int t) (C := RX0) (T := TX0) (N := 12) hx hb hts (by decide +kernel) tyX0 tyX0_ok nmX0 hown hG.1 hI ha hk hC rfl 9 (by decide) (hts (.fieldLink RX0 39 "CoracleRace$Boat" "tickIn" "I") (by decide +kernel)) rfl rfl rfl (Nat.le_of_ble_eq_true rfl) dX0_letTickGoBy_56 (fun E29 H locs hE30 hn31 hI => ?_)
        have hC : E29 kb = .inr (0, [.ref (ad (kb + 1)), .int ((p_soak (p_adv w p g n (p_drift (p_turn b (p_stk b f t))) (p_force b (p_stk b f t))) 1) 1), .int ((p_soak (p_adv w p g n (p_drift (p_turn b (p_stk b f t))) (p_force b (p_stk b f t))) 1) 2), .int ((p_soak (p_adv w p g n (p_drift (p_turn b (p_stk b f t))) (p_force b (p_stk b f t))) 1) 3), .int ((p_soak (p_adv w p g n (p_drift (p_turn b (p_stk b f t))) (p_force b (p_stk b f t))) 1) 4), .int ((p_soak (p_adv w p g n (p_drift (p_turn b (p_stk b f t))) (p_force b (p_stk b f t))) 1) 5), .int ((p_soak (p_adv w p g n (p_drift (p_turn b (p_stk b f t))) (p_force b (p_stk b f t))) 1) 6), .int ((p_soak (p_adv w p g n (p_drift (p_turn b (p_stk b f t))) (p_force b (p_stk b f t))) 1) 7), .int 1, .int t, .int ((p_soak (p_adv w p g n (p_drift (p_turn b (p_stk b f t))) (p_force b (p_stk b f t))) 1) 10), .int ((p_soak (p_adv w p g n (p_drift (p_turn b (p_stk b f t))) (p_force b (p_stk b f t))) 1) 11)]) := hE30
        have hF : E29 (kb + 1) = .inl (cI, 6, .inl f) := (hn31 (kb + 1) (by omega)).trans hF
        have hR : E29 1 = .inr (2, [.ref (ad 2), .ref (ad 3), .ref (ad 4), .int (nI n)]) := (hn31 1 (by omega)).trans hR
        have hRw : E29 2 = .inl (cI, 5, .inl w) := (hn31 2 (by omega)).trans hRw
        have hRp : E29 3 = .inl (cI, 6, .inl p) := (hn31 3 (by omega)).trans hRp
        have hRg : E29 4 = .inl (cI, 6, .inl g) := (hn31 4 (by omega)).trans hRg
        have hfr : ∀ q : Nat, q ≠ kb → E29 q = E q := fun q hq => (hn31 q (by omega)).trans (hfr q hq)
        exact f_retv hQ hx hb hr hlocks hI.2.2 (by omega) (by omega) dX0_letTickGoBy_59 E29 (fB_of hI) (⟨(hC).trans (by simp [p_tick, p_tickK, p_wet, p_home, va_up, c_4, c_31, c_46]), hfr⟩)
  · exact f_retv hQ hx hb hr hlocks hI.2.2 (by omega) (by omega) dX0_letTickGoBy_7 E (fB_of hI) (⟨(hC).trans (by simp [p_tick, p_tickK, p_wet, p_home, va_up, c_4]), hfr⟩)

set_option maxHeartbeats 4000000 in
set_option maxRecDepth 100000 in
theorem m_X0_dryOut (l : Launch) {D : va_G} {cI cJ cB : ClassId} {t0 z : Nat} {tx ad : Nat → Nat} {L : List Nat} {E : Nat → va_E} {kb a : Nat} (ha : ad kb = a) (hk : kb ∈ L) {b : Nat → Int32} (hC : E kb = bE ad kb b) : Met l yX0_dryOut wsX0_dryOut ({ frames := 0, cells := 0, slots := 0, locals := 0 } : Room) (va_Pc [.ref a] (fPre D cI cJ cB t0 z tx ad L E)) (va_Qi (fun (r : Int32) (E1 : Nat → va_E) => r = b 6 ∧ E1 kb = bE ad kb (va_up (va_up b 6 0) 7 (b 7 + 4)) ∧ ∀ q, q ≠ kb → E1 q = E q) (fB D z ad L) (fA z)) 0 0 (fA z) := by
  refine f_ofW (cc := cX0_dryOut) (maxL := 2) (ret := some .int) (by decide) rfl (Nat.le_of_ble_eq_true rfl) ?_
  intro pr e s m args below meth c Q hx hb hr hml hts hown hlocks hin hG H locs hI hQ ls hl
  have hl : lv_has ls 2 [(0, .ref a)] := hl
  have hfr : ∀ q : Nat, q ≠ kb → E q = E q := fun _ _ => rfl
  have hC : E kb = .inr (0, [.ref (ad (kb + 1)), .int (b 1), .int (b 2), .int (b 3), .int (b 4), .int (b 5), .int (b 6), .int (b 7), .int (b 8), .int (b 9), .int (b 10), .int (b 11)]) := hC
  refine lv_aload_n hx hb dX0_dryOut_0 rfl (lv_at hl 0 rfl) ?_
  refine f_get (ci := 0) (v := .int (b 6)) (C := RX0) (T := TX0) (N := 12) hx hb hts (by decide +kernel) hown hG.1 hI ha hk hC rfl 6 (by decide) (hts (.fieldLink RX0 29 "CoracleRace$Boat" "soaked" "I") (by decide +kernel)) rfl dX0_dryOut_1 ?_
  refine lv_istore_n (lv' := [(1, .int (b 6)), (0, .ref a)]) hx hb dX0_dryOut_4 rfl hl (by decide) rfl (fun ls hl => ?_)
  refine lv_aload_n hx hb dX0_dryOut_5 rfl (lv_at hl 1 rfl) ?_
  refine lv_iconst (v := 0) hx hb dX0_dryOut_6 (by decide) ?_
  refine f_put (ci := 0) (v := .int 0) (C := RX0) (T := TX0) (N := 12) hx hb hts (by decide +kernel) tyX0 tyX0_ok nmX0 hown hG.1 hI ha hk hC rfl 6 (by decide) (hts (.fieldLink RX0 29 "CoracleRace$Boat" "soaked" "I") (by decide +kernel)) rfl rfl rfl (Nat.le_of_ble_eq_true rfl) dX0_dryOut_7 (fun E1 H locs hE2 hn3 hI => ?_)
  have hC : E1 kb = .inr (0, [.ref (ad (kb + 1)), .int (b 1), .int (b 2), .int (b 3), .int (b 4), .int (b 5), .int 0, .int (b 7), .int (b 8), .int (b 9), .int (b 10), .int (b 11)]) := hE2
  have hfr : ∀ q : Nat, q ≠ kb → E1 q = E q := fun q hq => (hn3 q (by omega)).trans (hfr q hq)
  refine lv_aload_n hx hb dX0_dryOut_10 rfl (lv_at hl 1 rfl) ?_
  refine lv_dup hx hb dX0_dryOut_11 rfl ?_
  refine f_get (ci := 0) (v := .int (b 7)) (C := RX0) (T := TX0) (N := 12) hx hb hts (by decide +kernel) hown hG.1 hI ha hk hC rfl 7 (by decide) (hts (.fieldLink RX0 32 "CoracleRace$Boat" "fouls" "I") (by decide +kernel)) rfl dX0_dryOut_12 ?_
  refine lv_iconst (v := 4) hx hb dX0_dryOut_15 (by decide) ?_
  refine lv_iadd hx hb dX0_dryOut_16 ?_
  refine f_put (ci := 0) (v := .int ((b 7) + 4)) (C := RX0) (T := TX0) (N := 12) hx hb hts (by decide +kernel) tyX0 tyX0_ok nmX0 hown hG.1 hI ha hk hC rfl 7 (by decide) (hts (.fieldLink RX0 32 "CoracleRace$Boat" "fouls" "I") (by decide +kernel)) rfl rfl rfl (Nat.le_of_ble_eq_true rfl) dX0_dryOut_17 (fun E4 H locs hE5 hn6 hI => ?_)
  have hC : E4 kb = .inr (0, [.ref (ad (kb + 1)), .int (b 1), .int (b 2), .int (b 3), .int (b 4), .int (b 5), .int 0, .int ((b 7) + 4), .int (b 8), .int (b 9), .int (b 10), .int (b 11)]) := hE5
  have hfr : ∀ q : Nat, q ≠ kb → E4 q = E q := fun q hq => (hn6 q (by omega)).trans (hfr q hq)
  refine lv_iload_n hx hb dX0_dryOut_20 rfl (lv_at hl 0 rfl) ?_
  exact f_reti hQ hx hb hr hlocks hI.2.2 (by omega) (by omega) dX0_dryOut_21 E4 (fB_of hI) (⟨rfl, (hC).trans (by simp [va_up]), hfr⟩)

set_option maxHeartbeats 4000000 in
set_option maxRecDepth 100000 in
theorem m_X0_isAheadOf (l : Launch) {D : va_G} {cI cJ cB : ClassId} {t0 z : Nat} {tx ad : Nat → Nat} {L : List Nat} {E : Nat → va_E} {kb a : Nat} (ha : ad kb = a) (hk : kb ∈ L) {b : Nat → Int32} (hC : E kb = bE ad kb b) {ko ao : Nat} (hao : ad ko = ao) (hko : ko ∈ L) {o : Nat → Int32} (hO : E ko = bE ad ko o) : Met l yX0_isAheadOf wsX0_isAheadOf ({ frames := 1, cells := 0, slots := 0, locals := 20 } : Room) (va_Pc [.ref a, .ref ao] (fPre D cI cJ cB t0 z tx ad L E)) (va_Qi (fun (r : Int32) (E1 : Nat → va_E) => r = p_ahead b o ∧ E1 = E) (fB D z ad L) (fA z)) 0 0 (fA z) := by
  refine f_ofW (cc := cX0_isAheadOf) (maxL := 2) (ret := some .boolean) (by decide) rfl (Nat.le_of_ble_eq_true rfl) ?_
  intro pr e s m args below meth c Q hx hb hr hml hts hown hlocks hin hG H locs hI hQ ls hl
  have hl : lv_has ls 2 [(0, .ref a), (1, .ref ao)] := hl
  have hC : E kb = .inr (0, [.ref (ad (kb + 1)), .int (b 1), .int (b 2), .int (b 3), .int (b 4), .int (b 5), .int (b 6), .int (b 7), .int (b 8), .int (b 9), .int (b 10), .int (b 11)]) := hC
  have hO : E ko = .inr (0, [.ref (ad (ko + 1)), .int (o 1), .int (o 2), .int (o 3), .int (o 4), .int (o 5), .int (o 6), .int (o 7), .int (o 8), .int (o 9), .int (o 10), .int (o 11)]) := hO
  refine lv_aload_n hx hb dX0_isAheadOf_0 rfl (lv_at hl 0 rfl) ?_
  refine f_get (ci := 0) (v := .int (b 8)) (C := RX0) (T := TX0) (N := 12) hx hb hts (by decide +kernel) hown hG.1 hI ha hk hC rfl 8 (by decide) (hts (.fieldLink RX0 35 "CoracleRace$Boat" "in" "Z") (by decide +kernel)) rfl dX0_isAheadOf_1 ?_
  refine lv_if_eq (tgt := 31) hx hb dX0_isAheadOf_4 (by decide) (fun c_4 => ?_) (fun c_4 => ?_)
  · refine lv_aload_n hx hb dX0_isAheadOf_31 rfl (lv_at hl 1 rfl) ?_
    refine f_get (ci := 0) (v := .int (o 8)) (C := RX0) (T := TX0) (N := 12) hx hb hts (by decide +kernel) hown hG.1 hI hao hko hO rfl 8 (by decide) (hts (.fieldLink RX0 35 "CoracleRace$Boat" "in" "Z") (by decide +kernel)) rfl dX0_isAheadOf_32 ?_
    refine lv_if_ne (tgt := 53) hx hb dX0_isAheadOf_35 (by decide) (fun c_35 => ?_) (fun c_35 => ?_)
    · refine lv_iconst (v := 0) hx hb dX0_isAheadOf_53 (by decide) ?_
      exact f_retz hQ hx hb hr hlocks hI.2.2 (by omega) (by omega) dX0_isAheadOf_54 rfl E (fB_of hI) (⟨by simp [p_ahead, c_4, c_35], rfl⟩)
    · refine lv_aload_n hx hb dX0_isAheadOf_38 rfl (lv_at hl 0 rfl) ?_
      refine f_get (ci := 0) (v := .int (b 3)) (C := RX0) (T := TX0) (N := 12) hx hb hts (by decide +kernel) hown hG.1 hI ha hk hC rfl 3 (by decide) (hts (.fieldLink RX0 20 "CoracleRace$Boat" "place" "I") (by decide +kernel)) rfl dX0_isAheadOf_39 ?_
      refine lv_aload_n hx hb dX0_isAheadOf_42 rfl (lv_at hl 1 rfl) ?_
      refine f_get (ci := 0) (v := .int (o 3)) (C := RX0) (T := TX0) (N := 12) hx hb hts (by decide +kernel) hown hG.1 hI hao hko hO rfl 3 (by decide) (hts (.fieldLink RX0 20 "CoracleRace$Boat" "place" "I") (by decide +kernel)) rfl dX0_isAheadOf_43 ?_
      refine lv_icmp_le (tgt := 53) hx hb dX0_isAheadOf_46 (by decide) (fun c_46 => ?_) (fun c_46 => ?_)
      · have n_46 := i_nlt.mpr c_46
        refine lv_iconst (v := 0) hx hb dX0_isAheadOf_53 (by decide) ?_
        exact f_retz hQ hx hb hr hlocks hI.2.2 (by omega) (by omega) dX0_isAheadOf_54 rfl E (fB_of hI) (⟨by simp [p_ahead, c_4, c_35, c_46, n_46], rfl⟩)
      · have n_46 := c_46
        have c_46 := i_nle.mp n_46
        refine lv_iconst (v := 1) hx hb dX0_isAheadOf_49 (by decide) ?_
        refine lv_goto (tgt := 54) hx hb dX0_isAheadOf_50 (by decide) ?_
        exact f_retz hQ hx hb hr hlocks hI.2.2 (by omega) (by omega) dX0_isAheadOf_54 rfl E (fB_of hI) (⟨by simp [p_ahead, c_4, c_35, c_46, n_46], rfl⟩)
  · refine lv_aload_n hx hb dX0_isAheadOf_7 rfl (lv_at hl 1 rfl) ?_
    refine f_get (ci := 0) (v := .int (o 8)) (C := RX0) (T := TX0) (N := 12) hx hb hts (by decide +kernel) hown hG.1 hI hao hko hO rfl 8 (by decide) (hts (.fieldLink RX0 35 "CoracleRace$Boat" "in" "Z") (by decide +kernel)) rfl dX0_isAheadOf_8 ?_
    refine lv_if_eq (tgt := 25) hx hb dX0_isAheadOf_11 (by decide) (fun c_11 => ?_) (fun c_11 => ?_)
    · refine lv_iconst (v := 1) hx hb dX0_isAheadOf_25 (by decide) ?_
      refine lv_goto (tgt := 30) hx hb dX0_isAheadOf_26 (by decide) ?_
      exact f_retz hQ hx hb hr hlocks hI.2.2 (by omega) (by omega) dX0_isAheadOf_30 rfl E (fB_of hI) (⟨by simp [p_ahead, c_4, c_11], rfl⟩)
    · refine lv_aload_n hx hb dX0_isAheadOf_14 rfl (lv_at hl 0 rfl) ?_
      refine f_calli1 (va_runV (As := []) (rest := []) ⟨hx, hb, hml, hown, hts⟩ (m_X0_time l ha hk (b := b) hC) (cwV 0 hts gX0_isAheadOf_X0_time rfl rfl rfl (by decide +kernel) ⟨Nat.le_of_ble_eq_true rfl, Nat.le_of_ble_eq_true rfl⟩) (fPre_ofV hG hI ha hk hC rfl rfl) rfl rfl hl.1 rfl (lv_room (Nat.le_of_ble_eq_true rfl)) dX0_isAheadOf_15 ⟨Nat.le_of_ble_eq_true rfl, Nat.le_of_ble_eq_true rfl⟩) hI (fun r1 E2 H locs hp hI => ?_)
      obtain ⟨he, hq⟩ := hp
      rw [hq] at hI
      have he : r1 = (p_time b) := he
      subst he
      refine lv_aload_n hx hb dX0_isAheadOf_18 rfl (lv_at hl 1 rfl) ?_
      refine f_calli1 (va_runV (As := []) (rest := [.int (p_time b)]) ⟨hx, hb, hml, hown, hts⟩ (m_X0_time l hao hko (b := o) hO) (cwV 0 hts gX0_isAheadOf_X0_time rfl rfl rfl (by decide +kernel) ⟨Nat.le_of_ble_eq_true rfl, Nat.le_of_ble_eq_true rfl⟩) (fPre_ofV hG hI hao hko hO rfl rfl) rfl rfl hl.1 rfl (lv_room (Nat.le_of_ble_eq_true rfl)) dX0_isAheadOf_19 ⟨Nat.le_of_ble_eq_true rfl, Nat.le_of_ble_eq_true rfl⟩) hI (fun r3 E4 H locs hp hI => ?_)
      obtain ⟨he, hq⟩ := hp
      rw [hq] at hI
      have he : r3 = (p_time o) := he
      subst he
      refine lv_icmp_ge (tgt := 29) hx hb dX0_isAheadOf_22 (by decide) (fun c_22 => ?_) (fun c_22 => ?_)
      · have n_22 := i_nlt.mpr c_22
        refine lv_iconst (v := 0) hx hb dX0_isAheadOf_29 (by decide) ?_
        exact f_retz hQ hx hb hr hlocks hI.2.2 (by omega) (by omega) dX0_isAheadOf_30 rfl E (fB_of hI) (⟨by simp [p_ahead, c_4, c_11, c_22, n_22], rfl⟩)
      · have n_22 := c_22
        have c_22 := i_nle.mp n_22
        refine lv_iconst (v := 1) hx hb dX0_isAheadOf_25 (by decide) ?_
        refine lv_goto (tgt := 30) hx hb dX0_isAheadOf_26 (by decide) ?_
        exact f_retz hQ hx hb hr hlocks hI.2.2 (by omega) (by omega) dX0_isAheadOf_30 rfl E (fB_of hI) (⟨by simp [p_ahead, c_4, c_11, c_22, n_22], rfl⟩)

set_option maxHeartbeats 4000000 in
set_option maxRecDepth 100000 in
theorem m_X0_fact (l : Launch) {D : va_G} {cI cJ cB : ClassId} {t0 z : Nat} {tx ad : Nat → Nat} {L : List Nat} {E : Nat → va_E} {kb a : Nat} (ha : ad kb = a) (hk : kb ∈ L) {b : Nat → Int32} (hC : E kb = bE ad kb b) (v : Nat) (hv : v ≤ 8) : Met l yX0_fact wsX0_fact ({ frames := 1, cells := 0, slots := 0, locals := 20 } : Room) (va_Pc [.ref a, .int (nI v)] (fPre D cI cJ cB t0 z tx ad L E)) (va_Qi (fun (r : Int32) (E1 : Nat → va_E) => r = p_fact b v ∧ E1 = E) (fB D z ad L) (fA z)) 0 0 (fA z) := by
  refine f_ofW (cc := cX0_fact) (maxL := 2) (ret := some .int) (by decide) rfl (Nat.le_of_ble_eq_true rfl) ?_
  intro pr e s m args below meth c Q hx hb hr hml hts hown hlocks hin hG H locs hI hQ ls hl
  have hl : lv_has ls 2 [(0, .ref a), (1, .int (nI v))] := hl
  have hC : E kb = .inr (0, [.ref (ad (kb + 1)), .int (b 1), .int (b 2), .int (b 3), .int (b 4), .int (b 5), .int (b 6), .int (b 7), .int (b 8), .int (b 9), .int (b 10), .int (b 11)]) := hC
  refine lv_iload_n hx hb dX0_fact_0 rfl (lv_at hl 1 rfl) ?_
  rcases (show v = 0 ∨ v = 1 ∨ v = 2 ∨ v = 3 ∨ v = 4 ∨ v = 5 ∨ v = 6 ∨ v = 7 ∨ v = 8 by omega) with rfl | rfl | rfl | rfl | rfl | rfl | rfl | rfl | rfl
  · refine lv_tableIn (tgt := 48) hx hb dX0_fact_1 (by decide) (by decide) rfl (by decide) ?_
    refine lv_aload_n hx hb dX0_fact_48 rfl (lv_at hl 0 rfl) ?_
    refine f_get (ci := 0) (v := .int (b 3)) (C := RX0) (T := TX0) (N := 12) hx hb hts (by decide +kernel) hown hG.1 hI ha hk hC rfl 3 (by decide) (hts (.fieldLink RX0 20 "CoracleRace$Boat" "place" "I") (by decide +kernel)) rfl dX0_fact_49 ?_
    exact f_reti hQ hx hb hr hlocks hI.2.2 (by omega) (by omega) dX0_fact_52 E (fB_of hI) (⟨by simp [p_fact, ], rfl⟩)
  · refine lv_tableIn (tgt := 53) hx hb dX0_fact_1 (by decide) (by decide) rfl (by decide) ?_
    refine lv_aload_n hx hb dX0_fact_53 rfl (lv_at hl 0 rfl) ?_
    refine f_get (ci := 0) (v := .int (b 4)) (C := RX0) (T := TX0) (N := 12) hx hb hts (by decide +kernel) hown hG.1 hI ha hk hC rfl 4 (by decide) (hts (.fieldLink RX0 23 "CoracleRace$Boat" "lane" "I") (by decide +kernel)) rfl dX0_fact_54 ?_
    exact f_reti hQ hx hb hr hlocks hI.2.2 (by omega) (by omega) dX0_fact_57 E (fB_of hI) (⟨by simp [p_fact, ], rfl⟩)
  · refine lv_tableIn (tgt := 58) hx hb dX0_fact_1 (by decide) (by decide) rfl (by decide) ?_
    refine lv_aload_n hx hb dX0_fact_58 rfl (lv_at hl 0 rfl) ?_
    refine f_get (ci := 0) (v := .int (b 5)) (C := RX0) (T := TX0) (N := 12) hx hb hts (by decide +kernel) hown hG.1 hI ha hk hC rfl 5 (by decide) (hts (.fieldLink RX0 26 "CoracleRace$Boat" "heading" "I") (by decide +kernel)) rfl dX0_fact_59 ?_
    exact f_reti hQ hx hb hr hlocks hI.2.2 (by omega) (by omega) dX0_fact_62 E (fB_of hI) (⟨by simp [p_fact, ], rfl⟩)
  · refine lv_tableIn (tgt := 63) hx hb dX0_fact_1 (by decide) (by decide) rfl (by decide) ?_
    refine lv_aload_n hx hb dX0_fact_63 rfl (lv_at hl 0 rfl) ?_
    refine f_get (ci := 0) (v := .int (b 6)) (C := RX0) (T := TX0) (N := 12) hx hb hts (by decide +kernel) hown hG.1 hI ha hk hC rfl 6 (by decide) (hts (.fieldLink RX0 29 "CoracleRace$Boat" "soaked" "I") (by decide +kernel)) rfl dX0_fact_64 ?_
    exact f_reti hQ hx hb hr hlocks hI.2.2 (by omega) (by omega) dX0_fact_67 E (fB_of hI) (⟨by simp [p_fact, ], rfl⟩)
  · refine lv_tableIn (tgt := 68) hx hb dX0_fact_1 (by decide) (by decide) rfl (by decide) ?_
    refine lv_aload_n hx hb dX0_fact_68 rfl (lv_at hl 0 rfl) ?_
    refine f_get (ci := 0) (v := .int (b 7)) (C := RX0) (T := TX0) (N := 12) hx hb hts (by decide +kernel) hown hG.1 hI ha hk hC rfl 7 (by decide) (hts (.fieldLink RX0 32 "CoracleRace$Boat" "fouls" "I") (by decide +kernel)) rfl dX0_fact_69 ?_
    exact f_reti hQ hx hb hr hlocks hI.2.2 (by omega) (by omega) dX0_fact_72 E (fB_of hI) (⟨by simp [p_fact, ], rfl⟩)
  · refine lv_tableIn (tgt := 73) hx hb dX0_fact_1 (by decide) (by decide) rfl (by decide) ?_
    refine lv_aload_n hx hb dX0_fact_73 rfl (lv_at hl 0 rfl) ?_
    refine f_get (ci := 0) (v := .int (b 8)) (C := RX0) (T := TX0) (N := 12) hx hb hts (by decide +kernel) hown hG.1 hI ha hk hC rfl 8 (by decide) (hts (.fieldLink RX0 35 "CoracleRace$Boat" "in" "Z") (by decide +kernel)) rfl dX0_fact_74 ?_
    refine lv_if_eq (tgt := 84) hx hb dX0_fact_77 (by decide) (fun c_77 => ?_) (fun c_77 => ?_)
    · refine lv_iconst (v := 0) hx hb dX0_fact_84 (by decide) ?_
      exact f_reti hQ hx hb hr hlocks hI.2.2 (by omega) (by omega) dX0_fact_85 E (fB_of hI) (⟨by simp [p_fact, c_77], rfl⟩)
    · refine lv_iconst (v := 1) hx hb dX0_fact_80 (by decide) ?_
      refine lv_goto (tgt := 85) hx hb dX0_fact_81 (by decide) ?_
      exact f_reti hQ hx hb hr hlocks hI.2.2 (by omega) (by omega) dX0_fact_85 E (fB_of hI) (⟨by simp [p_fact, c_77], rfl⟩)
  · refine lv_tableIn (tgt := 86) hx hb dX0_fact_1 (by decide) (by decide) rfl (by decide) ?_
    refine lv_aload_n hx hb dX0_fact_86 rfl (lv_at hl 0 rfl) ?_
    refine f_calli1 (va_runV (As := []) (rest := []) ⟨hx, hb, hml, hown, hts⟩ (m_X0_time l ha hk (b := b) hC) (cwV 0 hts gX0_fact_X0_time rfl rfl rfl (by decide +kernel) ⟨Nat.le_of_ble_eq_true rfl, Nat.le_of_ble_eq_true rfl⟩) (fPre_ofV hG hI ha hk hC rfl rfl) rfl rfl hl.1 rfl (lv_room (Nat.le_of_ble_eq_true rfl)) dX0_fact_87 ⟨Nat.le_of_ble_eq_true rfl, Nat.le_of_ble_eq_true rfl⟩) hI (fun r1 E2 H locs hp hI => ?_)
    obtain ⟨he, hq⟩ := hp
    rw [hq] at hI
    have he : r1 = (p_time b) := he
    subst he
    exact f_reti hQ hx hb hr hlocks hI.2.2 (by omega) (by omega) dX0_fact_90 E (fB_of hI) (⟨by simp [p_fact, ], rfl⟩)
  · refine lv_tableIn (tgt := 91) hx hb dX0_fact_1 (by decide) (by decide) rfl (by decide) ?_
    refine lv_aload_n hx hb dX0_fact_91 rfl (lv_at hl 0 rfl) ?_
    refine f_get (ci := 0) (v := .int (b 10)) (C := RX0) (T := TX0) (N := 12) hx hb hts (by decide +kernel) hown hG.1 hI ha hk hC rfl 10 (by decide) (hts (.fieldLink RX0 42 "CoracleRace$Boat" "spins" "I") (by decide +kernel)) rfl dX0_fact_92 ?_
    exact f_reti hQ hx hb hr hlocks hI.2.2 (by omega) (by omega) dX0_fact_95 E (fB_of hI) (⟨by simp [p_fact, ], rfl⟩)
  · refine lv_tableOut (tgt := 96) hx hb dX0_fact_1 (by decide) (by decide) ?_
    refine lv_aload_n hx hb dX0_fact_96 rfl (lv_at hl 0 rfl) ?_
    refine f_get (ci := 0) (v := .int (b 11)) (C := RX0) (T := TX0) (N := 12) hx hb hts (by decide +kernel) hown hG.1 hI ha hk hC rfl 11 (by decide) (hts (.fieldLink RX0 45 "CoracleRace$Boat" "stops" "I") (by decide +kernel)) rfl dX0_fact_97 ?_
    exact f_reti hQ hx hb hr hlocks hI.2.2 (by omega) (by omega) dX0_fact_100 E (fB_of hI) (⟨by simp [p_fact, ], rfl⟩)

set_option maxHeartbeats 4000000 in
set_option maxRecDepth 100000 in
theorem m_X0_takePattern (l : Launch) {D : va_G} {cI cJ cB : ClassId} {t0 z : Nat} {tx ad : Nat → Nat} {L : List Nat} {E : Nat → va_E} {kb a : Nat} (ha : ad kb = a) (hk : kb ∈ L) {b : Nat → Int32} (hC : E kb = bE ad kb b) {f : Nat → Int32} (hk1 : kb + 1 ∈ L) (hF : E (kb + 1) = .inl (cI, 6, .inl f)) {len : Nat} (h1 : 1 ≤ len) (h6 : len ≤ 6) (d : Int32) : Met l yX0_takePattern wsX0_takePattern ({ frames := 0, cells := 0, slots := 0, locals := 0 } : Room) (va_Pc [.ref a, .int (nI len), .int d] (fPre D cI cJ cB t0 z tx ad L E)) (va_Qv (fun (E1 : Nat → va_E) => E1 kb = bE ad kb (va_up b 1 (nI len)) ∧ E1 (kb + 1) = .inl (cI, 6, .inl (p_row f len d)) ∧ ∀ q, q ≠ kb ∧ q ≠ kb + 1 → E1 q = E q) (fB D z ad L) (fA z)) 0 0 (fA z) := by
  refine f_ofW (cc := cX0_takePattern) (maxL := 5) (ret := none) (by decide) rfl (Nat.le_of_ble_eq_true rfl) ?_
  intro pr e s m args below meth c Q hx hb hr hml hts hown hlocks hin hG H locs hI hQ ls hl
  have hl : lv_has ls 5 [(0, .ref a), (1, .int (nI len)), (2, .int d)] := hl
  have hfr : ∀ q : Nat, q ≠ kb ∧ q ≠ kb + 1 → E q = E q := fun _ _ => rfl
  have hC : E kb = .inr (0, [.ref (ad (kb + 1)), .int (b 1), .int (b 2), .int (b 3), .int (b 4), .int (b 5), .int (b 6), .int (b 7), .int (b 8), .int (b 9), .int (b 10), .int (b 11)]) := hC
  have hF : E (kb + 1) = .inl (cI, 6, .inl f) := hF
  refine lv_iload_n hx hb dX0_takePattern_0 rfl (lv_at hl 1 rfl) ?_
  refine lv_iconst (v := 1) hx hb dX0_takePattern_1 (by decide) ?_
  refine lv_icmp_lt (tgt := 11) hx hb dX0_takePattern_2 (by decide) (fun c_2 => ?_) (fun c_2 => ?_)
  · exact absurd ((nI_ltI (by omega) (by omega) (a := len) (b := 1)).mp c_2) (by omega)
  · have n_2 := c_2
    have c_2 := i_nlt.mp n_2
    refine lv_iload_n hx hb dX0_takePattern_5 rfl (lv_at hl 1 rfl) ?_
    refine lv_bipush (v := 6) hx hb dX0_takePattern_6 (by decide) ?_
    refine lv_icmp_le (tgt := 12) hx hb dX0_takePattern_8 (by decide) (fun c_8 => ?_) (fun c_8 => ?_)
    · have n_8 := i_nlt.mpr c_8
      refine lv_iload_n hx hb dX0_takePattern_12 rfl (lv_at hl 2 rfl) ?_
      refine lv_istore_n (lv' := [(3, .int d), (0, .ref a), (1, .int (nI len)), (2, .int d)]) hx hb dX0_takePattern_13 rfl hl (by decide) rfl (fun ls hl => ?_)
      refine lv_iload_n hx hb dX0_takePattern_14 rfl (lv_at hl 2 rfl) ?_
      refine lv_iconst (v := 1) hx hb dX0_takePattern_15 (by decide) ?_
      refine lv_isub hx hb dX0_takePattern_16 ?_
      refine lv_istore (lv' := [(4, .int ((nI len) - 1)), (3, .int d), (0, .ref a), (1, .int (nI len)), (2, .int d)]) hx hb dX0_takePattern_17 hl (by decide) rfl (fun ls hl => ?_)
      have K : ∀ (j : Nat), j ≤ len → ∀ (E1 : Nat → va_E) (H : Heap) (locs : List Loc) (ls : Array Slot), E1 kb = bE ad kb b → E1 (kb + 1) = .inl (cI, 6, .inl (p_rowK f len d j)) → (∀ q : Nat, q ≠ kb ∧ q ≠ kb + 1 → E1 q = E q) → fI D (fA z) s.heap ad L E1 H locs → lv_has ls 5 [(0, .ref a), (1, .int (nI len)), (3, .int (p_shr d (len - j))), (4, .int (p_pre j))] → W pr l e ({ frames := 0, cells := 0, slots := 0, locals := 0 } : Room) s m args below meth c H locs 0 0 Q (F0 m 19 ls []) := by
        intro j
        induction j with
        | zero =>
          intro hj E1 H locs ls hC hF hfr hI hl
          have hC : E1 kb = .inr (0, [.ref (ad (kb + 1)), .int (b 1), .int (b 2), .int (b 3), .int (b 4), .int (b 5), .int (b 6), .int (b 7), .int (b 8), .int (b 9), .int (b 10), .int (b 11)]) := hC
          refine lv_iload hx hb dX0_takePattern_19 (lv_at hl 3 rfl) ?_
          refine lv_if_lt (tgt := 46) hx hb dX0_takePattern_21 (by decide) (fun c_21 => ?_) (fun c_21 => ?_)
          · have n_21 := i_nle.mpr c_21
            refine lv_aload_n hx hb dX0_takePattern_46 rfl (lv_at hl 0 rfl) ?_
            refine lv_iload_n hx hb dX0_takePattern_47 rfl (lv_at hl 1 rfl) ?_
            refine f_put (ci := 0) (v := .int (nI len)) (C := RX0) (T := TX0) (N := 12) hx hb hts (by decide +kernel) tyX0 tyX0_ok nmX0 hown hG.1 hI ha hk hC rfl 1 (by decide) (hts (.fieldLink RX0 13 "CoracleRace$Boat" "length" "I") (by decide +kernel)) rfl rfl rfl (Nat.le_of_ble_eq_true rfl) dX0_takePattern_48 (fun E1 H locs hE2 hn3 hI => ?_)
            have hC : E1 kb = .inr (0, [.ref (ad (kb + 1)), .int (nI len), .int (b 2), .int (b 3), .int (b 4), .int (b 5), .int (b 6), .int (b 7), .int (b 8), .int (b 9), .int (b 10), .int (b 11)]) := hE2
            have hF : E1 (kb + 1) = .inl (cI, 6, .inl (p_rowK f len d 0)) := (hn3 (kb + 1) (by omega)).trans hF
            have hfr : ∀ q : Nat, q ≠ kb ∧ q ≠ kb + 1 → E1 q = E q := fun q hq => (hn3 q (by omega)).trans (hfr q hq)
            exact f_retv hQ hx hb hr hlocks hI.2.2 (by omega) (by omega) dX0_takePattern_51 E1 (fB_of hI) (⟨(hC).trans (by simp [va_up]), by rw [← p_rowK_0]; exact hF, hfr⟩)
          · exact absurd c_21 (by decide)
        | succ j ih =>
          intro hj E1 H locs ls hC hF hfr hI hl
          have hC : E1 kb = .inr (0, [.ref (ad (kb + 1)), .int (b 1), .int (b 2), .int (b 3), .int (b 4), .int (b 5), .int (b 6), .int (b 7), .int (b 8), .int (b 9), .int (b 10), .int (b 11)]) := hC
          refine lv_iload hx hb dX0_takePattern_19 (lv_at hl 3 rfl) ?_
          refine lv_if_lt (tgt := 46) hx hb dX0_takePattern_21 (by decide) (fun c_21 => ?_) (fun c_21 => ?_)
          · exact absurd c_21 (nI_pos (by omega))
          · have n_21 := c_21
            have c_21 := i_nlt.mp n_21
            refine lv_aload_n hx hb dX0_takePattern_24 rfl (lv_at hl 0 rfl) ?_
            refine f_get (ci := 0) (v := .ref (ad (kb + 1))) (C := RX0) (T := TX0) (N := 12) hx hb hts (by decide +kernel) hown hG.1 hI ha hk hC rfl 0 (by decide) (hts (.fieldLink RX0 9 "CoracleRace$Boat" "strokes" "[I") (by decide +kernel)) rfl dX0_takePattern_25 ?_
            refine lv_iload hx hb dX0_takePattern_28 (lv_at hl 3 rfl) ?_
            refine lv_iload_n hx hb dX0_takePattern_30 rfl (lv_at hl 2 rfl) ?_
            refine lv_bipush (v := 10) hx hb dX0_takePattern_31 (by decide) ?_
            refine lv_irem hx hb dX0_takePattern_33 (by decide) ?_
            refine lv_topi (fun tv etv => ?_)
            have etv : tv = p_rem (p_shr d (len - (j + 1))) 10 := etv.trans (rfl)
            subst etv
            refine f_iast hx hb hG.1 hI rfl hk1 hF (vp_in_nI (by omega) (by omega)) dX0_takePattern_34 (fun E4 H locs hE5 hn6 hI => ?_)
            have hF : E4 (kb + 1) = .inl (cI, 6, .inl (upd (p_rowK f len d (j + 1)) j (p_rem (p_shr d (len - (j + 1))) 10))) := (by rw [show (p_pre (j + 1)).toNatClampNeg = j from nI_clamp (by omega)] at hE5; exact hE5)
            have hC : E4 kb = .inr (0, [.ref (ad (kb + 1)), .int (b 1), .int (b 2), .int (b 3), .int (b 4), .int (b 5), .int (b 6), .int (b 7), .int (b 8), .int (b 9), .int (b 10), .int (b 11)]) := (hn6 kb (by omega)).trans hC
            have hfr : ∀ q : Nat, q ≠ kb ∧ q ≠ kb + 1 → E4 q = E q := fun q hq => (hn6 q (by omega)).trans (hfr q hq)
            refine lv_iload_n hx hb dX0_takePattern_35 rfl (lv_at hl 2 rfl) ?_
            refine lv_bipush (v := 10) hx hb dX0_takePattern_36 (by decide) ?_
            refine lv_idiv hx hb dX0_takePattern_38 (by decide) ?_
            refine lv_istore_n (lv' := [(3, .int ((p_shr d (len - (j + 1))) / 10)), (0, .ref a), (1, .int (nI len)), (4, .int (nI j))]) hx hb dX0_takePattern_39 rfl hl (by decide) rfl (fun ls hl => ?_)
            refine lv_iinc (v := (nI j) + (-1)) (lv' := [(4, .int ((nI j) + (-1))), (3, .int ((p_shr d (len - (j + 1))) / 10)), (0, .ref a), (1, .int (nI len))]) hx hb dX0_takePattern_40 hl (k := 3) rfl rfl (by decide) rfl (fun ls hl => ?_)
            refine lv_goto (tgt := 19) hx hb dX0_takePattern_43 (by decide) ?_
            refine ih (by omega) E4 H locs ls hC (by rw [← p_rowK_step (by omega)]; exact hF) hfr hI ?_
            have e3 : p_shr d (len - (j + 1)) / 10 = p_shr d (len - j) := by rw [show len - j = (len - (j + 1)) + 1 by omega]; rfl
            rw [e3, p_pre_m] at hl
            exact lv_sub hl [2, 3, 1, 0] rfl
      obtain ⟨m1, rfl⟩ : ∃ m1, len = m1 + 1 := ⟨len - 1, by omega⟩
      refine K (m1 + 1) (Nat.le_refl _) E H locs ls hC (by rw [p_rowK_top]; exact hF) (fun _ _ => rfl) hI ?_
      rw [Nat.sub_self]
      have e4 : nI (m1 + 1) - 1 = p_pre (m1 + 1) := nI_pred m1
      rw [e4] at hl
      exact lv_sub hl [2, 3, 1, 0] rfl
    · exact absurd ((nI_leI (by omega) (by omega) (a := len) (b := 6)).mpr h6) c_8
