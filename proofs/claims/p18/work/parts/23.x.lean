set_option maxHeartbeats 4000000 in
set_option maxRecDepth 100000 in
theorem m_X3_isPattern (l : Launch) {D : va_G} {cI cJ cB : ClassId} {t0 z : Nat} {tx ad : Nat → Nat} {L : List Nat} {E : Nat → va_E} {len : Nat} (hlen : len ≤ 6) (d : Int32) : Met l yX3_isPattern wsX3_isPattern ({ frames := 0, cells := 0, slots := 0, locals := 0 } : Room) (va_Pc [.int (nI len), .int d] (fPre D cI cJ cB t0 z tx ad L E)) (va_Qi (fun (r : Int32) (E1 : Nat → va_E) => r = (if p_pat len d then 1 else 0) ∧ E1 = E) (fB D z ad L) (fA z)) 0 0 (fA z) := by
  refine f_ofW (cc := cX3_isPattern) (maxL := 4) (ret := some .boolean) (by decide) rfl (Nat.le_of_ble_eq_true rfl) ?_
  intro pr e s m args below meth c Q hx hb hr hml hts hown hlocks hin hG H locs hI hQ ls hl
  have hl : lv_has ls 4 [(0, .int (nI len)), (1, .int d)] := hl
  refine lv_iload_n hx hb dX3_isPattern_0 rfl (lv_at hl 1 rfl) ?_
  refine lv_if_ge (tgt := 6) hx hb dX3_isPattern_1 (by decide) (fun c_1 => ?_) (fun c_1 => ?_)
  · have n_1 := i_nlt.mpr c_1
    refine lv_iload_n hx hb dX3_isPattern_6 rfl (lv_at hl 1 rfl) ?_
    refine lv_istore_n (lv' := [(2, .int d), (0, .int (nI len)), (1, .int d)]) hx hb dX3_isPattern_7 rfl hl (by decide) rfl (fun ls hl => ?_)
    refine lv_iconst (v := 0) hx hb dX3_isPattern_8 (by decide) ?_
    refine lv_istore_n (lv' := [(3, .int 0), (2, .int d), (0, .int (nI len)), (1, .int d)]) hx hb dX3_isPattern_9 rfl hl (by decide) rfl (fun ls hl => ?_)
    have Kih : ∀ (k i : Nat), i ≤ len → len + 1 ≤ i + k → ∀ (Ea : Nat → va_E) (H : Heap) (locs : List Loc) (ls : Array Slot), (∀ q, q < i → p_rem (p_shr d q) 10 ≤ 3) → (Ea = E) → fI D (fA z) s.heap ad L Ea H locs → lv_has ls 4 [(0, .int (nI len)), (1, .int d), (2, .int (p_shr d i)), (3, .int (nI i))] → W pr l e ({ frames := 0, cells := 0, slots := 0, locals := 0 } : Room) s m args below meth c H locs 0 0 Q (F0 m 10 ls []) := by
      intro k
      induction k with
      | zero => intro i h1 h2; exact absurd h2 (by omega)
      | succ k ih =>
        intro i hi1i hi2i Ea H locs ls hv hEE hI hl
        refine lv_iload_n hx hb dX3_isPattern_10 rfl (lv_at hl 3 rfl) ?_
        refine lv_iload_n hx hb dX3_isPattern_11 rfl (lv_at hl 0 rfl) ?_
        refine lv_icmp_ge (tgt := 36) hx hb dX3_isPattern_12 (by decide) (fun c_12 => ?_) (fun c_12 => ?_)
        · have n_12 := i_nlt.mpr c_12
          have hi : i = len := by have := (nI_leI (by omega) (by omega)).mp c_12; omega
          refine lv_iload_n hx hb dX3_isPattern_36 rfl (lv_at hl 2 rfl) ?_
          refine lv_if_ne (tgt := 44) hx hb dX3_isPattern_37 (by decide) (fun c_37 => ?_) (fun c_37 => ?_)
          · refine lv_iconst (v := 0) hx hb dX3_isPattern_44 (by decide) ?_
            exact f_retz hQ hx hb hr hlocks hI.2.2 (by omega) (by omega) dX3_isPattern_45 rfl Ea (fB_of hI) (⟨by rw [if_neg]; intro h9; rw [hi] at c_37; exact c_37 h9.2.2, hEE⟩)
          · refine lv_iconst (v := 1) hx hb dX3_isPattern_40 (by decide) ?_
            refine lv_goto (tgt := 45) hx hb dX3_isPattern_41 (by decide) ?_
            exact f_retz hQ hx hb hr hlocks hI.2.2 (by omega) (by omega) dX3_isPattern_45 rfl Ea (fB_of hI) (⟨by rw [if_pos (⟨c_1, by rw [← hi]; exact hv, by rw [← hi]; exact c_37⟩ : p_pat len d)], hEE⟩)
        · have n_12 := c_12
          have c_12 := i_nle.mp n_12
          have hi : i < len := (nI_ltI (by omega) (by omega)).mp c_12
          have hcl : (nI i).toNatClampNeg = i := nI_clamp (by omega)
          refine lv_iload_n hx hb dX3_isPattern_15 rfl (lv_at hl 2 rfl) ?_
          refine lv_bipush (v := 10) hx hb dX3_isPattern_16 (by decide) ?_
          refine lv_irem hx hb dX3_isPattern_18 (by decide) ?_
          refine lv_topi (fun tv etv => ?_)
          have etv : tv = p_rem (p_shr d i) 10 := etv.trans (rfl)
          subst etv
          refine lv_iconst (v := 3) hx hb dX3_isPattern_19 (by decide) ?_
          refine lv_icmp_le (tgt := 25) hx hb dX3_isPattern_20 (by decide) (fun c_20 => ?_) (fun c_20 => ?_)
          · have n_20 := i_nlt.mpr c_20
            refine lv_iload_n hx hb dX3_isPattern_25 rfl (lv_at hl 2 rfl) ?_
            refine lv_bipush (v := 10) hx hb dX3_isPattern_26 (by decide) ?_
            refine lv_idiv hx hb dX3_isPattern_28 (by decide) ?_
            refine lv_topi (fun tv etv => ?_)
            have etv : tv = p_shr d (i + 1) := etv.trans (rfl)
            subst etv
            refine lv_istore_n (lv' := [(2, .int (p_shr d (i + 1))), (0, .int (nI len)), (1, .int d), (3, .int (nI i))]) hx hb dX3_isPattern_29 rfl hl (by decide) rfl (fun ls hl => ?_)
            refine lv_iinc (v := (nI (i + 1))) (lv' := [(3, .int (nI (i + 1))), (2, .int (p_shr d (i + 1))), (0, .int (nI len)), (1, .int d)]) hx hb dX3_isPattern_30 hl (k := 3) rfl (nI_1 i) (by decide) rfl (fun ls hl => ?_)
            refine lv_goto (tgt := 10) hx hb dX3_isPattern_33 (by decide) ?_
            exact ih (i + 1) (by omega) (by omega) Ea H locs ls (fun q hq => by rcases Nat.lt_or_ge q i with h9 | h9; exact hv q h9; rw [show q = i by omega]; exact c_20) hEE hI (lv_sub hl [2, 3, 1, 0] rfl)
          · have n_20 := c_20
            have c_20 := i_nle.mp n_20
            refine lv_iconst (v := 0) hx hb dX3_isPattern_23 (by decide) ?_
            exact f_retz hQ hx hb hr hlocks hI.2.2 (by omega) (by omega) dX3_isPattern_24 rfl Ea (fB_of hI) (⟨by rw [if_neg (pat_no hi c_20)], hEE⟩)
    exact Kih (len + 1) 0 (Nat.zero_le _) (by omega) E H locs ls (fun q hq => absurd hq (Nat.not_lt_zero q)) rfl hI (lv_sub hl [2, 3, 1, 0] rfl)
  · have n_1 := c_1
    have c_1 := i_nle.mp n_1
    refine lv_iconst (v := 0) hx hb dX3_isPattern_4 (by decide) ?_
    exact f_retz hQ hx hb hr hlocks hI.2.2 (by omega) (by omega) dX3_isPattern_5 rfl E (fB_of hI) (⟨by rw [if_neg]; intro h9; exact n_1 h9.1, rfl⟩)

set_option maxHeartbeats 4000000 in
set_option maxRecDepth 100000 in
theorem m_X3_paddle (l : Launch) {D : va_G} {cI cJ cB : ClassId} {t0 z : Nat} {tx ad : Nat → Nat} {L : List Nat} {E : Nat → va_E} (hl9 : l.stackTraces = false) {w p g : Nat → Int32} {nw n T : Nat} {Bs Fs : Nat → Nat → Int32} (hX : x_at cI cB ad E w p g nw n T Bs Fs) (hnw : nw ≤ 6) (hn6 : n ≤ 6) (hTb : T < 2 ^ 30) (h8 : ∀ i, i < n → Bs i 8 = 0 ∨ Bs i 8 = 1) (hXm : ∀ k, k < 5 ∨ (10 ≤ k ∧ k < 24) ∨ (30 ≤ k ∧ k < 44) → k ∈ L) (x len y : Int32) : vx_Met l yX3_paddle wsX3_paddle ({ frames := 6, cells := 1, slots := 6, locals := 82 } : Room) (va_Pc [.ref (ad 0), .int x, .int len, .int y] (fPre D cI cJ cB t0 z tx ad L E)) (va_Qi (fun (r : Int32) (E1 : Nat → va_E) => c_paddle n x len y = 0 ∧ r = Bs x.toNatClampNeg 1 ∧ x_at cI cB ad E1 w p g nw n T (va_up Bs x.toNatClampNeg (va_up (Bs x.toNatClampNeg) 1 len)) (va_up Fs x.toNatClampNeg (p_row (Fs x.toNatClampNeg) len.toNatClampNeg y)) ∧ ∀ q : Nat, 44 ≤ q → E1 q = E q) (fB D z ad L) (fA z)) (f_X D z ad L E (ok2 (c_paddle n x len y) fIO fIA)) 1 6 (fA z) := by
  refine f_ofX (cc := cX3_paddle) (maxL := 5) (ret := some .int) (by decide) rfl (Nat.le_of_ble_eq_true rfl) ?_
  intro pr e s m args below meth c Q hx hb hr hml hT hts hown hlocks hG H locs hI hQ ls hl
  have hl : lv_has ls 5 [(0, .ref (ad 0)), (1, .int x), (2, .int len), (3, .int y)] := hl
  obtain ⟨hX0, ⟨hR, hRw, hRp, hRg⟩, hF10, nt, Tt, Bt, Ft, hnt, hF30⟩ := id hX
  have hr1 : 1 ∈ L := hXm _ (by omega)
  have hr2 : 2 ∈ L := hXm _ (by omega)
  have hr3 : 3 ∈ L := hXm _ (by omega)
  have hr4 : 4 ∈ L := hXm _ (by omega)
  obtain ⟨hFo10, hFr10, -⟩ := id hF10
  obtain ⟨hFo30, hFr30, -⟩ := id hF30
  have hX0 : E 0 = .inr (3, [.ref (ad 1), .ref (ad 10), .ref (ad 30)]) := hX0
  have hR : E 1 = .inr (2, [.ref (ad 2), .ref (ad 3), .ref (ad 4), .int (nI nw)]) := hR
  have hRw : E 2 = .inl (cI, 5, .inl w) := hRw
  have hRp : E 3 = .inl (cI, 6, .inl p) := hRp
  have hRg : E 4 = .inl (cI, 6, .inl g) := hRg
  have hFo10 : E 10 = .inr (1, [.ref (ad (10 + 1)), .int (nI n), .int (nI T)]) := hFo10
  have hFr10 : E (10 + 1) = .inl (cB, 6, .inr (.inr (.inr (.inr (fl_row ad 10))))) := hFr10
  have hFo30 : E 30 = .inr (1, [.ref (ad (30 + 1)), .int (nI nt), .int (nI Tt)]) := hFo30
  have hFr30 : E (30 + 1) = .inl (cB, 6, .inr (.inr (.inr (.inr (fl_row ad 30))))) := hFr30
  refine lv_aload_n hx hb dX3_paddle_0 rfl (lv_at hl 0 rfl) ?_
  refine f_get (ci := 3) (v := .ref (ad 10)) (C := RX3) (T := TX3) (N := 3) hx hb hts (by decide +kernel) hown hG.1 hI rfl (hXm _ (by omega)) hX0 rfl 1 (by decide) (hts (.fieldLink RX3 19 "CoracleRace" "fleet" "LCoracleRace$Fleet;") (by decide +kernel)) rfl dX3_paddle_1 ?_
  refine lv_iload_n hx hb dX3_paddle_4 rfl (lv_at hl 1 rfl) ?_
  refine f_calli1 (va_runV (As := [.int x]) (rest := []) ⟨hx, hb, hml, hown, hts⟩ (m_X1_has l (fb := 10) rfl (by decide) (fun k h1 h2 => hXm k (by omega)) hn6 hF10 x) (cwV 1 hts gX3_paddle_X1_has rfl rfl rfl (by decide +kernel) ⟨Nat.le_of_ble_eq_true rfl, Nat.le_of_ble_eq_true rfl⟩) (fPre_ofV hG hI rfl (hXm _ (by omega)) hFo10 rfl rfl) rfl rfl hl.1 rfl (lv_room (Nat.le_of_ble_eq_true rfl)) dX3_paddle_5 ⟨Nat.le_of_ble_eq_true rfl, Nat.le_of_ble_eq_true rfl⟩) hI (fun r1 E2 H locs hp hI => ?_)
  obtain ⟨he, hq⟩ := hp
  rw [hq] at hI
  refine lv_if_ne (tgt := 21) hx hb dX3_paddle_8 (by decide) (fun c_8 => ?_) (fun c_8 => ?_)
  · have p_8 := bl_t he c_8
    obtain ⟨i, hi, hxi⟩ := ix_nat p_8 (by omega)
    subst hxi
    have hcl : (nI i).toNatClampNeg = i := nI_clamp (by omega)
    obtain ⟨hCF, hSF⟩ := hF10.2.2 i (by omega)
    refine lv_iload_n hx hb dX3_paddle_21 rfl (lv_at hl 2 rfl) ?_
    refine lv_iconst (v := 1) hx hb dX3_paddle_22 (by decide) ?_
    refine lv_icmp_lt (tgt := 32) hx hb dX3_paddle_23 (by decide) (fun c_23 => ?_) (fun c_23 => ?_)
    · have n_23 := i_nle.mpr c_23
      exact f_throw (cls := fIA) (text := "a pattern has 1 to 6 strokes") hQ (Or.inr ⟨by simp [c_paddle, c_8, if_pos p_8, p_8, hcl, c_23, n_23], rfl⟩) hl9 hx hb hG hI hown hT hlocks (hl.1.trans hml.symm) (hts (.classLink RX3 37 fIA) (by decide +kernel)) (hts (.initialized fIA) (by decide +kernel)) (fun w hw => hts w (List.mem_cons_of_mem _ (List.mem_append_right _ hw))) vxf_IA vxn_41 vxg_41 (by decide +kernel) dX3_paddle_32 dX3_paddle_35 dX3_paddle_36 dX3_paddle_38 dX3_paddle_41 (by decide +kernel) (Nat.le_of_ble_eq_true rfl) (Nat.le_of_ble_eq_true rfl) (Nat.le_of_ble_eq_true rfl) (by omega) (by omega)
    · have n_23 := c_23
      have c_23 := i_nlt.mp n_23
      refine lv_iload_n hx hb dX3_paddle_26 rfl (lv_at hl 2 rfl) ?_
      refine lv_bipush (v := 6) hx hb dX3_paddle_27 (by decide) ?_
      refine lv_icmp_le (tgt := 42) hx hb dX3_paddle_29 (by decide) (fun c_29 => ?_) (fun c_29 => ?_)
      · have n_29 := i_nlt.mpr c_29
        obtain ⟨v, hv, hxv⟩ := le_nat (n := 6) (one_le c_23) c_29 (by omega)
        subst hxv
        have hv1 : 1 ≤ v := (nI_leI (by omega) (by omega) (a := 1)).mp c_23
        have hcv : (nI v).toNatClampNeg = v := nI_clamp (by omega)
        refine lv_iload_n hx hb dX3_paddle_42 rfl (lv_at hl 2 rfl) ?_
        refine lv_iload_n hx hb dX3_paddle_43 rfl (lv_at hl 3 rfl) ?_
        refine f_calli1 (va_runS (As := [.int (nI v), .int y]) (rest := []) ⟨hx, hb, hml, hown, hts⟩ (m_X3_isPattern l (len := v) hv y) (va_cwS 2 hts gX3_paddle_X3_isPattern rfl rfl rfl (by decide +kernel) ⟨Nat.le_of_ble_eq_true rfl, Nat.le_of_ble_eq_true rfl⟩) (fPre_of hG hI) rfl rfl hl.1 rfl (lv_room (Nat.le_of_ble_eq_true rfl)) dX3_paddle_44 ⟨Nat.le_of_ble_eq_true rfl, Nat.le_of_ble_eq_true rfl⟩) hI (fun r3 E4 H locs hp hI => ?_)
        obtain ⟨he5, hq⟩ := hp
        rw [hq] at hI
        refine lv_if_ne (tgt := 60) hx hb dX3_paddle_47 (by decide) (fun c_47 => ?_) (fun c_47 => ?_)
        · have p_47 := bl_t he5 c_47
          refine lv_aload_n hx hb dX3_paddle_60 rfl (lv_at hl 0 rfl) ?_
          refine f_get (ci := 3) (v := .ref (ad 10)) (C := RX3) (T := TX3) (N := 3) hx hb hts (by decide +kernel) hown hG.1 hI rfl (hXm _ (by omega)) hX0 rfl 1 (by decide) (hts (.fieldLink RX3 19 "CoracleRace" "fleet" "LCoracleRace$Fleet;") (by decide +kernel)) rfl dX3_paddle_61 ?_
          refine f_get (ci := 1) (v := .ref (ad (10 + 1))) (C := RX1) (T := TX1) (N := 3) hx hb hts (by decide +kernel) hown hG.1 hI rfl (hXm _ (by omega)) hFo10 rfl 0 (by decide) (hts (.fieldLink RX3 96 "CoracleRace$Fleet" "boats" "[LCoracleRace$Boat;") (by decide +kernel)) rfl dX3_paddle_64 ?_
          refine lv_iload_n hx hb dX3_paddle_67 rfl (lv_at hl 1 rfl) ?_
          refine f_aldq hx hb hG.1 hI rfl (hXm _ (by omega)) hFr10 (vp_in_nI (by omega) (by omega)) (v := .ref (ad (10 + 2 + 2 * i))) (by rw [hcl]; exact fl_row_at (by omega)) dX3_paddle_68 ?_
          refine f_get (ci := 0) (v := .int (Bs i 1)) (C := RX0) (T := TX0) (N := 12) hx hb hts (by decide +kernel) hown hG.1 hI rfl (hXm _ (by omega)) hCF rfl 1 (by decide) (hts (.fieldLink RX3 100 "CoracleRace$Boat" "length" "I") (by decide +kernel)) rfl dX3_paddle_69 ?_
          refine lv_istore (lv' := [(4, .int (Bs i 1)), (0, .ref (ad 0)), (1, .int (nI i)), (2, .int (nI v)), (3, .int y)]) hx hb dX3_paddle_72 hl (by decide) rfl (fun ls hl => ?_)
          refine lv_aload_n hx hb dX3_paddle_74 rfl (lv_at hl 1 rfl) ?_
          refine f_get (ci := 3) (v := .ref (ad 10)) (C := RX3) (T := TX3) (N := 3) hx hb hts (by decide +kernel) hown hG.1 hI rfl (hXm _ (by omega)) hX0 rfl 1 (by decide) (hts (.fieldLink RX3 19 "CoracleRace" "fleet" "LCoracleRace$Fleet;") (by decide +kernel)) rfl dX3_paddle_75 ?_
          refine f_get (ci := 1) (v := .ref (ad (10 + 1))) (C := RX1) (T := TX1) (N := 3) hx hb hts (by decide +kernel) hown hG.1 hI rfl (hXm _ (by omega)) hFo10 rfl 0 (by decide) (hts (.fieldLink RX3 96 "CoracleRace$Fleet" "boats" "[LCoracleRace$Boat;") (by decide +kernel)) rfl dX3_paddle_78 ?_
          refine lv_iload_n hx hb dX3_paddle_81 rfl (lv_at hl 2 rfl) ?_
          refine f_aldq hx hb hG.1 hI rfl (hXm _ (by omega)) hFr10 (vp_in_nI (by omega) (by omega)) (v := .ref (ad (10 + 2 + 2 * i))) (by rw [hcl]; exact fl_row_at (by omega)) dX3_paddle_82 ?_
          refine lv_iload_n hx hb dX3_paddle_83 rfl (lv_at hl 3 rfl) ?_
          refine lv_iload_n hx hb dX3_paddle_84 rfl (lv_at hl 4 rfl) ?_
          refine f_callv1 (va_runV (As := [.int (nI v), .int y]) (rest := []) ⟨hx, hb, hml, hown, hts⟩ (m_X0_takePattern l rfl (hXm _ (by omega)) (b := Bs i) hCF (hXm _ (by omega)) hSF (len := v) hv1 hv y) (cwV 2 hts gX3_paddle_X0_takePattern rfl rfl rfl (by decide +kernel) ⟨Nat.le_of_ble_eq_true rfl, Nat.le_of_ble_eq_true rfl⟩) (fPre_ofV hG hI rfl (hXm _ (by omega)) hCF rfl rfl) rfl rfl hl.1 rfl (lv_room (Nat.le_of_ble_eq_true rfl)) dX3_paddle_85 ⟨Nat.le_of_ble_eq_true rfl, Nat.le_of_ble_eq_true rfl⟩) hI (fun E5 H locs hp hI => ?_)
          obtain ⟨hE9, hG9, hn9⟩ := hp
          refine lv_iload hx hb dX3_paddle_88 (lv_at hl 0 rfl) ?_
          exact f_xreti hQ hx hb hr hlocks hI.2.2 (by omega) (by omega) dX3_paddle_90 E5 (fB_of hI) (⟨by simp [c_paddle, hcl, hcv, c_8, if_pos p_8, p_8, hcl, c_23, n_23, c_29, n_29, hcv, c_47, if_pos p_47, p_47], by rw [hcl], by rw [hcl, hcv]; exact hX.f10 (fun q hq => hn9 q (by omega)) (hF10.boat (by omega) hE9 hG9 hn9), fun q hq => hn9 q (by omega)⟩)
        · have p_47 := bl_f he5 c_47
          exact f_throw (cls := fIA) (text := "strokes are at most length digits, each 0 to 3") hQ (Or.inr ⟨by simp [c_paddle, c_8, if_pos p_8, p_8, hcl, c_23, n_23, c_29, n_29, hcv, c_47, if_neg p_47], rfl⟩) hl9 hx hb hG hI hown hT hlocks (hl.1.trans hml.symm) (hts (.classLink RX3 37 fIA) (by decide +kernel)) (hts (.initialized fIA) (by decide +kernel)) (fun w hw => hts w (List.mem_cons_of_mem _ (List.mem_append_right _ hw))) vxf_IA vxn_41 vxg_41 (by decide +kernel) dX3_paddle_50 dX3_paddle_53 dX3_paddle_54 dX3_paddle_56 dX3_paddle_59 (by decide +kernel) (Nat.le_of_ble_eq_true rfl) (Nat.le_of_ble_eq_true rfl) (Nat.le_of_ble_eq_true rfl) (by omega) (by omega)
      · have n_29 := c_29
        have c_29 := i_nle.mp n_29
        exact f_throw (cls := fIA) (text := "a pattern has 1 to 6 strokes") hQ (Or.inr ⟨by simp [c_paddle, c_8, if_pos p_8, p_8, hcl, c_23, n_23, c_29, n_29], rfl⟩) hl9 hx hb hG hI hown hT hlocks (hl.1.trans hml.symm) (hts (.classLink RX3 37 fIA) (by decide +kernel)) (hts (.initialized fIA) (by decide +kernel)) (fun w hw => hts w (List.mem_cons_of_mem _ (List.mem_append_right _ hw))) vxf_IA vxn_41 vxg_41 (by decide +kernel) dX3_paddle_32 dX3_paddle_35 dX3_paddle_36 dX3_paddle_38 dX3_paddle_41 (by decide +kernel) (Nat.le_of_ble_eq_true rfl) (Nat.le_of_ble_eq_true rfl) (Nat.le_of_ble_eq_true rfl) (by omega) (by omega)
  · have p_8 := bl_f he c_8
    exact f_throw (cls := fIO) (text := "no such boat") hQ (Or.inl ⟨by simp [c_paddle, c_8, if_neg p_8], rfl⟩) hl9 hx hb hG hI hown hT hlocks (hl.1.trans hml.symm) (hts (.classLink RX3 30 fIO) (by decide +kernel)) (hts (.initialized fIO) (by decide +kernel)) (fun w hw => hts w (List.mem_cons_of_mem _ (List.mem_append_left _ (List.mem_append_right _ hw)))) vxf_IO vxn_34 vxg_34 (by decide +kernel) dX3_paddle_11 dX3_paddle_14 dX3_paddle_15 dX3_paddle_17 dX3_paddle_20 (by decide +kernel) (Nat.le_of_ble_eq_true rfl) (Nat.le_of_ble_eq_true rfl) (Nat.le_of_ble_eq_true rfl) (by omega) (by omega)

set_option maxHeartbeats 4000000 in
set_option maxRecDepth 100000 in
theorem m_X3_go (l : Launch) {D : va_G} {cI cJ cB : ClassId} {t0 z : Nat} {tx ad : Nat → Nat} {L : List Nat} {E : Nat → va_E} (hl9 : l.stackTraces = false) {w p g : Nat → Int32} {nw n T : Nat} {Bs Fs : Nat → Nat → Int32} (hX : x_at cI cB ad E w p g nw n T Bs Fs) (hnw : nw ≤ 6) (hn6 : n ≤ 6) (hTb : T < 2 ^ 30) (h8 : ∀ i, i < n → Bs i 8 = 0 ∨ Bs i 8 = 1) (hXm : ∀ k, k < 5 ∨ (10 ≤ k ∧ k < 24) ∨ (30 ≤ k ∧ k < 44) → k ∈ L) (x : Int32) : vx_Met l yX3_go wsX3_go ({ frames := 6, cells := 1, slots := 6, locals := 106 } : Room) (va_Pc [.ref (ad 0), .int x] (fPre D cI cJ cB t0 z tx ad L E)) (va_Qi (fun (r : Int32) (E1 : Nat → va_E) => c_go x = 0 ∧ r = p_in (p_run w p g nw T n Fs Bs x.toNatClampNeg) n - p_in Bs n ∧ x_at cI cB ad E1 w p g nw n (T + x.toNatClampNeg) (p_run w p g nw T n Fs Bs x.toNatClampNeg) Fs ∧ ∀ q : Nat, 44 ≤ q → E1 q = E q) (fB D z ad L) (fA z)) (f_X D z ad L E (ok1 (c_go x) fIA)) 1 6 (fA z) := by
  refine f_ofX (cc := cX3_go) (maxL := 3) (ret := some .int) (by decide) rfl (Nat.le_of_ble_eq_true rfl) ?_
  intro pr e s m args below meth c Q hx hb hr hml hT hts hown hlocks hG H locs hI hQ ls hl
  have hl : lv_has ls 3 [(0, .ref (ad 0)), (1, .int x)] := hl
  obtain ⟨hX0, ⟨hR, hRw, hRp, hRg⟩, hF10, nt, Tt, Bt, Ft, hnt, hF30⟩ := id hX
  have hr1 : 1 ∈ L := hXm _ (by omega)
  have hr2 : 2 ∈ L := hXm _ (by omega)
  have hr3 : 3 ∈ L := hXm _ (by omega)
  have hr4 : 4 ∈ L := hXm _ (by omega)
  obtain ⟨hFo10, hFr10, -⟩ := id hF10
  obtain ⟨hFo30, hFr30, -⟩ := id hF30
  have hX0 : E 0 = .inr (3, [.ref (ad 1), .ref (ad 10), .ref (ad 30)]) := hX0
  have hR : E 1 = .inr (2, [.ref (ad 2), .ref (ad 3), .ref (ad 4), .int (nI nw)]) := hR
  have hRw : E 2 = .inl (cI, 5, .inl w) := hRw
  have hRp : E 3 = .inl (cI, 6, .inl p) := hRp
  have hRg : E 4 = .inl (cI, 6, .inl g) := hRg
  have hFo10 : E 10 = .inr (1, [.ref (ad (10 + 1)), .int (nI n), .int (nI T)]) := hFo10
  have hFr10 : E (10 + 1) = .inl (cB, 6, .inr (.inr (.inr (.inr (fl_row ad 10))))) := hFr10
  have hFo30 : E 30 = .inr (1, [.ref (ad (30 + 1)), .int (nI nt), .int (nI Tt)]) := hFo30
  have hFr30 : E (30 + 1) = .inl (cB, 6, .inr (.inr (.inr (.inr (fl_row ad 30))))) := hFr30
  refine lv_iload_n hx hb dX3_go_0 rfl (lv_at hl 1 rfl) ?_
  refine lv_iconst (v := 1) hx hb dX3_go_1 (by decide) ?_
  refine lv_icmp_lt (tgt := 12) hx hb dX3_go_2 (by decide) (fun c_2 => ?_) (fun c_2 => ?_)
  · have n_2 := i_nle.mpr c_2
    exact f_throw (cls := fIA) (text := "ticks are 1 to 200") hQ (⟨by simp [c_go, c_2, n_2], rfl⟩) hl9 hx hb hG hI hown hT hlocks (hl.1.trans hml.symm) (hts (.classLink RX3 37 fIA) (by decide +kernel)) (hts (.initialized fIA) (by decide +kernel)) (fun w hw => hts w (List.mem_cons_of_mem _ (List.mem_append_right _ hw))) vxf_IA vxn_41 vxg_41 (by decide +kernel) dX3_go_12 dX3_go_15 dX3_go_16 dX3_go_18 dX3_go_21 (by decide +kernel) (Nat.le_of_ble_eq_true rfl) (Nat.le_of_ble_eq_true rfl) (Nat.le_of_ble_eq_true rfl) (by omega) (by omega)
  · have n_2 := c_2
    have c_2 := i_nlt.mp n_2
    refine lv_iload_n hx hb dX3_go_5 rfl (lv_at hl 1 rfl) ?_
    refine lv_sipush (v := 200) hx hb dX3_go_6 (by decide) ?_
    refine lv_icmp_le (tgt := 22) hx hb dX3_go_9 (by decide) (fun c_9 => ?_) (fun c_9 => ?_)
    · have n_9 := i_nlt.mpr c_9
      obtain ⟨v, hv, hxv⟩ := le_nat (n := 200) (one_le c_2) c_9 (by omega)
      subst hxv
      refine lv_aload_n hx hb dX3_go_22 rfl (lv_at hl 0 rfl) ?_
      refine f_get (ci := 3) (v := .ref (ad 10)) (C := RX3) (T := TX3) (N := 3) hx hb hts (by decide +kernel) hown hG.1 hI rfl (hXm _ (by omega)) hX0 rfl 1 (by decide) (hts (.fieldLink RX3 19 "CoracleRace" "fleet" "LCoracleRace$Fleet;") (by decide +kernel)) rfl dX3_go_23 ?_
      refine f_calli1 (va_runV (As := []) (rest := []) ⟨hx, hb, hml, hown, hts⟩ (m_X1_boatsIn l (fb := 10) rfl (by decide) (fun k h1 h2 => hXm k (by omega)) hn6 hF10 h8) (cwV 0 hts gX3_go_X1_boatsIn rfl rfl rfl (by decide +kernel) ⟨Nat.le_of_ble_eq_true rfl, Nat.le_of_ble_eq_true rfl⟩) (fPre_ofV hG hI rfl (hXm _ (by omega)) hFo10 rfl rfl) rfl rfl hl.1 rfl (lv_room (Nat.le_of_ble_eq_true rfl)) dX3_go_26 ⟨Nat.le_of_ble_eq_true rfl, Nat.le_of_ble_eq_true rfl⟩) hI (fun r1 E2 H locs hp hI => ?_)
      obtain ⟨he, hq⟩ := hp
      rw [hq] at hI
      have he : r1 = (p_in Bs n) := he
      subst he
      refine lv_istore_n (lv' := [(2, .int (p_in Bs n)), (0, .ref (ad 0)), (1, .int (nI v))]) hx hb dX3_go_29 rfl hl (by decide) rfl (fun ls hl => ?_)
      refine lv_aload_n hx hb dX3_go_30 rfl (lv_at hl 1 rfl) ?_
      refine f_get (ci := 3) (v := .ref (ad 10)) (C := RX3) (T := TX3) (N := 3) hx hb hts (by decide +kernel) hown hG.1 hI rfl (hXm _ (by omega)) hX0 rfl 1 (by decide) (hts (.fieldLink RX3 19 "CoracleRace" "fleet" "LCoracleRace$Fleet;") (by decide +kernel)) rfl dX3_go_31 ?_
      refine lv_aload_n hx hb dX3_go_34 rfl (lv_at hl 1 rfl) ?_
      refine f_get (ci := 3) (v := .ref (ad 1)) (C := RX3) (T := TX3) (N := 3) hx hb hts (by decide +kernel) hown hG.1 hI rfl (hXm _ (by omega)) hX0 rfl 0 (by decide) (hts (.fieldLink RX3 10 "CoracleRace" "river" "LCoracleRace$River;") (by decide +kernel)) rfl dX3_go_35 ?_
      refine lv_iload_n hx hb dX3_go_38 rfl (lv_at hl 2 rfl) ?_
      refine f_callv1 (va_runV (As := [.ref (ad 1), .int (nI v)]) (rest := []) ⟨hx, hb, hml, hown, hts⟩ (m_X1_letTicksGoBy l (fb := 10) rfl (by decide) (fun k h1 h2 => hXm k (by omega)) hn6 hF10 hnw hr1 hr2 hr3 hr4 hR hRw hRp hRg v (by omega)) (cwV 2 hts gX3_go_X1_letTicksGoBy rfl rfl rfl (by decide +kernel) ⟨Nat.le_of_ble_eq_true rfl, Nat.le_of_ble_eq_true rfl⟩) (fPre_ofV hG hI rfl (hXm _ (by omega)) hFo10 rfl rfl) rfl rfl hl.1 rfl (lv_room (Nat.le_of_ble_eq_true rfl)) dX3_go_39 ⟨Nat.le_of_ble_eq_true rfl, Nat.le_of_ble_eq_true rfl⟩) hI (fun E3 H locs hp hI => ?_)
      obtain ⟨hF9, hn9⟩ := hp
      have hX0 : E3 0 = .inr (3, [.ref (ad 1), .ref (ad 10), .ref (ad 30)]) := (hn9 0 (by omega)).trans hX0
      have hFo10 := hF9.1
      refine lv_aload_n hx hb dX3_go_42 rfl (lv_at hl 1 rfl) ?_
      refine f_get (ci := 3) (v := .ref (ad 10)) (C := RX3) (T := TX3) (N := 3) hx hb hts (by decide +kernel) hown hG.1 hI rfl (hXm _ (by omega)) hX0 rfl 1 (by decide) (hts (.fieldLink RX3 19 "CoracleRace" "fleet" "LCoracleRace$Fleet;") (by decide +kernel)) rfl dX3_go_43 ?_
      refine f_calli1 (va_runV (As := []) (rest := []) ⟨hx, hb, hml, hown, hts⟩ (m_X1_boatsIn l (fb := 10) rfl (by decide) (fun k h1 h2 => hXm k (by omega)) hn6 hF9 (fun i hi => p_run_8 h8 i hi)) (cwV 0 hts gX3_go_X1_boatsIn rfl rfl rfl (by decide +kernel) ⟨Nat.le_of_ble_eq_true rfl, Nat.le_of_ble_eq_true rfl⟩) (fPre_ofV hG hI rfl (hXm _ (by omega)) hFo10 rfl rfl) rfl rfl hl.1 rfl (lv_room (Nat.le_of_ble_eq_true rfl)) dX3_go_46 ⟨Nat.le_of_ble_eq_true rfl, Nat.le_of_ble_eq_true rfl⟩) hI (fun r4 E5 H locs hp hI => ?_)
      obtain ⟨he, hq⟩ := hp
      rw [hq] at hI
      have he : r4 = (p_in (p_run w p g nw T n Fs Bs v) n) := he
      subst he
      refine lv_iload_n hx hb dX3_go_49 rfl (lv_at hl 0 rfl) ?_
      refine lv_isub hx hb dX3_go_50 ?_
      exact f_xreti hQ hx hb hr hlocks hI.2.2 (by omega) (by omega) dX3_go_51 E3 (fB_of hI) (⟨by simp [c_go, c_2, n_2, c_9, n_9], by rw [nI_clamp (by omega)], by rw [nI_clamp (by omega)]; exact hX.f10 hn9 hF9, fun q hq => hn9 q (by omega)⟩)
    · have n_9 := c_9
      have c_9 := i_nle.mp n_9
      exact f_throw (cls := fIA) (text := "ticks are 1 to 200") hQ (⟨by simp [c_go, c_2, n_2, c_9, n_9], rfl⟩) hl9 hx hb hG hI hown hT hlocks (hl.1.trans hml.symm) (hts (.classLink RX3 37 fIA) (by decide +kernel)) (hts (.initialized fIA) (by decide +kernel)) (fun w hw => hts w (List.mem_cons_of_mem _ (List.mem_append_right _ hw))) vxf_IA vxn_41 vxg_41 (by decide +kernel) dX3_go_12 dX3_go_15 dX3_go_16 dX3_go_18 dX3_go_21 (by decide +kernel) (Nat.le_of_ble_eq_true rfl) (Nat.le_of_ble_eq_true rfl) (Nat.le_of_ble_eq_true rfl) (by omega) (by omega)

set_option maxHeartbeats 4000000 in
set_option maxRecDepth 100000 in
theorem m_X3_foresee (l : Launch) {D : va_G} {cI cJ cB : ClassId} {t0 z : Nat} {tx ad : Nat → Nat} {L : List Nat} {E : Nat → va_E} (hl9 : l.stackTraces = false) {w p g : Nat → Int32} {nw n T : Nat} {Bs Fs : Nat → Nat → Int32} (hX : x_at cI cB ad E w p g nw n T Bs Fs) (hnw : nw ≤ 6) (hn6 : n ≤ 6) (hTb : T < 2 ^ 30) (h8 : ∀ i, i < n → Bs i 8 = 0 ∨ Bs i 8 = 1) (hXm : ∀ k, k < 5 ∨ (10 ≤ k ∧ k < 24) ∨ (30 ≤ k ∧ k < 44) → k ∈ L) (x y : Int32) : vx_Met l yX3_foresee wsX3_foresee ({ frames := 6, cells := 1, slots := 6, locals := 106 } : Room) (va_Pc [.ref (ad 0), .int x, .int y] (fPre D cI cJ cB t0 z tx ad L E)) (va_Qi (fun (r : Int32) (E1 : Nat → va_E) => c_foresee x y = 0 ∧ r = p_cnt nw n (T + x.toNatClampNeg) (p_run w p g nw T n Fs Bs x.toNatClampNeg) y.toNatClampNeg ∧ x_at cI cB ad E1 w p g nw n T Bs Fs ∧ ∀ q : Nat, 44 ≤ q → E1 q = E q) (fB D z ad L) (fA z)) (f_X D z ad L E (ok2 (c_foresee x y) fIA fIO)) 1 6 (fA z) := by
  refine f_ofX (cc := cX3_foresee) (maxL := 3) (ret := some .int) (by decide) rfl (Nat.le_of_ble_eq_true rfl) ?_
  intro pr e s m args below meth c Q hx hb hr hml hT hts hown hlocks hG H locs hI hQ ls hl
  have hl : lv_has ls 3 [(0, .ref (ad 0)), (1, .int x), (2, .int y)] := hl
  obtain ⟨hX0, ⟨hR, hRw, hRp, hRg⟩, hF10, nt, Tt, Bt, Ft, hnt, hF30⟩ := id hX
  have hr1 : 1 ∈ L := hXm _ (by omega)
  have hr2 : 2 ∈ L := hXm _ (by omega)
  have hr3 : 3 ∈ L := hXm _ (by omega)
  have hr4 : 4 ∈ L := hXm _ (by omega)
  obtain ⟨hFo10, hFr10, -⟩ := id hF10
  obtain ⟨hFo30, hFr30, -⟩ := id hF30
  have hX0 : E 0 = .inr (3, [.ref (ad 1), .ref (ad 10), .ref (ad 30)]) := hX0
  have hR : E 1 = .inr (2, [.ref (ad 2), .ref (ad 3), .ref (ad 4), .int (nI nw)]) := hR
  have hRw : E 2 = .inl (cI, 5, .inl w) := hRw
  have hRp : E 3 = .inl (cI, 6, .inl p) := hRp
  have hRg : E 4 = .inl (cI, 6, .inl g) := hRg
  have hFo10 : E 10 = .inr (1, [.ref (ad (10 + 1)), .int (nI n), .int (nI T)]) := hFo10
  have hFr10 : E (10 + 1) = .inl (cB, 6, .inr (.inr (.inr (.inr (fl_row ad 10))))) := hFr10
  have hFo30 : E 30 = .inr (1, [.ref (ad (30 + 1)), .int (nI nt), .int (nI Tt)]) := hFo30
  have hFr30 : E (30 + 1) = .inl (cB, 6, .inr (.inr (.inr (.inr (fl_row ad 30))))) := hFr30
  refine lv_iload_n hx hb dX3_foresee_0 rfl (lv_at hl 1 rfl) ?_
  refine lv_iconst (v := 1) hx hb dX3_foresee_1 (by decide) ?_
  refine lv_icmp_lt (tgt := 12) hx hb dX3_foresee_2 (by decide) (fun c_2 => ?_) (fun c_2 => ?_)
  · have n_2 := i_nle.mpr c_2
    exact f_throw (cls := fIA) (text := "ticks are 1 to 200") hQ (Or.inl ⟨by simp [c_foresee, c_2, n_2], rfl⟩) hl9 hx hb hG hI hown hT hlocks (hl.1.trans hml.symm) (hts (.classLink RX3 37 fIA) (by decide +kernel)) (hts (.initialized fIA) (by decide +kernel)) (fun w hw => hts w (List.mem_cons_of_mem _ (List.mem_append_left _ (List.mem_append_right _ hw)))) vxf_IA vxn_41 vxg_41 (by decide +kernel) dX3_foresee_12 dX3_foresee_15 dX3_foresee_16 dX3_foresee_18 dX3_foresee_21 (by decide +kernel) (Nat.le_of_ble_eq_true rfl) (Nat.le_of_ble_eq_true rfl) (Nat.le_of_ble_eq_true rfl) (by omega) (by omega)
  · have n_2 := c_2
    have c_2 := i_nlt.mp n_2
    refine lv_iload_n hx hb dX3_foresee_5 rfl (lv_at hl 1 rfl) ?_
    refine lv_sipush (v := 200) hx hb dX3_foresee_6 (by decide) ?_
    refine lv_icmp_le (tgt := 22) hx hb dX3_foresee_9 (by decide) (fun c_9 => ?_) (fun c_9 => ?_)
    · have n_9 := i_nlt.mpr c_9
      obtain ⟨u, hu, hxu⟩ := le_nat (n := 200) (one_le c_2) c_9 (by omega)
      subst hxu
      refine lv_iload_n hx hb dX3_foresee_22 rfl (lv_at hl 2 rfl) ?_
      refine lv_iconst (v := 3) hx hb dX3_foresee_23 (by decide) ?_
      refine lv_icmp_lt (tgt := 33) hx hb dX3_foresee_24 (by decide) (fun c_24 => ?_) (fun c_24 => ?_)
      · have n_24 := i_nle.mpr c_24
        exact f_throw (cls := fIO) (text := "what is 3 to 6") hQ (Or.inr ⟨by simp [c_foresee, c_2, n_2, c_9, n_9, c_24, n_24], rfl⟩) hl9 hx hb hG hI hown hT hlocks (hl.1.trans hml.symm) (hts (.classLink RX3 30 fIO) (by decide +kernel)) (hts (.initialized fIO) (by decide +kernel)) (fun w hw => hts w (List.mem_cons_of_mem _ (List.mem_append_right _ hw))) vxf_IO vxn_34 vxg_34 (by decide +kernel) dX3_foresee_33 dX3_foresee_36 dX3_foresee_37 dX3_foresee_39 dX3_foresee_42 (by decide +kernel) (Nat.le_of_ble_eq_true rfl) (Nat.le_of_ble_eq_true rfl) (Nat.le_of_ble_eq_true rfl) (by omega) (by omega)
      · have n_24 := c_24
        have c_24 := i_nlt.mp n_24
        refine lv_iload_n hx hb dX3_foresee_27 rfl (lv_at hl 2 rfl) ?_
        refine lv_bipush (v := 6) hx hb dX3_foresee_28 (by decide) ?_
        refine lv_icmp_le (tgt := 43) hx hb dX3_foresee_30 (by decide) (fun c_30 => ?_) (fun c_30 => ?_)
        · have n_30 := i_nlt.mpr c_30
          obtain ⟨v, hv, hxv⟩ := le_nat (n := 6) (three_le c_24) c_30 (by omega)
          subst hxv
          refine lv_aload_n hx hb dX3_foresee_43 rfl (lv_at hl 0 rfl) ?_
          refine f_get (ci := 3) (v := .ref (ad 30)) (C := RX3) (T := TX3) (N := 3) hx hb hts (by decide +kernel) hown hG.1 hI rfl (hXm _ (by omega)) hX0 rfl 2 (by decide) (hts (.fieldLink RX3 23 "CoracleRace" "trial" "LCoracleRace$Fleet;") (by decide +kernel)) rfl dX3_foresee_44 ?_
          refine lv_aload_n hx hb dX3_foresee_47 rfl (lv_at hl 0 rfl) ?_
          refine f_get (ci := 3) (v := .ref (ad 10)) (C := RX3) (T := TX3) (N := 3) hx hb hts (by decide +kernel) hown hG.1 hI rfl (hXm _ (by omega)) hX0 rfl 1 (by decide) (hts (.fieldLink RX3 19 "CoracleRace" "fleet" "LCoracleRace$Fleet;") (by decide +kernel)) rfl dX3_foresee_48 ?_
          refine f_callv1 (va_runV (As := [.ref (ad 10)]) (rest := []) ⟨hx, hb, hml, hown, hts⟩ (m_X1_copyFrom l (fb := 30) rfl (by decide) (fun k h1 h2 => hXm k (by omega)) hnt hF30 rfl (fun k h1 h2 => hXm k (by omega)) hn6 hF10 (by omega) h8) (cwV 1 hts gX3_foresee_X1_copyFrom rfl rfl rfl (by decide +kernel) ⟨Nat.le_of_ble_eq_true rfl, Nat.le_of_ble_eq_true rfl⟩) (fPre_ofV hG hI rfl (hXm _ (by omega)) hFo30 rfl rfl) rfl rfl hl.1 rfl (lv_room (Nat.le_of_ble_eq_true rfl)) dX3_foresee_51 ⟨Nat.le_of_ble_eq_true rfl, Nat.le_of_ble_eq_true rfl⟩) hI (fun E1 H locs hp hI => ?_)
          obtain ⟨hF9, hn9⟩ := hp
          have hX0 : E1 0 = .inr (3, [.ref (ad 1), .ref (ad 10), .ref (ad 30)]) := (hn9 0 (by omega)).trans hX0
          have hR : E1 1 = rE ad nw := (hn9 1 (by omega)).trans hR
          have hRw : E1 2 = .inl (cI, 5, .inl w) := (hn9 2 (by omega)).trans hRw
          have hRp : E1 3 = .inl (cI, 6, .inl p) := (hn9 3 (by omega)).trans hRp
          have hRg : E1 4 = .inl (cI, 6, .inl g) := (hn9 4 (by omega)).trans hRg
          have hFo10 : E1 10 = .inr (1, [.ref (ad (10 + 1)), .int (nI n), .int (nI T)]) := (hn9 10 (by omega)).trans hFo10
          have hFo30 := hF9.1
          refine lv_aload_n hx hb dX3_foresee_54 rfl (lv_at hl 0 rfl) ?_
          refine f_get (ci := 3) (v := .ref (ad 30)) (C := RX3) (T := TX3) (N := 3) hx hb hts (by decide +kernel) hown hG.1 hI rfl (hXm _ (by omega)) hX0 rfl 2 (by decide) (hts (.fieldLink RX3 23 "CoracleRace" "trial" "LCoracleRace$Fleet;") (by decide +kernel)) rfl dX3_foresee_55 ?_
          refine lv_aload_n hx hb dX3_foresee_58 rfl (lv_at hl 0 rfl) ?_
          refine f_get (ci := 3) (v := .ref (ad 1)) (C := RX3) (T := TX3) (N := 3) hx hb hts (by decide +kernel) hown hG.1 hI rfl (hXm _ (by omega)) hX0 rfl 0 (by decide) (hts (.fieldLink RX3 10 "CoracleRace" "river" "LCoracleRace$River;") (by decide +kernel)) rfl dX3_foresee_59 ?_
          refine lv_iload_n hx hb dX3_foresee_62 rfl (lv_at hl 1 rfl) ?_
          refine f_callv1 (va_runV (As := [.ref (ad 1), .int (nI u)]) (rest := []) ⟨hx, hb, hml, hown, hts⟩ (m_X1_letTicksGoBy l (fb := 30) rfl (by decide) (fun k h1 h2 => hXm k (by omega)) hn6 hF9 hnw hr1 hr2 hr3 hr4 hR hRw hRp hRg u (by omega)) (cwV 2 hts gX3_foresee_X1_letTicksGoBy rfl rfl rfl (by decide +kernel) ⟨Nat.le_of_ble_eq_true rfl, Nat.le_of_ble_eq_true rfl⟩) (fPre_ofV hG hI rfl (hXm _ (by omega)) hFo30 rfl rfl) rfl rfl hl.1 rfl (lv_room (Nat.le_of_ble_eq_true rfl)) dX3_foresee_63 ⟨Nat.le_of_ble_eq_true rfl, Nat.le_of_ble_eq_true rfl⟩) hI (fun E2 H locs hp hI => ?_)
          obtain ⟨hF8, hn8⟩ := hp
          have hX0 : E2 0 = .inr (3, [.ref (ad 1), .ref (ad 10), .ref (ad 30)]) := (hn8 0 (by omega)).trans hX0
          have hR : E2 1 = rE ad nw := (hn8 1 (by omega)).trans hR
          have hFo30 := hF8.1
          refine lv_aload_n hx hb dX3_foresee_66 rfl (lv_at hl 0 rfl) ?_
          refine lv_aload_n hx hb dX3_foresee_67 rfl (lv_at hl 0 rfl) ?_
          refine f_get (ci := 3) (v := .ref (ad 30)) (C := RX3) (T := TX3) (N := 3) hx hb hts (by decide +kernel) hown hG.1 hI rfl (hXm _ (by omega)) hX0 rfl 2 (by decide) (hts (.fieldLink RX3 23 "CoracleRace" "trial" "LCoracleRace$Fleet;") (by decide +kernel)) rfl dX3_foresee_68 ?_
          refine lv_iload_n hx hb dX3_foresee_71 rfl (lv_at hl 2 rfl) ?_
          refine f_calli1 (va_runV (As := [.ref (ad 30), .int (nI v)]) (rest := []) ⟨hx, hb, hml, hown, hts⟩ (m_X3_countIn l (fb := 30) rfl (by decide) (fun k h1 h2 => hXm k (by omega)) hn6 hF8 (nw := nw) hX0 (hXm _ (by omega)) hr1 hR (fun i hi => p_run_8 (fun j hj => by simp only [p_cp, if_pos hj]; exact h8 j hj) i hi) v hv) (cwV 2 hts gX3_foresee_X3_countIn rfl rfl rfl (by decide +kernel) ⟨Nat.le_of_ble_eq_true rfl, Nat.le_of_ble_eq_true rfl⟩) (fPre_ofV hG hI rfl (hXm _ (by omega)) hX0 rfl rfl) rfl rfl hl.1 rfl (lv_room (Nat.le_of_ble_eq_true rfl)) dX3_foresee_72 ⟨Nat.le_of_ble_eq_true rfl, Nat.le_of_ble_eq_true rfl⟩) hI (fun r3 E4 H locs hp hI => ?_)
          obtain ⟨he, hq⟩ := hp
          rw [hq] at hI
          exact f_xreti hQ hx hb hr hlocks hI.2.2 (by omega) (by omega) dX3_foresee_75 E2 (fB_of hI) (⟨by simp [c_foresee, c_2, n_2, c_9, n_9, c_24, n_24, c_30, n_30], by rw [nI_clamp (by omega), nI_clamp (by omega), he, p_run_cp], hX.f30 (fun q hq => (hn8 q hq).trans (hn9 q hq)) hn6 hF8, fun q hq => (hn8 q (by omega)).trans (hn9 q (by omega))⟩)
        · have n_30 := c_30
          have c_30 := i_nle.mp n_30
          exact f_throw (cls := fIO) (text := "what is 3 to 6") hQ (Or.inr ⟨by simp [c_foresee, c_2, n_2, c_9, n_9, c_24, n_24, c_30, n_30], rfl⟩) hl9 hx hb hG hI hown hT hlocks (hl.1.trans hml.symm) (hts (.classLink RX3 30 fIO) (by decide +kernel)) (hts (.initialized fIO) (by decide +kernel)) (fun w hw => hts w (List.mem_cons_of_mem _ (List.mem_append_right _ hw))) vxf_IO vxn_34 vxg_34 (by decide +kernel) dX3_foresee_33 dX3_foresee_36 dX3_foresee_37 dX3_foresee_39 dX3_foresee_42 (by decide +kernel) (Nat.le_of_ble_eq_true rfl) (Nat.le_of_ble_eq_true rfl) (Nat.le_of_ble_eq_true rfl) (by omega) (by omega)
    · have n_9 := c_9
      have c_9 := i_nle.mp n_9
      exact f_throw (cls := fIA) (text := "ticks are 1 to 200") hQ (Or.inl ⟨by simp [c_foresee, c_2, n_2, c_9, n_9], rfl⟩) hl9 hx hb hG hI hown hT hlocks (hl.1.trans hml.symm) (hts (.classLink RX3 37 fIA) (by decide +kernel)) (hts (.initialized fIA) (by decide +kernel)) (fun w hw => hts w (List.mem_cons_of_mem _ (List.mem_append_left _ (List.mem_append_right _ hw)))) vxf_IA vxn_41 vxg_41 (by decide +kernel) dX3_foresee_12 dX3_foresee_15 dX3_foresee_16 dX3_foresee_18 dX3_foresee_21 (by decide +kernel) (Nat.le_of_ble_eq_true rfl) (Nat.le_of_ble_eq_true rfl) (Nat.le_of_ble_eq_true rfl) (by omega) (by omega)
