theorem st_at.ad {cI : ClassId} {ad ad1 : Nat → Nat} {E : Nat → va_E} {sb T : Nat} {S : Nat → Nat → Int32} (h : st_at cI ad E sb T S) (hs : sb + 11 ≤ 99) (h1 : ∀ q, q ≠ 99 → ad1 q = ad q) : st_at cI ad1 E sb T S := by
  refine ⟨h.1.trans ?_, h.2⟩
  unfold sE
  rw [h1 (sb + 1 + 0) (by omega), h1 (sb + 1 + 1) (by omega), h1 (sb + 1 + 2) (by omega), h1 (sb + 1 + 3) (by omega), h1 (sb + 1 + 4) (by omega), h1 (sb + 1 + 5) (by omega), h1 (sb + 1 + 6) (by omega), h1 (sb + 1 + 7) (by omega), h1 (sb + 1 + 8) (by omega), h1 (sb + 1 + 9) (by omega), h1 50 (by omega)]
theorem m_at.ad {cI : ClassId} {ad ad1 : Nat → Nat} {E : Nat → va_E} {th : Int32} {w p g : Nat → Int32} {nw n : Nat} {str : Nat → Int32} (h : m_at cI ad E th w p g nw n str) (h1 : ∀ q, q ≠ 99 → ad1 q = ad q) : m_at cI ad1 E th w p g nw n str := by
  refine ⟨h.1.trans ?_, h.2⟩
  unfold mE
  rw [h1 51 (by omega), h1 52 (by omega), h1 53 (by omega), h1 54 (by omega), h1 60 (by omega), h1 80 (by omega)]
set_option maxHeartbeats 4000000 in
set_option maxRecDepth 100000 in
theorem m_X4_go_ (l : Launch) {D : va_G} {cI cJ cB : ClassId} {t0 z : Nat} {tx ad : Nat → Nat} {L : List Nat} {E : Nat → va_E} {sb a : Nat} (ha : ad sb = a) (h60 : 60 ≤ sb) (hSm : ∀ k, sb ≤ k → k < sb + 11 → k ∈ L) {T : Nat} (hTb : T < 2 ^ 31) {S : Nat → Nat → Int32} (hS : st_at cI ad E sb T S) (hMm : ∀ k, 50 ≤ k → k < 55 → k ∈ L) {th : Int32} {w p g : Nat → Int32} {nw n : Nat} {str : Nat → Int32} (hM : m_at cI ad E th w p g nw n str) (hNW : nw ≤ 6) (hN6 : n ≤ 6) (hrv : okr w p nw) (hok : ∀ q, q < n → okb (mb S str q)) : Met l yX4_go_ wsX4_go_ ({ frames := 3, cells := 0, slots := 0, locals := 69 } : Room) (va_Pc [.ref a] (fPre D cI cJ cB t0 z tx ad L E)) (va_Qv (fun (E1 : Nat → va_E) => st_at cI ad E1 sb (T + 1) (m_mid w p g nw T str S n) ∧ ∀ q : Nat, (q < sb ∨ sb + 11 ≤ q) → E1 q = E q) (fB D z ad L) (fA z)) 0 0 (fA z) := by
  refine f_ofW (cc := cX4_go_) (maxL := 2) (ret := none) (by decide) rfl (Nat.le_of_ble_eq_true rfl) ?_
  intro pr e s m args below meth c Q hx hb hr hml hts hown hlocks hin hG H locs hI hQ ls hl
  have hl : lv_has ls 2 [(0, .ref a)] := hl
  refine lv_iconst (v := 0) hx hb dX4_go__0 (by decide) ?_
  refine lv_istore_n (lv' := [(1, .int 0), (0, .ref a)]) hx hb dX4_go__1 rfl hl (by decide) rfl (fun ls hl => ?_)
  have Kih : ∀ (k i : Nat), i ≤ n → n + 1 ≤ i + k → ∀ (Ea : Nat → va_E) (H : Heap) (locs : List Loc) (ls : Array Slot), (st_at cI ad Ea sb T (m_mid w p g nw T str S i)) → (m_at cI ad Ea th w p g nw n str) → (∀ q : Nat, (q < sb ∨ sb + 11 ≤ q) → Ea q = E q) → fI D (fA z) s.heap ad L Ea H locs → lv_has ls 2 [(0, .ref a), (1, .int (nI i))] → W pr l e ({ frames := 3, cells := 0, slots := 0, locals := 69 } : Room) s m args below meth c H locs 0 0 Q (F0 m 2 ls []) := by
    intro k
    induction k with
    | zero => intro i h1 h2; exact absurd h2 (by omega)
    | succ k ih =>
      intro i hi1i hi2i Ea H locs ls hS hM hfr hI hl
      refine lv_iload_n hx hb dX4_go__2 rfl (lv_at hl 1 rfl) ?_
      refine lv_aload_n hx hb dX4_go__3 rfl (lv_at hl 0 rfl) ?_
      refine f_get (ci := 4) (v := .ref (ad 50)) (C := RX4) (T := TX4) (N := 12) hx hb hts (by decide +kernel) hown hG.1 hI ha (hSm _ (by omega) (by omega)) (hS.1) rfl 11 (by decide) (hts (.fieldLink RX4 3 "CoracleRaceModel$State" "this$0" "LCoracleRaceModel;") (by decide +kernel)) rfl dX4_go__4 ?_
      refine f_getN (ci := 5) (v := .int (nI n)) (C := RX5) (T := TX5) (N := 9) hx hb hts (by decide +kernel) hown hG.1 hI rfl (hMm _ (by omega) (by omega)) (hM.1) rfl 5 (by decide) (hG.2.1 (.fieldLinkNest RX4 112 RX5 "boats" "I" RX5) (by simp [fNest])) rfl dX4_go__7 ?_
      refine lv_icmp_ge (tgt := 32) hx hb dX4_go__10 (by decide) (fun c_10 => ?_) (fun c_10 => ?_)
      · have n_10 := i_nlt.mpr c_10
        have hi : i = n := by have := (nI_leI (by omega) (by omega)).mp c_10; omega
        rw [hi] at hS
        refine lv_aload_n hx hb dX4_go__32 rfl (lv_at hl 0 rfl) ?_
        refine lv_dup hx hb dX4_go__33 rfl ?_
        refine f_get (ci := 4) (v := .int (nI T)) (C := RX4) (T := TX4) (N := 12) hx hb hts (by decide +kernel) hown hG.1 hI ha (hSm _ (by omega) (by omega)) (hS.1) rfl 0 (by decide) (hts (.fieldLink RX4 52 "CoracleRaceModel$State" "tick" "I") (by decide +kernel)) rfl dX4_go__34 ?_
        refine lv_iconst (v := 1) hx hb dX4_go__37 (by decide) ?_
        refine lv_iadd hx hb dX4_go__38 ?_
        refine lv_topi (fun tv etv => ?_)
        have etv : tv = nI (T + 1) := etv.trans (nI_1 T)
        subst etv
        refine f_put (ci := 4) (v := .int (nI (T + 1))) (C := RX4) (T := TX4) (N := 12) hx hb hts (by decide +kernel) tyX4 tyX4_ok nmX4 hown hG.1 hI ha (hSm _ (by omega) (by omega)) (hS.1) rfl 0 (by decide) (hts (.fieldLink RX4 52 "CoracleRaceModel$State" "tick" "I") (by decide +kernel)) rfl rfl rfl (Nat.le_of_ble_eq_true rfl) dX4_go__39 (fun E1 H locs hE2 hn3 hI => ?_)
        have hS := hS.tick (T1 := T + 1) hE2 (fun q hq => hn3 q hq)
        have hfr : ∀ q : Nat, (q < sb ∨ sb + 11 ≤ q) → E1 q = E q := fun q hq => (hn3 q (by omega)).trans (hfr q hq)
        exact f_retv hQ hx hb hr hlocks hI.2.2 (by omega) (by omega) dX4_go__42 E1 (fB_of hI) (⟨hS, hfr⟩)
      · have n_10 := c_10
        have c_10 := i_nle.mp n_10
        have hi : i < n := (nI_ltI (by omega) (by omega)).mp c_10
        have hcl : (nI i).toNatClampNeg = i := nI_clamp (by omega)
        refine lv_aload_n hx hb dX4_go__13 rfl (lv_at hl 0 rfl) ?_
        refine lv_iload_n hx hb dX4_go__14 rfl (lv_at hl 1 rfl) ?_
        refine f_calli1 (va_runV (As := [.int (nI i)]) (rest := []) ⟨hx, hb, hml, hown, hts⟩ (m_X4_isIn l ha h60 hSm hTb (u := i) (by omega) hS) (cwV 1 hts gX4_go__X4_isIn rfl rfl rfl (by decide +kernel) ⟨Nat.le_of_ble_eq_true rfl, Nat.le_of_ble_eq_true rfl⟩) (fPre_ofV hG hI ha (hSm _ (by omega) (by omega)) (hS.1) rfl rfl) rfl rfl hl.1 rfl (lv_room (Nat.le_of_ble_eq_true rfl)) dX4_go__15 ⟨Nat.le_of_ble_eq_true rfl, Nat.le_of_ble_eq_true rfl⟩) hI (fun r4 E5 H locs hp hI => ?_)
        obtain ⟨he, hq⟩ := hp
        rw [hq] at hI
        refine lv_if_ne (tgt := 26) hx hb dX4_go__18 (by decide) (fun c_18 => ?_) (fun c_18 => ?_)
        · have p_18 := bl_t he c_18
          refine lv_iinc (v := (nI (i + 1))) (lv' := [(1, .int (nI (i + 1))), (0, .ref a)]) hx hb dX4_go__26 hl (k := 1) rfl (nI_1 i) (by decide) rfl (fun ls hl => ?_)
          refine lv_goto (tgt := 2) hx hb dX4_go__29 (by decide) ?_
          have hS : st_at cI ad Ea sb T (m_mid w p g nw T str S (i + 1)) := by rw [show (m_mid w p g nw T str S (i + 1)) = (m_mid w p g nw T str S i) from if_neg p_18]; exact hS
          exact ih (i + 1) (by omega) (by omega) Ea H locs ls hS hM hfr hI (lv_sub hl [1, 0] rfl)
        · have p_18 := bl_f he c_18
          refine lv_aload_n hx hb dX4_go__21 rfl (lv_at hl 0 rfl) ?_
          refine lv_iload_n hx hb dX4_go__22 rfl (lv_at hl 1 rfl) ?_
          have hoi : okb (mb (m_mid w p g nw T str S i) str i) := by rw [(m_mid_at hrv hTb i (fun q hq => hok q (by omega))).1 i (Nat.le_refl _)]; exact hok i hi
          obtain ⟨e1, e2, e3⟩ := okb_len (hok i hi)
          have hS : st_at cI ad Ea sb T (su (m_mid w p g nw T str S i) i (mb (m_mid w p g nw T str S i) str i)) := by rw [su_mb]; exact hS
          refine f_callv1 (va_runV (As := [.int (nI i)]) (rest := []) ⟨hx, hb, hml, hown, hts⟩ (m_X4_go l ha h60 hSm hTb (u := i) (by omega) (bf := mb (m_mid w p g nw T str S i) str i) hS (len := (S 8 i).toNatClampNeg) e2 e3 (by rw [(m_mid_89 i).1]; exact e1) hMm hM hNW hN6 rfl hoi.2.2.2.1 hoi.2.2.2.2.1) (cwV 1 hts gX4_go__X4_go rfl rfl rfl (by decide +kernel) ⟨Nat.le_of_ble_eq_true rfl, Nat.le_of_ble_eq_true rfl⟩) (fPre_ofV hG hI ha (hSm _ (by omega) (by omega)) (hS.1) rfl rfl) rfl rfl hl.1 rfl (lv_room (Nat.le_of_ble_eq_true rfl)) dX4_go__23 ⟨Nat.le_of_ble_eq_true rfl, Nat.le_of_ble_eq_true rfl⟩) hI (fun E6 H locs hp hI => ?_)
          obtain ⟨hS, hn9⟩ := hp
          rw [(m_mid_89 i).2] at hS
          have hM := hM.kept (fun q h1 h2 => hn9 q (by omega))
          have hfr : ∀ q : Nat, (q < sb ∨ sb + 11 ≤ q) → E6 q = E q := fun q hq => (hn9 q hq).trans (hfr q hq)
          refine lv_iinc (v := (nI (i + 1))) (lv' := [(1, .int (nI (i + 1))), (0, .ref a)]) hx hb dX4_go__26 hl (k := 1) rfl (nI_1 i) (by decide) rfl (fun ls hl => ?_)
          refine lv_goto (tgt := 2) hx hb dX4_go__29 (by decide) ?_
          have hS : st_at cI ad E6 sb T (m_mid w p g nw T str S (i + 1)) := by rw [show (m_mid w p g nw T str S (i + 1)) = _ from if_pos (Decidable.not_not.mp p_18)]; exact hS
          exact ih (i + 1) (by omega) (by omega) E6 H locs ls hS hM hfr hI (lv_sub hl [1, 0] rfl)
  exact Kih (n + 1) 0 (Nat.zero_le _) (by omega) E H locs ls hS hM (fun _ _ => rfl) hI (lv_sub hl [1, 0] rfl)

theorem m1_lt {x : Int32} (h : 0 ≤ x) : -1 < x := by
  rw [fa_le] at h
  rw [fa_lt]
  have e0 : (0 : Int32).toInt = 0 := by decide
  have e1 : (-1 : Int32).toInt = -1 := by decide
  omega
theorem lead_m1 {B : Nat → Nat → Int32} {i : Nat} (h : ∀ q, q < i → 0 ≤ B q 3) (hi : i < 2 ^ 31) (h1 : (p_lead B i).1 = -1) : (p_lead B i).2 = -1 := by
  rcases lead_at h with a | ⟨q, hq, a⟩
  · exact a.2
  · exact absurd (a.1.symm.trans h1) (nI_m1 (by omega))
set_option maxHeartbeats 4000000 in
set_option maxRecDepth 100000 in
theorem m_X4_counted (l : Launch) {D : va_G} {cI cJ cB : ClassId} {t0 z : Nat} {tx ad : Nat → Nat} {L : List Nat} {E : Nat → va_E} {sb a : Nat} (ha : ad sb = a) (h60 : 60 ≤ sb) (hSm : ∀ k, sb ≤ k → k < sb + 11 → k ∈ L) {T : Nat} (hTb : T < 2 ^ 31) {S : Nat → Nat → Int32} (hS : st_at cI ad E sb T S) (hMm : ∀ k, 50 ≤ k → k < 55 → k ∈ L) {th : Int32} {w p g : Nat → Int32} {nw n : Nat} {str : Nat → Int32} (hM : m_at cI ad E th w p g nw n str) (hNW : nw ≤ 6) (hN6 : n ≤ 6) (hpl : ∀ q, q < n → 0 ≤ mb S str q 3) (h99 : 99 ∉ L) (h99s : sb + 11 ≤ 99) (v : Nat) (hv : v ≤ 6) : Met l yX4_counted wsX4_counted ({ frames := 2, cells := 1, slots := 7, locals := 43 } : Room) (va_Pc [.ref a, .int (nI v)] (fPre D cI cJ cB t0 z tx ad L E)) (va_Qi (fun (r : Int32) (E1 : Nat → va_E) => r = p_cnt nw n T (mb S str) v ∧ E1 = E) (fB D z ad L) (fA z)) 1 7 (fA z) := by
  refine f_ofW (cc := cX4_counted) (maxL := 6) (ret := some .int) (by decide) rfl (Nat.le_of_ble_eq_true rfl) ?_
  intro pr e s m args below meth c Q hx hb hr hml hts hown hlocks hin hG H locs hI hQ ls hl
  have hl : lv_has ls 6 [(0, .ref a), (1, .int (nI v))] := hl
  refine lv_iconst (v := 0) hx hb dX4_counted_0 (by decide) ?_
  refine lv_istore_n (lv' := [(2, .int 0), (0, .ref a), (1, .int (nI v))]) hx hb dX4_counted_1 rfl hl (by decide) rfl (fun ls hl => ?_)
  refine lv_iconst (v := -1) hx hb dX4_counted_2 (by decide) ?_
  refine lv_istore_n (lv' := [(3, .int (-1)), (2, .int 0), (0, .ref a), (1, .int (nI v))]) hx hb dX4_counted_3 rfl hl (by decide) rfl (fun ls hl => ?_)
  refine lv_iconst (v := -1) hx hb dX4_counted_4 (by decide) ?_
  refine lv_istore (lv' := [(4, .int (-1)), (3, .int (-1)), (2, .int 0), (0, .ref a), (1, .int (nI v))]) hx hb dX4_counted_5 hl (by decide) rfl (fun ls hl => ?_)
  refine lv_iconst (v := 0) hx hb dX4_counted_7 (by decide) ?_
  refine lv_istore (lv' := [(5, .int 0), (4, .int (-1)), (3, .int (-1)), (2, .int 0), (0, .ref a), (1, .int (nI v))]) hx hb dX4_counted_8 hl (by decide) rfl (fun ls hl => ?_)
  have K : ∀ (k i : Nat), i ≤ n → n + 1 ≤ i + k → ∀ (H : Heap) (locs : List Loc) (ls : Array Slot), fI D (fA z) s.heap ad L E H locs → lv_has ls 6 [(0, .ref a), (1, .int (nI v)), (2, .int (p_fsum (mb S str) i)), (3, .int ((p_lead (mb S str) i).1)), (4, .int ((p_win (mb S str) i).1)), (5, .int (nI i))] → W pr l e ({ frames := 2, cells := 1, slots := 7, locals := 43 } : Room) s m args below meth c H locs 0 0 Q (F0 m 10 ls []) := by
    intro k
    induction k with
    | zero => intro i h1 h2; exact absurd h2 (by omega)
    | succ k ih =>
      intro i hi1 hi2 H locs ls hI hl
      refine lv_iload hx hb dX4_counted_10 (lv_at hl 5 rfl) ?_
      refine lv_aload_n hx hb dX4_counted_12 rfl (lv_at hl 0 rfl) ?_
      refine f_get (ci := 4) (v := .ref (ad 50)) (C := RX4) (T := TX4) (N := 12) hx hb hts (by decide +kernel) hown hG.1 hI ha (hSm _ (by omega) (by omega)) (hS.1) rfl 11 (by decide) (hts (.fieldLink RX4 3 "CoracleRaceModel$State" "this$0" "LCoracleRaceModel;") (by decide +kernel)) rfl dX4_counted_13 ?_
      refine f_getN (ci := 5) (v := .int (nI n)) (C := RX5) (T := TX5) (N := 9) hx hb hts (by decide +kernel) hown hG.1 hI rfl (hMm _ (by omega) (by omega)) (hM.1) rfl 5 (by decide) (hG.2.1 (.fieldLinkNest RX4 112 RX5 "boats" "I" RX5) (by simp [fNest])) rfl dX4_counted_16 ?_
      refine lv_icmp_ge (tgt := 108) hx hb dX4_counted_19 (by decide) (fun c_19 => ?_) (fun c_19 => ?_)
      · have n_19 := i_nlt.mpr c_19
        have hi : i = n := by have := (nI_leI (by omega) (by omega)).mp c_19; omega
        refine lv_bipush (v := 7) hx hb dX4_counted_108 (by decide) ?_
        rw [hi] at hl
        refine f_newi (k := 99) (N := 7) hx hb (hts (.arrayClass .int) (by decide +kernel)) hG.1 hI (fG_A hG) (by decide) (by decide) (by decide) h99 (Nat.le_of_ble_eq_true rfl) (Nat.le_of_ble_eq_true rfl) dX4_counted_110 (fun aN ad1 E1 H hadk hadr hE9 hEr hI => ?_)
        have hS := (hS.kept (fun q h1 h2 => hEr q (by omega))).ad h99s hadr
        have hM := (hM.kept (fun q h1 h2 => hEr q (by omega))).ad hadr
        have ha1 : ad1 sb = a := (hadr sb (by omega)).trans ha
        have hSm : ∀ k, sb ≤ k → k < sb + 11 → k ∈ L ++ [99] := fun k h1 h2 => List.mem_append_left _ (hSm k h1 h2)
        have hMm : ∀ k, 50 ≤ k → k < 55 → k ∈ L ++ [99] := fun k h1 h2 => List.mem_append_left _ (hMm k h1 h2)
        refine lv_dup hx hb dX4_counted_112 rfl ?_
        refine lv_iconst (v := 0) hx hb dX4_counted_113 (by decide) ?_
        refine lv_aload_n hx hb dX4_counted_114 rfl (lv_at hl 0 rfl) ?_
        refine f_get (ci := 4) (v := .int (nI T)) (C := RX4) (T := TX4) (N := 12) hx hb hts (by decide +kernel) hown hG.1 hI ha1 (hSm _ (by omega) (by omega)) (hS.1) rfl 0 (by decide) (hts (.fieldLink RX4 52 "CoracleRaceModel$State" "tick" "I") (by decide +kernel)) rfl dX4_counted_115 ?_
        refine f_iast hx hb hG.1 hI hadk (List.mem_append_right _ (List.mem_singleton.mpr rfl)) hE9 (vp_in_iff.mpr ⟨by decide, by decide⟩) dX4_counted_118 (fun E1 H locs hE2 hn3 hI => ?_)
        have hE9 : E1 99 = .inl (cI, 7, .inl (upd (fun _ => 0) 0 (nI T))) := hE2
        have hS := hS.kept (fun q h1 h2 => hn3 q (by omega))
        have hM := hM.kept (fun q h1 h2 => hn3 q (by omega))
        have hEr : ∀ q : Nat, q ≠ 99 → E1 q = E q := fun q hq => (hn3 q hq).trans (hEr q hq)
        refine lv_dup hx hb dX4_counted_119 rfl ?_
        refine lv_iconst (v := 1) hx hb dX4_counted_120 (by decide) ?_
        refine lv_aload_n hx hb dX4_counted_121 rfl (lv_at hl 0 rfl) ?_
        refine f_get (ci := 4) (v := .ref (ad1 50)) (C := RX4) (T := TX4) (N := 12) hx hb hts (by decide +kernel) hown hG.1 hI ha1 (hSm _ (by omega) (by omega)) (hS.1) rfl 11 (by decide) (hts (.fieldLink RX4 3 "CoracleRaceModel$State" "this$0" "LCoracleRaceModel;") (by decide +kernel)) rfl dX4_counted_122 ?_
        refine f_getN (ci := 5) (v := .int (nI n)) (C := RX5) (T := TX5) (N := 9) hx hb hts (by decide +kernel) hown hG.1 hI rfl (hMm _ (by omega) (by omega)) (hM.1) rfl 5 (by decide) (hG.2.1 (.fieldLinkNest RX4 112 RX5 "boats" "I" RX5) (by simp [fNest])) rfl dX4_counted_125 ?_
        refine f_iast hx hb hG.1 hI hadk (List.mem_append_right _ (List.mem_singleton.mpr rfl)) hE9 (vp_in_iff.mpr ⟨by decide, by decide⟩) dX4_counted_128 (fun E4 H locs hE5 hn6 hI => ?_)
        have hE9 : E4 99 = .inl (cI, 7, .inl (upd (upd (fun _ => 0) 0 (nI T)) 1 (nI n))) := hE5
        have hS := hS.kept (fun q h1 h2 => hn6 q (by omega))
        have hM := hM.kept (fun q h1 h2 => hn6 q (by omega))
        have hEr : ∀ q : Nat, q ≠ 99 → E4 q = E q := fun q hq => (hn6 q hq).trans (hEr q hq)
        refine lv_dup hx hb dX4_counted_129 rfl ?_
        refine lv_iconst (v := 2) hx hb dX4_counted_130 (by decide) ?_
        refine lv_aload_n hx hb dX4_counted_131 rfl (lv_at hl 0 rfl) ?_
        refine f_get (ci := 4) (v := .ref (ad1 50)) (C := RX4) (T := TX4) (N := 12) hx hb hts (by decide +kernel) hown hG.1 hI ha1 (hSm _ (by omega) (by omega)) (hS.1) rfl 11 (by decide) (hts (.fieldLink RX4 3 "CoracleRaceModel$State" "this$0" "LCoracleRaceModel;") (by decide +kernel)) rfl dX4_counted_132 ?_
        refine f_getN (ci := 5) (v := .int (nI nw)) (C := RX5) (T := TX5) (N := 9) hx hb hts (by decide +kernel) hown hG.1 hI rfl (hMm _ (by omega) (by omega)) (hM.1) rfl 2 (by decide) (hG.2.1 (.fieldLinkNest RX4 86 RX5 "weirs" "I" RX5) (by simp [fNest])) rfl dX4_counted_135 ?_
        refine f_iast hx hb hG.1 hI hadk (List.mem_append_right _ (List.mem_singleton.mpr rfl)) hE9 (vp_in_iff.mpr ⟨by decide, by decide⟩) dX4_counted_138 (fun E7 H locs hE8 hn9 hI => ?_)
        have hE9 : E7 99 = .inl (cI, 7, .inl (upd (upd (upd (fun _ => 0) 0 (nI T)) 1 (nI n)) 2 (nI nw))) := hE8
        have hS := hS.kept (fun q h1 h2 => hn9 q (by omega))
        have hM := hM.kept (fun q h1 h2 => hn9 q (by omega))
        have hEr : ∀ q : Nat, q ≠ 99 → E7 q = E q := fun q hq => (hn9 q hq).trans (hEr q hq)
        refine lv_dup hx hb dX4_counted_139 rfl ?_
        refine lv_iconst (v := 3) hx hb dX4_counted_140 (by decide) ?_
        refine lv_aload_n hx hb dX4_counted_141 rfl (lv_at hl 0 rfl) ?_
        refine f_calli1 (va_runV (As := []) (rest := [.int 3, .ref aN, .ref aN]) ⟨hx, hb, hml, hown, hts⟩ (m_X4_in l ha1 h60 hSm hTb hS hMm hM hNW hN6) (cwV 0 hts gX4_counted_X4_in rfl rfl rfl (by decide +kernel) ⟨Nat.le_of_ble_eq_true rfl, Nat.le_of_ble_eq_true rfl⟩) (fPre_ofV hG hI ha1 (hSm _ (by omega) (by omega)) (hS.1) rfl rfl) rfl rfl hl.1 rfl (lv_room (Nat.le_of_ble_eq_true rfl)) dX4_counted_142 ⟨Nat.le_of_ble_eq_true rfl, Nat.le_of_ble_eq_true rfl⟩) hI (fun r10 E11 H locs hp hI => ?_)
        obtain ⟨he, hq⟩ := hp
        rw [hq] at hI
        have he : r10 = (p_in (mb S str) n) := he
        subst he
        refine f_iast hx hb hG.1 hI hadk (List.mem_append_right _ (List.mem_singleton.mpr rfl)) hE9 (vp_in_iff.mpr ⟨by decide, by decide⟩) dX4_counted_145 (fun E12 H locs hE13 hn14 hI => ?_)
        have hE9 : E12 99 = .inl (cI, 7, .inl (upd (upd (upd (upd (fun _ => 0) 0 (nI T)) 1 (nI n)) 2 (nI nw)) 3 (p_in (mb S str) n))) := hE13
        have hS := hS.kept (fun q h1 h2 => hn14 q (by omega))
        have hM := hM.kept (fun q h1 h2 => hn14 q (by omega))
        have hEr : ∀ q : Nat, q ≠ 99 → E12 q = E q := fun q hq => (hn14 q hq).trans (hEr q hq)
        refine lv_dup hx hb dX4_counted_146 rfl ?_
        refine lv_iconst (v := 4) hx hb dX4_counted_147 (by decide) ?_
        refine lv_iload_n hx hb dX4_counted_148 rfl (lv_at hl 2 rfl) ?_
        refine f_iast hx hb hG.1 hI hadk (List.mem_append_right _ (List.mem_singleton.mpr rfl)) hE9 (vp_in_iff.mpr ⟨by decide, by decide⟩) dX4_counted_149 (fun E15 H locs hE16 hn17 hI => ?_)
        have hE9 : E15 99 = .inl (cI, 7, .inl (upd (upd (upd (upd (upd (fun _ => 0) 0 (nI T)) 1 (nI n)) 2 (nI nw)) 3 (p_in (mb S str) n)) 4 (p_fsum (mb S str) n))) := hE16
        have hS := hS.kept (fun q h1 h2 => hn17 q (by omega))
        have hM := hM.kept (fun q h1 h2 => hn17 q (by omega))
        have hEr : ∀ q : Nat, q ≠ 99 → E15 q = E q := fun q hq => (hn17 q hq).trans (hEr q hq)
        refine lv_dup hx hb dX4_counted_150 rfl ?_
        refine lv_iconst (v := 5) hx hb dX4_counted_151 (by decide) ?_
        refine lv_iload_n hx hb dX4_counted_152 rfl (lv_at hl 3 rfl) ?_
        refine f_iast hx hb hG.1 hI hadk (List.mem_append_right _ (List.mem_singleton.mpr rfl)) hE9 (vp_in_iff.mpr ⟨by decide, by decide⟩) dX4_counted_153 (fun E18 H locs hE19 hn20 hI => ?_)
        have hE9 : E18 99 = .inl (cI, 7, .inl (upd (upd (upd (upd (upd (upd (fun _ => 0) 0 (nI T)) 1 (nI n)) 2 (nI nw)) 3 (p_in (mb S str) n)) 4 (p_fsum (mb S str) n)) 5 ((p_lead (mb S str) n).1))) := hE19
        have hS := hS.kept (fun q h1 h2 => hn20 q (by omega))
        have hM := hM.kept (fun q h1 h2 => hn20 q (by omega))
        have hEr : ∀ q : Nat, q ≠ 99 → E18 q = E q := fun q hq => (hn20 q hq).trans (hEr q hq)
        refine lv_dup hx hb dX4_counted_154 rfl ?_
        refine lv_bipush (v := 6) hx hb dX4_counted_155 (by decide) ?_
        refine lv_iload hx hb dX4_counted_157 (lv_at hl 4 rfl) ?_
        refine f_iast hx hb hG.1 hI hadk (List.mem_append_right _ (List.mem_singleton.mpr rfl)) hE9 (vp_in_iff.mpr ⟨by decide, by decide⟩) dX4_counted_159 (fun E21 H locs hE22 hn23 hI => ?_)
        have hE9 : E21 99 = .inl (cI, 7, .inl (upd (upd (upd (upd (upd (upd (upd (fun _ => 0) 0 (nI T)) 1 (nI n)) 2 (nI nw)) 3 (p_in (mb S str) n)) 4 (p_fsum (mb S str) n)) 5 ((p_lead (mb S str) n).1)) 6 ((p_win (mb S str) n).1))) := hE22
        have hS := hS.kept (fun q h1 h2 => hn23 q (by omega))
        have hM := hM.kept (fun q h1 h2 => hn23 q (by omega))
        have hEr : ∀ q : Nat, q ≠ 99 → E21 q = E q := fun q hq => (hn23 q hq).trans (hEr q hq)
        refine lv_astore (lv' := [(5, .ref aN), (0, .ref a), (1, .int (nI v)), (2, .int (p_fsum (mb S str) n)), (3, .int ((p_lead (mb S str) n).1)), (4, .int ((p_win (mb S str) n).1))]) hx hb dX4_counted_160 hl (by decide) rfl (fun ls hl => ?_)
        refine lv_aload hx hb dX4_counted_162 (lv_at hl 0 rfl) ?_
        refine lv_iload_n hx hb dX4_counted_164 rfl (lv_at hl 2 rfl) ?_
        refine f_iald hx hb hG.1 hI hadk (List.mem_append_right _ (List.mem_singleton.mpr rfl)) hE9 (vp_in_nI (by omega) (by omega)) dX4_counted_165 ?_
        exact f_reti hQ hx hb hr hlocks hI.2.2 (by omega) (by omega) dX4_counted_166 E (fB_of (fI_sub hI (fun q hq => hadr q (fun e => h99 (e ▸ hq))) (fun q hq => hEr q (fun e => h99 (e ▸ hq))))) (⟨by rw [nI_clamp (by omega)]; rcases (show v = 0 ∨ v = 1 ∨ v = 2 ∨ v = 3 ∨ v = 4 ∨ v = 5 ∨ v = 6 by omega) with rfl | rfl | rfl | rfl | rfl | rfl | rfl <;> rfl, rfl⟩)
      · have n_19 := c_19
        have c_19 := i_nle.mp n_19
        have hi : i < n := (nI_ltI (by omega) (by omega)).mp c_19
        have hcl : (nI i).toNatClampNeg = i := nI_clamp (by omega)
        refine lv_iload_n hx hb dX4_counted_22 rfl (lv_at hl 2 rfl) ?_
        refine lv_aload_n hx hb dX4_counted_23 rfl (lv_at hl 0 rfl) ?_
        refine f_get (ci := 4) (v := .ref (ad (sb + 1 + 4))) (C := RX4) (T := TX4) (N := 12) hx hb hts (by decide +kernel) hown hG.1 hI ha (hSm _ (by omega) (by omega)) (hS.1) rfl 5 (by decide) (hts (.fieldLink RX4 28 "CoracleRaceModel$State" "fouls" "[I") (by decide +kernel)) rfl dX4_counted_24 ?_
        refine lv_iload hx hb dX4_counted_27 (lv_at hl 5 rfl) ?_
        refine f_iald hx hb hG.1 hI rfl (hSm _ (by omega) (by omega)) (hS.2 4 (by decide)) (vp_in_nI (by omega) (by omega)) dX4_counted_29 ?_
        rw [hcl]
        refine lv_iadd hx hb dX4_counted_30 ?_
        refine lv_istore_n (lv' := [(2, .int ((p_fsum (mb S str) i) + ((S 4) i))), (0, .ref a), (1, .int (nI v)), (3, .int ((p_lead (mb S str) i).1)), (4, .int ((p_win (mb S str) i).1)), (5, .int (nI i))]) hx hb dX4_counted_31 rfl hl (by decide) rfl (fun ls hl => ?_)
        refine lv_aload_n hx hb dX4_counted_32 rfl (lv_at hl 1 rfl) ?_
        refine lv_iload hx hb dX4_counted_33 (lv_at hl 5 rfl) ?_
        refine f_calli1 (va_runV (As := [.int (nI i)]) (rest := []) ⟨hx, hb, hml, hown, hts⟩ (m_X4_isIn l ha h60 hSm hTb (u := i) (by omega) hS) (cwV 1 hts gX4_counted_X4_isIn rfl rfl rfl (by decide +kernel) ⟨Nat.le_of_ble_eq_true rfl, Nat.le_of_ble_eq_true rfl⟩) (fPre_ofV hG hI ha (hSm _ (by omega) (by omega)) (hS.1) rfl rfl) rfl rfl hl.1 rfl (lv_room (Nat.le_of_ble_eq_true rfl)) dX4_counted_35 ⟨Nat.le_of_ble_eq_true rfl, Nat.le_of_ble_eq_true rfl⟩) hI (fun r24 E25 H locs hp hI => ?_)
        obtain ⟨he, hq⟩ := hp
        rw [hq] at hI
        refine lv_if_eq (tgt := 74) hx hb dX4_counted_38 (by decide) (fun c_38 => ?_) (fun c_38 => ?_)
        · have p_38 := bl_f he c_38
          have q_38 := Decidable.not_not.mp p_38
          refine lv_iload_n hx hb dX4_counted_74 rfl (lv_at hl 3 rfl) ?_
          refine lv_iconst (v := -1) hx hb dX4_counted_75 (by decide) ?_
          refine lv_icmp_eq (tgt := 95) hx hb dX4_counted_76 (by decide) (fun c_76 => ?_) (fun c_76 => ?_)
          · refine lv_iload hx hb dX4_counted_95 (lv_at hl 5 rfl) ?_
            refine lv_goto (tgt := 101) hx hb dX4_counted_97 (by decide) ?_
            refine lv_istore_n (lv' := [(3, .int (nI i)), (2, .int ((p_fsum (mb S str) i) + ((S 4) i))), (0, .ref a), (1, .int (nI v)), (4, .int ((p_win (mb S str) i).1)), (5, .int (nI i))]) hx hb dX4_counted_101 rfl hl (by decide) rfl (fun ls hl => ?_)
            refine lv_iinc (v := (nI (i + 1))) (lv' := [(5, .int (nI (i + 1))), (3, .int (nI i)), (2, .int ((p_fsum (mb S str) i) + ((S 4) i))), (0, .ref a), (1, .int (nI v)), (4, .int ((p_win (mb S str) i).1))]) hx hb dX4_counted_102 hl (k := 5) rfl (nI_1 i) (by decide) rfl (fun ls hl => ?_)
            refine lv_goto (tgt := 10) hx hb dX4_counted_105 (by decide) ?_
            refine ih (i + 1) (by omega) (by omega) H locs ls hI ?_
            have hb8 := mb_89 (S := S) (str := str) i
            have hz : mb S str i 8 = 0 := hb8.mpr q_38
            have eW : (p_win (mb S str) (i + 1)).1 = (p_win (mb S str) i).1 := by rw [p_win, if_neg (fun q => q.1 hz)]
            have eL : (p_lead (mb S str) (i + 1)).1 = nI i := by rw [p_lead, if_pos ⟨hz, by rw [lead_m1 (fun q hq => hpl q (by omega)) (by omega) c_76]; exact m1_lt (hpl i hi)⟩]
            rw [eL, eW, show p_fsum (mb S str) (i + 1) = p_fsum (mb S str) i + S 4 i from rfl]
            exact lv_sub hl [3, 4, 2, 1, 5, 0] rfl
          · obtain ⟨q, hq, hw1, hw2⟩ := (lead_at (B := mb S str) (i := i) (fun q hq => hpl q (by omega))).resolve_left (fun a => c_76 a.1)
            rw [hw1] at hl
            have hclq : (nI q).toNatClampNeg = q := nI_clamp (by omega)
            refine lv_aload_n hx hb dX4_counted_79 rfl (lv_at hl 1 rfl) ?_
            refine f_get (ci := 4) (v := .ref (ad (sb + 1 + 0))) (C := RX4) (T := TX4) (N := 12) hx hb hts (by decide +kernel) hown hG.1 hI ha (hSm _ (by omega) (by omega)) (hS.1) rfl 1 (by decide) (hts (.fieldLink RX4 15 "CoracleRaceModel$State" "place" "[I") (by decide +kernel)) rfl dX4_counted_80 ?_
            refine lv_iload hx hb dX4_counted_83 (lv_at hl 5 rfl) ?_
            refine f_iald hx hb hG.1 hI rfl (hSm _ (by omega) (by omega)) (hS.2 0 (by decide)) (vp_in_nI (by omega) (by omega)) dX4_counted_85 ?_
            rw [hcl]
            refine lv_aload_n hx hb dX4_counted_86 rfl (lv_at hl 1 rfl) ?_
            refine f_get (ci := 4) (v := .ref (ad (sb + 1 + 0))) (C := RX4) (T := TX4) (N := 12) hx hb hts (by decide +kernel) hown hG.1 hI ha (hSm _ (by omega) (by omega)) (hS.1) rfl 1 (by decide) (hts (.fieldLink RX4 15 "CoracleRaceModel$State" "place" "[I") (by decide +kernel)) rfl dX4_counted_87 ?_
            refine lv_iload_n hx hb dX4_counted_90 rfl (lv_at hl 3 rfl) ?_
            refine f_iald hx hb hG.1 hI rfl (hSm _ (by omega) (by omega)) (hS.2 0 (by decide)) (vp_in_nI (by omega) (by omega)) dX4_counted_91 ?_
            rw [hclq]
            refine lv_icmp_le (tgt := 100) hx hb dX4_counted_92 (by decide) (fun c_92 => ?_) (fun c_92 => ?_)
            · have n_92 := i_nlt.mpr c_92
              refine lv_iload_n hx hb dX4_counted_100 rfl (lv_at hl 3 rfl) ?_
              refine lv_istore_n (lv' := [(3, .int (nI q)), (2, .int ((p_fsum (mb S str) i) + ((S 4) i))), (0, .ref a), (1, .int (nI v)), (4, .int ((p_win (mb S str) i).1)), (5, .int (nI i))]) hx hb dX4_counted_101 rfl hl (by decide) rfl (fun ls hl => ?_)
              refine lv_iinc (v := (nI (i + 1))) (lv' := [(5, .int (nI (i + 1))), (3, .int (nI q)), (2, .int ((p_fsum (mb S str) i) + ((S 4) i))), (0, .ref a), (1, .int (nI v)), (4, .int ((p_win (mb S str) i).1))]) hx hb dX4_counted_102 hl (k := 5) rfl (nI_1 i) (by decide) rfl (fun ls hl => ?_)
              refine lv_goto (tgt := 10) hx hb dX4_counted_105 (by decide) ?_
              refine ih (i + 1) (by omega) (by omega) H locs ls hI ?_
              have hb8 := mb_89 (S := S) (str := str) i
              have hz : mb S str i 8 = 0 := hb8.mpr q_38
              have eW : (p_win (mb S str) (i + 1)).1 = (p_win (mb S str) i).1 := by rw [p_win, if_neg (fun q => q.1 hz)]
              have eL : (p_lead (mb S str) (i + 1)).1 = nI q := by rw [p_lead, if_neg (fun a => n_92 (by have b := a.2; rw [hw2] at b; exact b))]; exact hw1
              rw [eL, eW, show p_fsum (mb S str) (i + 1) = p_fsum (mb S str) i + S 4 i from rfl]
              exact lv_sub hl [3, 4, 2, 1, 5, 0] rfl
            · have n_92 := c_92
              have c_92 := i_nle.mp n_92
              refine lv_iload hx hb dX4_counted_95 (lv_at hl 5 rfl) ?_
              refine lv_goto (tgt := 101) hx hb dX4_counted_97 (by decide) ?_
              refine lv_istore_n (lv' := [(3, .int (nI i)), (2, .int ((p_fsum (mb S str) i) + ((S 4) i))), (0, .ref a), (1, .int (nI v)), (4, .int ((p_win (mb S str) i).1)), (5, .int (nI i))]) hx hb dX4_counted_101 rfl hl (by decide) rfl (fun ls hl => ?_)
              refine lv_iinc (v := (nI (i + 1))) (lv' := [(5, .int (nI (i + 1))), (3, .int (nI i)), (2, .int ((p_fsum (mb S str) i) + ((S 4) i))), (0, .ref a), (1, .int (nI v)), (4, .int ((p_win (mb S str) i).1))]) hx hb dX4_counted_102 hl (k := 5) rfl (nI_1 i) (by decide) rfl (fun ls hl => ?_)
              refine lv_goto (tgt := 10) hx hb dX4_counted_105 (by decide) ?_
              refine ih (i + 1) (by omega) (by omega) H locs ls hI ?_
              have hb8 := mb_89 (S := S) (str := str) i
              have hz : mb S str i 8 = 0 := hb8.mpr q_38
              have eW : (p_win (mb S str) (i + 1)).1 = (p_win (mb S str) i).1 := by rw [p_win, if_neg (fun q => q.1 hz)]
              have eL : (p_lead (mb S str) (i + 1)).1 = nI i := by rw [p_lead, if_pos ⟨hz, by rw [hw2]; exact c_92⟩]
              rw [eL, eW, show p_fsum (mb S str) (i + 1) = p_fsum (mb S str) i + S 4 i from rfl]
              exact lv_sub hl [3, 4, 2, 1, 5, 0] rfl
        · have p_38 := bl_t he c_38
          refine lv_iload hx hb dX4_counted_41 (lv_at hl 4 rfl) ?_
          refine lv_iconst (v := -1) hx hb dX4_counted_43 (by decide) ?_
          refine lv_icmp_eq (tgt := 62) hx hb dX4_counted_44 (by decide) (fun c_44 => ?_) (fun c_44 => ?_)
          · refine lv_iload hx hb dX4_counted_62 (lv_at hl 5 rfl) ?_
            refine lv_goto (tgt := 69) hx hb dX4_counted_64 (by decide) ?_
            refine lv_istore (lv' := [(4, .int (nI i)), (2, .int ((p_fsum (mb S str) i) + ((S 4) i))), (0, .ref a), (1, .int (nI v)), (3, .int ((p_lead (mb S str) i).1)), (5, .int (nI i))]) hx hb dX4_counted_69 hl (by decide) rfl (fun ls hl => ?_)
            refine lv_goto (tgt := 102) hx hb dX4_counted_71 (by decide) ?_
            refine lv_iinc (v := (nI (i + 1))) (lv' := [(5, .int (nI (i + 1))), (4, .int (nI i)), (2, .int ((p_fsum (mb S str) i) + ((S 4) i))), (0, .ref a), (1, .int (nI v)), (3, .int ((p_lead (mb S str) i).1))]) hx hb dX4_counted_102 hl (k := 5) rfl (nI_1 i) (by decide) rfl (fun ls hl => ?_)
            refine lv_goto (tgt := 10) hx hb dX4_counted_105 (by decide) ?_
            refine ih (i + 1) (by omega) (by omega) H locs ls hI ?_
            have hb8 := mb_89 (S := S) (str := str) i
            have hz : ¬ mb S str i 8 = 0 := fun q => p_38 (hb8.mp q)
            have eL : (p_lead (mb S str) (i + 1)).1 = (p_lead (mb S str) i).1 := by rw [p_lead, if_neg (fun q => hz q.1)]
            have eW : (p_win (mb S str) (i + 1)).1 = nI i := by rw [p_win, if_pos ⟨hz, Or.inl c_44⟩]
            rw [eL, eW, show p_fsum (mb S str) (i + 1) = p_fsum (mb S str) i + S 4 i from rfl]
            exact lv_sub hl [3, 4, 2, 5, 1, 0] rfl
          · obtain ⟨q, hq, hw1, hw2⟩ := (win_at (B := mb S str) (i := i)).resolve_left c_44
            rw [hw1] at hl
            refine lv_aload_n hx hb dX4_counted_47 rfl (lv_at hl 1 rfl) ?_
            refine lv_iload hx hb dX4_counted_48 (lv_at hl 5 rfl) ?_
            refine f_calli1 (va_runV (As := [.int (nI i)]) (rest := []) ⟨hx, hb, hml, hown, hts⟩ (m_X4_time l ha h60 hSm hTb (u := i) (by omega) hS) (cwV 1 hts gX4_counted_X4_time rfl rfl rfl (by decide +kernel) ⟨Nat.le_of_ble_eq_true rfl, Nat.le_of_ble_eq_true rfl⟩) (fPre_ofV hG hI ha (hSm _ (by omega) (by omega)) (hS.1) rfl rfl) rfl rfl hl.1 rfl (lv_room (Nat.le_of_ble_eq_true rfl)) dX4_counted_50 ⟨Nat.le_of_ble_eq_true rfl, Nat.le_of_ble_eq_true rfl⟩) hI (fun r26 E27 H locs hp hI => ?_)
            obtain ⟨he, hq⟩ := hp
            rw [hq] at hI
            have he : r26 = (m_time S i) := he
            subst he
            refine lv_aload_n hx hb dX4_counted_53 rfl (lv_at hl 1 rfl) ?_
            refine lv_iload hx hb dX4_counted_54 (lv_at hl 4 rfl) ?_
            refine f_calli1 (va_runV (As := [.int (nI q)]) (rest := [.int (m_time S i)]) ⟨hx, hb, hml, hown, hts⟩ (m_X4_time l ha h60 hSm hTb (u := q) (by omega) hS) (cwV 1 hts gX4_counted_X4_time rfl rfl rfl (by decide +kernel) ⟨Nat.le_of_ble_eq_true rfl, Nat.le_of_ble_eq_true rfl⟩) (fPre_ofV hG hI ha (hSm _ (by omega) (by omega)) (hS.1) rfl rfl) rfl rfl hl.1 rfl (lv_room (Nat.le_of_ble_eq_true rfl)) dX4_counted_56 ⟨Nat.le_of_ble_eq_true rfl, Nat.le_of_ble_eq_true rfl⟩) hI (fun r28 E29 H locs hp hI => ?_)
            obtain ⟨he, hq⟩ := hp
            rw [hq] at hI
            have he : r28 = (m_time S q) := he
            subst he
            refine lv_icmp_ge (tgt := 67) hx hb dX4_counted_59 (by decide) (fun c_59 => ?_) (fun c_59 => ?_)
            · have n_59 := i_nlt.mpr c_59
              refine lv_iload hx hb dX4_counted_67 (lv_at hl 4 rfl) ?_
              refine lv_istore (lv' := [(4, .int (nI q)), (2, .int ((p_fsum (mb S str) i) + ((S 4) i))), (0, .ref a), (1, .int (nI v)), (3, .int ((p_lead (mb S str) i).1)), (5, .int (nI i))]) hx hb dX4_counted_69 hl (by decide) rfl (fun ls hl => ?_)
              refine lv_goto (tgt := 102) hx hb dX4_counted_71 (by decide) ?_
              refine lv_iinc (v := (nI (i + 1))) (lv' := [(5, .int (nI (i + 1))), (4, .int (nI q)), (2, .int ((p_fsum (mb S str) i) + ((S 4) i))), (0, .ref a), (1, .int (nI v)), (3, .int ((p_lead (mb S str) i).1))]) hx hb dX4_counted_102 hl (k := 5) rfl (nI_1 i) (by decide) rfl (fun ls hl => ?_)
              refine lv_goto (tgt := 10) hx hb dX4_counted_105 (by decide) ?_
              refine ih (i + 1) (by omega) (by omega) H locs ls hI ?_
              have hb8 := mb_89 (S := S) (str := str) i
              have hz : ¬ mb S str i 8 = 0 := fun q => p_38 (hb8.mp q)
              have eL : (p_lead (mb S str) (i + 1)).1 = (p_lead (mb S str) i).1 := by rw [p_lead, if_neg (fun q => hz q.1)]
              have eW : (p_win (mb S str) (i + 1)).1 = nI q := by rw [p_win, if_neg (fun a => a.2.elim c_44 (fun b => n_59 (by rw [hw2, m_time_mb, m_time_mb] at b; exact b)))]; exact hw1
              rw [eL, eW, show p_fsum (mb S str) (i + 1) = p_fsum (mb S str) i + S 4 i from rfl]
              exact lv_sub hl [3, 4, 2, 5, 1, 0] rfl
            · have n_59 := c_59
              have c_59 := i_nle.mp n_59
              refine lv_iload hx hb dX4_counted_62 (lv_at hl 5 rfl) ?_
              refine lv_goto (tgt := 69) hx hb dX4_counted_64 (by decide) ?_
              refine lv_istore (lv' := [(4, .int (nI i)), (2, .int ((p_fsum (mb S str) i) + ((S 4) i))), (0, .ref a), (1, .int (nI v)), (3, .int ((p_lead (mb S str) i).1)), (5, .int (nI i))]) hx hb dX4_counted_69 hl (by decide) rfl (fun ls hl => ?_)
              refine lv_goto (tgt := 102) hx hb dX4_counted_71 (by decide) ?_
              refine lv_iinc (v := (nI (i + 1))) (lv' := [(5, .int (nI (i + 1))), (4, .int (nI i)), (2, .int ((p_fsum (mb S str) i) + ((S 4) i))), (0, .ref a), (1, .int (nI v)), (3, .int ((p_lead (mb S str) i).1))]) hx hb dX4_counted_102 hl (k := 5) rfl (nI_1 i) (by decide) rfl (fun ls hl => ?_)
              refine lv_goto (tgt := 10) hx hb dX4_counted_105 (by decide) ?_
              refine ih (i + 1) (by omega) (by omega) H locs ls hI ?_
              have hb8 := mb_89 (S := S) (str := str) i
              have hz : ¬ mb S str i 8 = 0 := fun q => p_38 (hb8.mp q)
              have eL : (p_lead (mb S str) (i + 1)).1 = (p_lead (mb S str) i).1 := by rw [p_lead, if_neg (fun q => hz q.1)]
              have eW : (p_win (mb S str) (i + 1)).1 = nI i := by rw [p_win, if_pos ⟨hz, Or.inr (by rw [hw2, m_time_mb, m_time_mb]; exact c_59)⟩]
              rw [eL, eW, show p_fsum (mb S str) (i + 1) = p_fsum (mb S str) i + S 4 i from rfl]
              exact lv_sub hl [3, 4, 2, 5, 1, 0] rfl
  exact K (n + 1) 0 (Nat.zero_le _) (by omega) H locs ls hI (lv_sub hl [4, 5, 3, 2, 1, 0] rfl)
