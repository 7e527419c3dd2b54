set_option maxHeartbeats 4000000 in
set_option maxRecDepth 100000 in
theorem m_X4_in (l : Launch) {D : va_G} {cI cJ cB : ClassId} {t0 z : Nat} {tx ad : Nat → Nat} {L : List Nat} {E : Nat → va_E} {sb a : Nat} (ha : ad sb = a) (h60 : 60 ≤ sb) (hSm : ∀ k, sb ≤ k → k < sb + 11 → k ∈ L) {T : Nat} (hTb : T < 2 ^ 31) {S : Nat → Nat → Int32} (hS : st_at cI ad E sb T S) (hMm : ∀ k, 50 ≤ k → k < 55 → k ∈ L) {th : Int32} {w p g : Nat → Int32} {nw n : Nat} {str : Nat → Int32} (hM : m_at cI ad E th w p g nw n str) (hNW : nw ≤ 6) (hN6 : n ≤ 6) : Met l yX4_in wsX4_in ({ frames := 1, cells := 0, slots := 0, locals := 21 } : Room) (va_Pc [.ref a] (fPre D cI cJ cB t0 z tx ad L E)) (va_Qi (fun (r : Int32) (E1 : Nat → va_E) => r = p_in (mb S str) n ∧ E1 = E) (fB D z ad L) (fA z)) 0 0 (fA z) := by
  refine f_ofW (cc := cX4_in) (maxL := 3) (ret := some .int) (by decide) rfl (Nat.le_of_ble_eq_true rfl) ?_
  intro pr e s m args below meth c Q hx hb hr hml hts hown hlocks hin hG H locs hI hQ ls hl
  have hl : lv_has ls 3 [(0, .ref a)] := hl
  refine lv_iconst (v := 0) hx hb dX4_in_0 (by decide) ?_
  refine lv_istore_n (lv' := [(1, .int 0), (0, .ref a)]) hx hb dX4_in_1 rfl hl (by decide) rfl (fun ls hl => ?_)
  refine lv_iconst (v := 0) hx hb dX4_in_2 (by decide) ?_
  refine lv_istore_n (lv' := [(2, .int 0), (1, .int 0), (0, .ref a)]) hx hb dX4_in_3 rfl hl (by decide) rfl (fun ls hl => ?_)
  have K : ∀ (k i : Nat), i ≤ n → n + 1 ≤ i + k → ∀ (H : Heap) (locs : List Loc) (ls : Array Slot), fI D (fA z) s.heap ad L E H locs → lv_has ls 3 [(0, .ref a), (1, .int (p_in (mb S str) i)), (2, .int (nI i))] → W pr l e ({ frames := 1, cells := 0, slots := 0, locals := 21 } : Room) s m args below meth c H locs 0 0 Q (F0 m 4 ls []) := by
    intro k
    induction k with
    | zero => intro i h1 h2; exact absurd h2 (by omega)
    | succ k ih =>
      intro i hi1 hi2 H locs ls hI hl
      refine lv_iload_n hx hb dX4_in_4 rfl (lv_at hl 2 rfl) ?_
      refine lv_aload_n hx hb dX4_in_5 rfl (lv_at hl 0 rfl) ?_
      refine f_get (ci := 4) (v := .ref (ad 50)) (C := RX4) (T := TX4) (N := 12) hx hb hts (by decide +kernel) hown hG.1 hI ha (hSm _ (by omega) (by omega)) (hS.1) rfl 11 (by decide) (hts (.fieldLink RX4 3 "CoracleRaceModel$State" "this$0" "LCoracleRaceModel;") (by decide +kernel)) rfl dX4_in_6 ?_
      refine f_getN (ci := 5) (v := .int (nI n)) (C := RX5) (T := TX5) (N := 9) hx hb hts (by decide +kernel) hown hG.1 hI rfl (hMm _ (by omega) (by omega)) (hM.1) rfl 5 (by decide) (hG.2.1 (.fieldLinkNest RX4 112 RX5 "boats" "I" RX5) (by simp [fNest])) rfl dX4_in_9 ?_
      refine lv_icmp_ge (tgt := 37) hx hb dX4_in_12 (by decide) (fun c_12 => ?_) (fun c_12 => ?_)
      · have n_12 := i_nlt.mpr c_12
        have hi : i = n := by have := (nI_leI (by omega) (by omega)).mp c_12; omega
        refine lv_iload_n hx hb dX4_in_37 rfl (lv_at hl 1 rfl) ?_
        exact f_reti hQ hx hb hr hlocks hI.2.2 (by omega) (by omega) dX4_in_38 E (fB_of hI) (⟨by rw [hi], rfl⟩)
      · have n_12 := c_12
        have c_12 := i_nle.mp n_12
        have hi : i < n := (nI_ltI (by omega) (by omega)).mp c_12
        have hcl : (nI i).toNatClampNeg = i := nI_clamp (by omega)
        refine lv_iload_n hx hb dX4_in_15 rfl (lv_at hl 1 rfl) ?_
        refine lv_aload_n hx hb dX4_in_16 rfl (lv_at hl 0 rfl) ?_
        refine lv_iload_n hx hb dX4_in_17 rfl (lv_at hl 2 rfl) ?_
        refine f_calli1 (va_runV (As := [.int (nI i)]) (rest := [.int (p_in (mb S str) i)]) ⟨hx, hb, hml, hown, hts⟩ (m_X4_isIn l ha h60 hSm hTb (u := i) (by omega) hS) (cwV 1 hts gX4_in_X4_isIn rfl rfl rfl (by decide +kernel) ⟨Nat.le_of_ble_eq_true rfl, Nat.le_of_ble_eq_true rfl⟩) (fPre_ofV hG hI ha (hSm _ (by omega) (by omega)) (hS.1) rfl rfl) rfl rfl hl.1 rfl (lv_room (Nat.le_of_ble_eq_true rfl)) dX4_in_18 ⟨Nat.le_of_ble_eq_true rfl, Nat.le_of_ble_eq_true rfl⟩) hI (fun r1 E2 H locs hp hI => ?_)
        obtain ⟨he, hq⟩ := hp
        rw [hq] at hI
        refine lv_if_eq (tgt := 28) hx hb dX4_in_21 (by decide) (fun c_21 => ?_) (fun c_21 => ?_)
        · have p_21 := bl_f he c_21
          have q_21 := Decidable.not_not.mp p_21
          refine lv_iconst (v := 0) hx hb dX4_in_28 (by decide) ?_
          refine lv_iadd hx hb dX4_in_29 ?_
          refine lv_istore_n (lv' := [(1, .int ((p_in (mb S str) i) + 0)), (0, .ref a), (2, .int (nI i))]) hx hb dX4_in_30 rfl hl (by decide) rfl (fun ls hl => ?_)
          refine lv_iinc (v := (nI (i + 1))) (lv' := [(2, .int (nI (i + 1))), (1, .int ((p_in (mb S str) i) + 0)), (0, .ref a)]) hx hb dX4_in_31 hl (k := 2) rfl (nI_1 i) (by decide) rfl (fun ls hl => ?_)
          refine lv_goto (tgt := 4) hx hb dX4_in_34 (by decide) ?_
          refine ih (i + 1) (by omega) (by omega) H locs ls hI ?_
          rw [show p_in (mb S str) (i + 1) = ((p_in (mb S str) i) + 0) by first | rfl | (rw [p_in]; simp [c_12, n_12, c_21, if_neg p_21, q_21, mb_8]; done)]
          exact lv_sub hl [2, 1, 0] rfl
        · have p_21 := bl_t he c_21
          refine lv_iconst (v := 1) hx hb dX4_in_24 (by decide) ?_
          refine lv_goto (tgt := 29) hx hb dX4_in_25 (by decide) ?_
          refine lv_iadd hx hb dX4_in_29 ?_
          refine lv_istore_n (lv' := [(1, .int ((p_in (mb S str) i) + 1)), (0, .ref a), (2, .int (nI i))]) hx hb dX4_in_30 rfl hl (by decide) rfl (fun ls hl => ?_)
          refine lv_iinc (v := (nI (i + 1))) (lv' := [(2, .int (nI (i + 1))), (1, .int ((p_in (mb S str) i) + 1)), (0, .ref a)]) hx hb dX4_in_31 hl (k := 2) rfl (nI_1 i) (by decide) rfl (fun ls hl => ?_)
          refine lv_goto (tgt := 4) hx hb dX4_in_34 (by decide) ?_
          refine ih (i + 1) (by omega) (by omega) H locs ls hI ?_
          rw [show p_in (mb S str) (i + 1) = ((p_in (mb S str) i) + 1) by first | rfl | (rw [p_in]; simp [c_12, n_12, c_21, if_pos p_21, p_21, mb_8]; done)]
          exact lv_sub hl [2, 1, 0] rfl
  exact K (n + 1) 0 (Nat.zero_le _) (by omega) H locs ls hI (lv_sub hl [2, 1, 0] rfl)

set_option maxHeartbeats 4000000 in
set_option maxRecDepth 100000 in
theorem m_X4_copy (l : Launch) {D : va_G} {cI cJ cB : ClassId} {t0 z : Nat} {tx ad : Nat → Nat} {L : List Nat} {E : Nat → va_E} {sb a : Nat} (ha : ad sb = a) (h60 : 60 ≤ sb) (hSm : ∀ k, sb ≤ k → k < sb + 11 → k ∈ L) {T : Nat} (hTb : T < 2 ^ 31) {S : Nat → Nat → Int32} (hSt : E sb = sE ad sb T) {k0 k1 a0 a1 : Nat} (ha0 : ad k0 = a0) (ha1 : ad k1 = a1) (hm0 : k0 ∈ L) (hm1 : k1 ∈ L) {f0 f1 : Nat → Int32} (hE0 : E k0 = .inl (cI, 6, .inl f0)) (hE1 : E k1 = .inl (cI, 6, .inl f1)) (hne : k0 ≠ k1) : Met l yX4_copy wsX4_copy ({ frames := 1, cells := 0, slots := 0, locals := 40 } : Room) (va_Pc [.ref a, .ref a0, .ref a1] (fPre D cI cJ cB t0 z tx ad L E)) (va_Qv (fun (E1 : Nat → va_E) => E1 k1 = .inl (cI, 6, .inl f0) ∧ ∀ q : Nat, q ≠ k1 → E1 q = E q) (fB D z ad L) (fA z)) 0 0 (fA z) := by
  refine f_ofW (cc := cX4_copy) (maxL := 3) (ret := none) (by decide) rfl (Nat.le_of_ble_eq_true rfl) ?_
  intro pr e s m args below meth c Q hx hb hr hml hts hown hlocks hin hG H locs hI hQ ls hl
  have hl : lv_has ls 3 [(0, .ref a), (1, .ref a0), (2, .ref a1)] := hl
  have hfr : ∀ q : Nat, q ≠ k1 → E q = E q := fun _ _ => rfl
  have hE0 : E k0 = .inl (cI, 6, .inl f0) := hE0
  have hE1 : E k1 = .inl (cI, 6, .inl f1) := hE1
  refine lv_aload_n hx hb dX4_copy_0 rfl (lv_at hl 1 rfl) ?_
  refine lv_iconst (v := 0) hx hb dX4_copy_1 (by decide) ?_
  refine lv_aload_n hx hb dX4_copy_2 rfl (lv_at hl 2 rfl) ?_
  refine lv_iconst (v := 0) hx hb dX4_copy_3 (by decide) ?_
  refine lv_aload_n hx hb dX4_copy_4 rfl (lv_at hl 1 rfl) ?_
  refine f_alen hx hb hG.1 hI ha0 hm0 hE0 (v := 6) (by decide) dX4_copy_5 ?_
  refine f_copyA hx hb (hml.trans hl.1.symm) hown (hts (.methodLink RX4 46 arraycopyName) (by decide +kernel)) (hts (.native arraycopyName) (by decide +kernel)) (hts (.static arraycopyName) (by decide +kernel)) (hts (.initialized "java/lang/System") (by decide +kernel)) hG.1 hI ha0 ha1 hm0 hm1 hE0 hE1 (by decide) (by decide) (Nat.le_of_ble_eq_true rfl) (Nat.le_of_ble_eq_true rfl) dX4_copy_6 (fun E1 H locs hE2 hn3 hI => ?_)
  have hE1 : E1 k1 = .inl (cI, 6, .inl f0) := hE2
  have hE0 : E1 k0 = .inl (cI, 6, .inl f0) := (hn3 k0 hne).trans hE0
  have hfr : ∀ q : Nat, q ≠ k1 → E1 q = E q := fun q hq => (hn3 q (by omega)).trans (hfr q hq)
  exact f_retv hQ hx hb hr hlocks hI.2.2 (by omega) (by omega) dX4_copy_9 E1 (fB_of hI) (⟨hE1, hfr⟩)

set_option maxHeartbeats 4000000 in
set_option maxRecDepth 100000 in
theorem m_X4_become (l : Launch) {D : va_G} {cI cJ cB : ClassId} {t0 z : Nat} {tx ad : Nat → Nat} {L : List Nat} {E : Nat → va_E} {sb a : Nat} (ha : ad sb = a) (h60 : 60 ≤ sb) (hSm : ∀ k, sb ≤ k → k < sb + 11 → k ∈ L) {T : Nat} (hTb : T < 2 ^ 31) {S : Nat → Nat → Int32} (hS : st_at cI ad E sb T S) {so ao : Nat} (hao : ad so = ao) (h60o : 60 ≤ so) (hOm : ∀ k, so ≤ k → k < so + 11 → k ∈ L) {To : Nat} (hTo : To < 2 ^ 31) {So : Nat → Nat → Int32} (hO : st_at cI ad E so To So) (hdj : sb + 11 ≤ so ∨ so + 11 ≤ sb) : Met l yX4_become wsX4_become ({ frames := 2, cells := 0, slots := 0, locals := 62 } : Room) (va_Pc [.ref a, .ref ao] (fPre D cI cJ cB t0 z tx ad L E)) (va_Qv (fun (E1 : Nat → va_E) => st_at cI ad E1 sb To So ∧ ∀ q : Nat, (q < sb ∨ sb + 11 ≤ q) → E1 q = E q) (fB D z ad L) (fA z)) 0 0 (fA z) := by
  refine f_ofW (cc := cX4_become) (maxL := 2) (ret := none) (by decide) rfl (Nat.le_of_ble_eq_true rfl) ?_
  intro pr e s m args below meth c Q hx hb hr hml hts hown hlocks hin hG H locs hI hQ ls hl
  have hl : lv_has ls 2 [(0, .ref a), (1, .ref ao)] := hl
  have hfr : ∀ q : Nat, (q < sb ∨ sb + 11 ≤ q) → E q = E q := fun _ _ => rfl
  refine lv_aload_n hx hb dX4_become_0 rfl (lv_at hl 0 rfl) ?_
  refine lv_aload_n hx hb dX4_become_1 rfl (lv_at hl 1 rfl) ?_
  refine f_get (ci := 4) (v := .int (nI To)) (C := RX4) (T := TX4) (N := 12) hx hb hts (by decide +kernel) hown hG.1 hI hao (hOm _ (by omega) (by omega)) (hO.1) rfl 0 (by decide) (hts (.fieldLink RX4 52 "CoracleRaceModel$State" "tick" "I") (by decide +kernel)) rfl dX4_become_2 ?_
  refine f_put (ci := 4) (v := .int (nI To)) (C := RX4) (T := TX4) (N := 12) hx hb hts (by decide +kernel) tyX4 tyX4_ok nmX4 hown hG.1 hI ha (hSm _ (by omega) (by omega)) (hS.1) rfl 0 (by decide) (hts (.fieldLink RX4 52 "CoracleRaceModel$State" "tick" "I") (by decide +kernel)) rfl rfl rfl (Nat.le_of_ble_eq_true rfl) dX4_become_5 (fun E1 H locs hE2 hn3 hI => ?_)
  have hS := hS.tick (T1 := To) hE2 (fun q hq => hn3 q hq)
  rw [← p_cp_0 So S] at hS
  have hO := hO.kept (fun q h1 h2 => hn3 q (by omega))
  have hfr : ∀ q : Nat, (q < sb ∨ sb + 11 ≤ q) → E1 q = E q := fun q hq => (hn3 q (by omega)).trans (hfr q hq)
  refine lv_aload_n hx hb dX4_become_8 rfl (lv_at hl 0 rfl) ?_
  refine lv_aload_n hx hb dX4_become_9 rfl (lv_at hl 1 rfl) ?_
  refine f_get (ci := 4) (v := .ref (ad (so + 1 + 0))) (C := RX4) (T := TX4) (N := 12) hx hb hts (by decide +kernel) hown hG.1 hI hao (hOm _ (by omega) (by omega)) (hO.1) rfl 1 (by decide) (hts (.fieldLink RX4 15 "CoracleRaceModel$State" "place" "[I") (by decide +kernel)) rfl dX4_become_10 ?_
  refine lv_aload_n hx hb dX4_become_13 rfl (lv_at hl 0 rfl) ?_
  refine f_get (ci := 4) (v := .ref (ad (sb + 1 + 0))) (C := RX4) (T := TX4) (N := 12) hx hb hts (by decide +kernel) hown hG.1 hI ha (hSm _ (by omega) (by omega)) (hS.1) rfl 1 (by decide) (hts (.fieldLink RX4 15 "CoracleRaceModel$State" "place" "[I") (by decide +kernel)) rfl dX4_become_14 ?_
  refine f_callv1 (va_runV (As := [.ref (ad (so + 1 + 0)), .ref (ad (sb + 1 + 0))]) (rest := []) ⟨hx, hb, hml, hown, hts⟩ (m_X4_copy l (S := S) ha h60 hSm hTo hS.1 rfl rfl (hOm _ (by omega) (by omega)) (hSm _ (by omega) (by omega)) (hO.2 0 (by decide)) (hS.2 0 (by decide)) (by omega)) (cwV 2 hts gX4_become_X4_copy rfl rfl rfl (by decide +kernel) ⟨Nat.le_of_ble_eq_true rfl, Nat.le_of_ble_eq_true rfl⟩) (fPre_ofV hG hI ha (hSm _ (by omega) (by omega)) (hS.1) rfl rfl) rfl rfl hl.1 rfl (lv_room (Nat.le_of_ble_eq_true rfl)) dX4_become_17 ⟨Nat.le_of_ble_eq_true rfl, Nat.le_of_ble_eq_true rfl⟩) hI (fun E4 H locs hp hI => ?_)
  obtain ⟨hE9, hn9⟩ := hp
  have hS := hS.row (j := 0) (by decide) hE9 (fun q hq => hn9 q hq)
  rw [p_cp_s] at hS
  have hO := hO.kept (fun q h1 h2 => hn9 q (by omega))
  have hfr : ∀ q : Nat, (q < sb ∨ sb + 11 ≤ q) → E4 q = E q := fun q hq => (hn9 q (by omega)).trans (hfr q hq)
  refine lv_aload_n hx hb dX4_become_20 rfl (lv_at hl 0 rfl) ?_
  refine lv_aload_n hx hb dX4_become_21 rfl (lv_at hl 1 rfl) ?_
  refine f_get (ci := 4) (v := .ref (ad (so + 1 + 1))) (C := RX4) (T := TX4) (N := 12) hx hb hts (by decide +kernel) hown hG.1 hI hao (hOm _ (by omega) (by omega)) (hO.1) rfl 2 (by decide) (hts (.fieldLink RX4 19 "CoracleRaceModel$State" "lane" "[I") (by decide +kernel)) rfl dX4_become_22 ?_
  refine lv_aload_n hx hb dX4_become_25 rfl (lv_at hl 0 rfl) ?_
  refine f_get (ci := 4) (v := .ref (ad (sb + 1 + 1))) (C := RX4) (T := TX4) (N := 12) hx hb hts (by decide +kernel) hown hG.1 hI ha (hSm _ (by omega) (by omega)) (hS.1) rfl 2 (by decide) (hts (.fieldLink RX4 19 "CoracleRaceModel$State" "lane" "[I") (by decide +kernel)) rfl dX4_become_26 ?_
  refine f_callv1 (va_runV (As := [.ref (ad (so + 1 + 1)), .ref (ad (sb + 1 + 1))]) (rest := []) ⟨hx, hb, hml, hown, hts⟩ (m_X4_copy l (S := S) ha h60 hSm hTo hS.1 rfl rfl (hOm _ (by omega) (by omega)) (hSm _ (by omega) (by omega)) (hO.2 1 (by decide)) (hS.2 1 (by decide)) (by omega)) (cwV 2 hts gX4_become_X4_copy rfl rfl rfl (by decide +kernel) ⟨Nat.le_of_ble_eq_true rfl, Nat.le_of_ble_eq_true rfl⟩) (fPre_ofV hG hI ha (hSm _ (by omega) (by omega)) (hS.1) rfl rfl) rfl rfl hl.1 rfl (lv_room (Nat.le_of_ble_eq_true rfl)) dX4_become_29 ⟨Nat.le_of_ble_eq_true rfl, Nat.le_of_ble_eq_true rfl⟩) hI (fun E5 H locs hp hI => ?_)
  obtain ⟨hE9, hn9⟩ := hp
  have hS := hS.row (j := 1) (by decide) hE9 (fun q hq => hn9 q hq)
  rw [p_cp_s] at hS
  have hO := hO.kept (fun q h1 h2 => hn9 q (by omega))
  have hfr : ∀ q : Nat, (q < sb ∨ sb + 11 ≤ q) → E5 q = E q := fun q hq => (hn9 q (by omega)).trans (hfr q hq)
  refine lv_aload_n hx hb dX4_become_32 rfl (lv_at hl 0 rfl) ?_
  refine lv_aload_n hx hb dX4_become_33 rfl (lv_at hl 1 rfl) ?_
  refine f_get (ci := 4) (v := .ref (ad (so + 1 + 2))) (C := RX4) (T := TX4) (N := 12) hx hb hts (by decide +kernel) hown hG.1 hI hao (hOm _ (by omega) (by omega)) (hO.1) rfl 3 (by decide) (hts (.fieldLink RX4 22 "CoracleRaceModel$State" "heads" "[I") (by decide +kernel)) rfl dX4_become_34 ?_
  refine lv_aload_n hx hb dX4_become_37 rfl (lv_at hl 0 rfl) ?_
  refine f_get (ci := 4) (v := .ref (ad (sb + 1 + 2))) (C := RX4) (T := TX4) (N := 12) hx hb hts (by decide +kernel) hown hG.1 hI ha (hSm _ (by omega) (by omega)) (hS.1) rfl 3 (by decide) (hts (.fieldLink RX4 22 "CoracleRaceModel$State" "heads" "[I") (by decide +kernel)) rfl dX4_become_38 ?_
  refine f_callv1 (va_runV (As := [.ref (ad (so + 1 + 2)), .ref (ad (sb + 1 + 2))]) (rest := []) ⟨hx, hb, hml, hown, hts⟩ (m_X4_copy l (S := S) ha h60 hSm hTo hS.1 rfl rfl (hOm _ (by omega) (by omega)) (hSm _ (by omega) (by omega)) (hO.2 2 (by decide)) (hS.2 2 (by decide)) (by omega)) (cwV 2 hts gX4_become_X4_copy rfl rfl rfl (by decide +kernel) ⟨Nat.le_of_ble_eq_true rfl, Nat.le_of_ble_eq_true rfl⟩) (fPre_ofV hG hI ha (hSm _ (by omega) (by omega)) (hS.1) rfl rfl) rfl rfl hl.1 rfl (lv_room (Nat.le_of_ble_eq_true rfl)) dX4_become_41 ⟨Nat.le_of_ble_eq_true rfl, Nat.le_of_ble_eq_true rfl⟩) hI (fun E6 H locs hp hI => ?_)
  obtain ⟨hE9, hn9⟩ := hp
  have hS := hS.row (j := 2) (by decide) hE9 (fun q hq => hn9 q hq)
  rw [p_cp_s] at hS
  have hO := hO.kept (fun q h1 h2 => hn9 q (by omega))
  have hfr : ∀ q : Nat, (q < sb ∨ sb + 11 ≤ q) → E6 q = E q := fun q hq => (hn9 q (by omega)).trans (hfr q hq)
  refine lv_aload_n hx hb dX4_become_44 rfl (lv_at hl 0 rfl) ?_
  refine lv_aload_n hx hb dX4_become_45 rfl (lv_at hl 1 rfl) ?_
  refine f_get (ci := 4) (v := .ref (ad (so + 1 + 3))) (C := RX4) (T := TX4) (N := 12) hx hb hts (by decide +kernel) hown hG.1 hI hao (hOm _ (by omega) (by omega)) (hO.1) rfl 4 (by decide) (hts (.fieldLink RX4 25 "CoracleRaceModel$State" "soaked" "[I") (by decide +kernel)) rfl dX4_become_46 ?_
  refine lv_aload_n hx hb dX4_become_49 rfl (lv_at hl 0 rfl) ?_
  refine f_get (ci := 4) (v := .ref (ad (sb + 1 + 3))) (C := RX4) (T := TX4) (N := 12) hx hb hts (by decide +kernel) hown hG.1 hI ha (hSm _ (by omega) (by omega)) (hS.1) rfl 4 (by decide) (hts (.fieldLink RX4 25 "CoracleRaceModel$State" "soaked" "[I") (by decide +kernel)) rfl dX4_become_50 ?_
  refine f_callv1 (va_runV (As := [.ref (ad (so + 1 + 3)), .ref (ad (sb + 1 + 3))]) (rest := []) ⟨hx, hb, hml, hown, hts⟩ (m_X4_copy l (S := S) ha h60 hSm hTo hS.1 rfl rfl (hOm _ (by omega) (by omega)) (hSm _ (by omega) (by omega)) (hO.2 3 (by decide)) (hS.2 3 (by decide)) (by omega)) (cwV 2 hts gX4_become_X4_copy rfl rfl rfl (by decide +kernel) ⟨Nat.le_of_ble_eq_true rfl, Nat.le_of_ble_eq_true rfl⟩) (fPre_ofV hG hI ha (hSm _ (by omega) (by omega)) (hS.1) rfl rfl) rfl rfl hl.1 rfl (lv_room (Nat.le_of_ble_eq_true rfl)) dX4_become_53 ⟨Nat.le_of_ble_eq_true rfl, Nat.le_of_ble_eq_true rfl⟩) hI (fun E7 H locs hp hI => ?_)
  obtain ⟨hE9, hn9⟩ := hp
  have hS := hS.row (j := 3) (by decide) hE9 (fun q hq => hn9 q hq)
  rw [p_cp_s] at hS
  have hO := hO.kept (fun q h1 h2 => hn9 q (by omega))
  have hfr : ∀ q : Nat, (q < sb ∨ sb + 11 ≤ q) → E7 q = E q := fun q hq => (hn9 q (by omega)).trans (hfr q hq)
  refine lv_aload_n hx hb dX4_become_56 rfl (lv_at hl 0 rfl) ?_
  refine lv_aload_n hx hb dX4_become_57 rfl (lv_at hl 1 rfl) ?_
  refine f_get (ci := 4) (v := .ref (ad (so + 1 + 4))) (C := RX4) (T := TX4) (N := 12) hx hb hts (by decide +kernel) hown hG.1 hI hao (hOm _ (by omega) (by omega)) (hO.1) rfl 5 (by decide) (hts (.fieldLink RX4 28 "CoracleRaceModel$State" "fouls" "[I") (by decide +kernel)) rfl dX4_become_58 ?_
  refine lv_aload_n hx hb dX4_become_61 rfl (lv_at hl 0 rfl) ?_
  refine f_get (ci := 4) (v := .ref (ad (sb + 1 + 4))) (C := RX4) (T := TX4) (N := 12) hx hb hts (by decide +kernel) hown hG.1 hI ha (hSm _ (by omega) (by omega)) (hS.1) rfl 5 (by decide) (hts (.fieldLink RX4 28 "CoracleRaceModel$State" "fouls" "[I") (by decide +kernel)) rfl dX4_become_62 ?_
  refine f_callv1 (va_runV (As := [.ref (ad (so + 1 + 4)), .ref (ad (sb + 1 + 4))]) (rest := []) ⟨hx, hb, hml, hown, hts⟩ (m_X4_copy l (S := S) ha h60 hSm hTo hS.1 rfl rfl (hOm _ (by omega) (by omega)) (hSm _ (by omega) (by omega)) (hO.2 4 (by decide)) (hS.2 4 (by decide)) (by omega)) (cwV 2 hts gX4_become_X4_copy rfl rfl rfl (by decide +kernel) ⟨Nat.le_of_ble_eq_true rfl, Nat.le_of_ble_eq_true rfl⟩) (fPre_ofV hG hI ha (hSm _ (by omega) (by omega)) (hS.1) rfl rfl) rfl rfl hl.1 rfl (lv_room (Nat.le_of_ble_eq_true rfl)) dX4_become_65 ⟨Nat.le_of_ble_eq_true rfl, Nat.le_of_ble_eq_true rfl⟩) hI (fun E8 H locs hp hI => ?_)
  obtain ⟨hE9, hn9⟩ := hp
  have hS := hS.row (j := 4) (by decide) hE9 (fun q hq => hn9 q hq)
  rw [p_cp_s] at hS
  have hO := hO.kept (fun q h1 h2 => hn9 q (by omega))
  have hfr : ∀ q : Nat, (q < sb ∨ sb + 11 ≤ q) → E8 q = E q := fun q hq => (hn9 q (by omega)).trans (hfr q hq)
  refine lv_aload_n hx hb dX4_become_68 rfl (lv_at hl 0 rfl) ?_
  refine lv_aload_n hx hb dX4_become_69 rfl (lv_at hl 1 rfl) ?_
  refine f_get (ci := 4) (v := .ref (ad (so + 1 + 5))) (C := RX4) (T := TX4) (N := 12) hx hb hts (by decide +kernel) hown hG.1 hI hao (hOm _ (by omega) (by omega)) (hO.1) rfl 6 (by decide) (hts (.fieldLink RX4 31 "CoracleRaceModel$State" "came" "[I") (by decide +kernel)) rfl dX4_become_70 ?_
  refine lv_aload_n hx hb dX4_become_73 rfl (lv_at hl 0 rfl) ?_
  refine f_get (ci := 4) (v := .ref (ad (sb + 1 + 5))) (C := RX4) (T := TX4) (N := 12) hx hb hts (by decide +kernel) hown hG.1 hI ha (hSm _ (by omega) (by omega)) (hS.1) rfl 6 (by decide) (hts (.fieldLink RX4 31 "CoracleRaceModel$State" "came" "[I") (by decide +kernel)) rfl dX4_become_74 ?_
  refine f_callv1 (va_runV (As := [.ref (ad (so + 1 + 5)), .ref (ad (sb + 1 + 5))]) (rest := []) ⟨hx, hb, hml, hown, hts⟩ (m_X4_copy l (S := S) ha h60 hSm hTo hS.1 rfl rfl (hOm _ (by omega) (by omega)) (hSm _ (by omega) (by omega)) (hO.2 5 (by decide)) (hS.2 5 (by decide)) (by omega)) (cwV 2 hts gX4_become_X4_copy rfl rfl rfl (by decide +kernel) ⟨Nat.le_of_ble_eq_true rfl, Nat.le_of_ble_eq_true rfl⟩) (fPre_ofV hG hI ha (hSm _ (by omega) (by omega)) (hS.1) rfl rfl) rfl rfl hl.1 rfl (lv_room (Nat.le_of_ble_eq_true rfl)) dX4_become_77 ⟨Nat.le_of_ble_eq_true rfl, Nat.le_of_ble_eq_true rfl⟩) hI (fun E9 H locs hp hI => ?_)
  obtain ⟨hE9, hn9⟩ := hp
  have hS := hS.row (j := 5) (by decide) hE9 (fun q hq => hn9 q hq)
  rw [p_cp_s] at hS
  have hO := hO.kept (fun q h1 h2 => hn9 q (by omega))
  have hfr : ∀ q : Nat, (q < sb ∨ sb + 11 ≤ q) → E9 q = E q := fun q hq => (hn9 q (by omega)).trans (hfr q hq)
  refine lv_aload_n hx hb dX4_become_80 rfl (lv_at hl 0 rfl) ?_
  refine lv_aload_n hx hb dX4_become_81 rfl (lv_at hl 1 rfl) ?_
  refine f_get (ci := 4) (v := .ref (ad (so + 1 + 6))) (C := RX4) (T := TX4) (N := 12) hx hb hts (by decide +kernel) hown hG.1 hI hao (hOm _ (by omega) (by omega)) (hO.1) rfl 7 (by decide) (hts (.fieldLink RX4 34 "CoracleRaceModel$State" "spins" "[I") (by decide +kernel)) rfl dX4_become_82 ?_
  refine lv_aload_n hx hb dX4_become_85 rfl (lv_at hl 0 rfl) ?_
  refine f_get (ci := 4) (v := .ref (ad (sb + 1 + 6))) (C := RX4) (T := TX4) (N := 12) hx hb hts (by decide +kernel) hown hG.1 hI ha (hSm _ (by omega) (by omega)) (hS.1) rfl 7 (by decide) (hts (.fieldLink RX4 34 "CoracleRaceModel$State" "spins" "[I") (by decide +kernel)) rfl dX4_become_86 ?_
  refine f_callv1 (va_runV (As := [.ref (ad (so + 1 + 6)), .ref (ad (sb + 1 + 6))]) (rest := []) ⟨hx, hb, hml, hown, hts⟩ (m_X4_copy l (S := S) ha h60 hSm hTo hS.1 rfl rfl (hOm _ (by omega) (by omega)) (hSm _ (by omega) (by omega)) (hO.2 6 (by decide)) (hS.2 6 (by decide)) (by omega)) (cwV 2 hts gX4_become_X4_copy rfl rfl rfl (by decide +kernel) ⟨Nat.le_of_ble_eq_true rfl, Nat.le_of_ble_eq_true rfl⟩) (fPre_ofV hG hI ha (hSm _ (by omega) (by omega)) (hS.1) rfl rfl) rfl rfl hl.1 rfl (lv_room (Nat.le_of_ble_eq_true rfl)) dX4_become_89 ⟨Nat.le_of_ble_eq_true rfl, Nat.le_of_ble_eq_true rfl⟩) hI (fun E10 H locs hp hI => ?_)
  obtain ⟨hE9, hn9⟩ := hp
  have hS := hS.row (j := 6) (by decide) hE9 (fun q hq => hn9 q hq)
  rw [p_cp_s] at hS
  have hO := hO.kept (fun q h1 h2 => hn9 q (by omega))
  have hfr : ∀ q : Nat, (q < sb ∨ sb + 11 ≤ q) → E10 q = E q := fun q hq => (hn9 q (by omega)).trans (hfr q hq)
  refine lv_aload_n hx hb dX4_become_92 rfl (lv_at hl 0 rfl) ?_
  refine lv_aload_n hx hb dX4_become_93 rfl (lv_at hl 1 rfl) ?_
  refine f_get (ci := 4) (v := .ref (ad (so + 1 + 7))) (C := RX4) (T := TX4) (N := 12) hx hb hts (by decide +kernel) hown hG.1 hI hao (hOm _ (by omega) (by omega)) (hO.1) rfl 8 (by decide) (hts (.fieldLink RX4 37 "CoracleRaceModel$State" "stops" "[I") (by decide +kernel)) rfl dX4_become_94 ?_
  refine lv_aload_n hx hb dX4_become_97 rfl (lv_at hl 0 rfl) ?_
  refine f_get (ci := 4) (v := .ref (ad (sb + 1 + 7))) (C := RX4) (T := TX4) (N := 12) hx hb hts (by decide +kernel) hown hG.1 hI ha (hSm _ (by omega) (by omega)) (hS.1) rfl 8 (by decide) (hts (.fieldLink RX4 37 "CoracleRaceModel$State" "stops" "[I") (by decide +kernel)) rfl dX4_become_98 ?_
  refine f_callv1 (va_runV (As := [.ref (ad (so + 1 + 7)), .ref (ad (sb + 1 + 7))]) (rest := []) ⟨hx, hb, hml, hown, hts⟩ (m_X4_copy l (S := S) ha h60 hSm hTo hS.1 rfl rfl (hOm _ (by omega) (by omega)) (hSm _ (by omega) (by omega)) (hO.2 7 (by decide)) (hS.2 7 (by decide)) (by omega)) (cwV 2 hts gX4_become_X4_copy rfl rfl rfl (by decide +kernel) ⟨Nat.le_of_ble_eq_true rfl, Nat.le_of_ble_eq_true rfl⟩) (fPre_ofV hG hI ha (hSm _ (by omega) (by omega)) (hS.1) rfl rfl) rfl rfl hl.1 rfl (lv_room (Nat.le_of_ble_eq_true rfl)) dX4_become_101 ⟨Nat.le_of_ble_eq_true rfl, Nat.le_of_ble_eq_true rfl⟩) hI (fun E11 H locs hp hI => ?_)
  obtain ⟨hE9, hn9⟩ := hp
  have hS := hS.row (j := 7) (by decide) hE9 (fun q hq => hn9 q hq)
  rw [p_cp_s] at hS
  have hO := hO.kept (fun q h1 h2 => hn9 q (by omega))
  have hfr : ∀ q : Nat, (q < sb ∨ sb + 11 ≤ q) → E11 q = E q := fun q hq => (hn9 q (by omega)).trans (hfr q hq)
  refine lv_aload_n hx hb dX4_become_104 rfl (lv_at hl 0 rfl) ?_
  refine lv_aload_n hx hb dX4_become_105 rfl (lv_at hl 1 rfl) ?_
  refine f_get (ci := 4) (v := .ref (ad (so + 1 + 8))) (C := RX4) (T := TX4) (N := 12) hx hb hts (by decide +kernel) hown hG.1 hI hao (hOm _ (by omega) (by omega)) (hO.1) rfl 9 (by decide) (hts (.fieldLink RX4 40 "CoracleRaceModel$State" "length" "[I") (by decide +kernel)) rfl dX4_become_106 ?_
  refine lv_aload_n hx hb dX4_become_109 rfl (lv_at hl 0 rfl) ?_
  refine f_get (ci := 4) (v := .ref (ad (sb + 1 + 8))) (C := RX4) (T := TX4) (N := 12) hx hb hts (by decide +kernel) hown hG.1 hI ha (hSm _ (by omega) (by omega)) (hS.1) rfl 9 (by decide) (hts (.fieldLink RX4 40 "CoracleRaceModel$State" "length" "[I") (by decide +kernel)) rfl dX4_become_110 ?_
  refine f_callv1 (va_runV (As := [.ref (ad (so + 1 + 8)), .ref (ad (sb + 1 + 8))]) (rest := []) ⟨hx, hb, hml, hown, hts⟩ (m_X4_copy l (S := S) ha h60 hSm hTo hS.1 rfl rfl (hOm _ (by omega) (by omega)) (hSm _ (by omega) (by omega)) (hO.2 8 (by decide)) (hS.2 8 (by decide)) (by omega)) (cwV 2 hts gX4_become_X4_copy rfl rfl rfl (by decide +kernel) ⟨Nat.le_of_ble_eq_true rfl, Nat.le_of_ble_eq_true rfl⟩) (fPre_ofV hG hI ha (hSm _ (by omega) (by omega)) (hS.1) rfl rfl) rfl rfl hl.1 rfl (lv_room (Nat.le_of_ble_eq_true rfl)) dX4_become_113 ⟨Nat.le_of_ble_eq_true rfl, Nat.le_of_ble_eq_true rfl⟩) hI (fun E12 H locs hp hI => ?_)
  obtain ⟨hE9, hn9⟩ := hp
  have hS := hS.row (j := 8) (by decide) hE9 (fun q hq => hn9 q hq)
  rw [p_cp_s] at hS
  have hO := hO.kept (fun q h1 h2 => hn9 q (by omega))
  have hfr : ∀ q : Nat, (q < sb ∨ sb + 11 ≤ q) → E12 q = E q := fun q hq => (hn9 q (by omega)).trans (hfr q hq)
  refine lv_aload_n hx hb dX4_become_116 rfl (lv_at hl 0 rfl) ?_
  refine lv_aload_n hx hb dX4_become_117 rfl (lv_at hl 1 rfl) ?_
  refine f_get (ci := 4) (v := .ref (ad (so + 1 + 9))) (C := RX4) (T := TX4) (N := 12) hx hb hts (by decide +kernel) hown hG.1 hI hao (hOm _ (by omega) (by omega)) (hO.1) rfl 10 (by decide) (hts (.fieldLink RX4 43 "CoracleRaceModel$State" "strokes" "[I") (by decide +kernel)) rfl dX4_become_118 ?_
  refine lv_aload_n hx hb dX4_become_121 rfl (lv_at hl 0 rfl) ?_
  refine f_get (ci := 4) (v := .ref (ad (sb + 1 + 9))) (C := RX4) (T := TX4) (N := 12) hx hb hts (by decide +kernel) hown hG.1 hI ha (hSm _ (by omega) (by omega)) (hS.1) rfl 10 (by decide) (hts (.fieldLink RX4 43 "CoracleRaceModel$State" "strokes" "[I") (by decide +kernel)) rfl dX4_become_122 ?_
  refine f_callv1 (va_runV (As := [.ref (ad (so + 1 + 9)), .ref (ad (sb + 1 + 9))]) (rest := []) ⟨hx, hb, hml, hown, hts⟩ (m_X4_copy l (S := S) ha h60 hSm hTo hS.1 rfl rfl (hOm _ (by omega) (by omega)) (hSm _ (by omega) (by omega)) (hO.2 9 (by decide)) (hS.2 9 (by decide)) (by omega)) (cwV 2 hts gX4_become_X4_copy rfl rfl rfl (by decide +kernel) ⟨Nat.le_of_ble_eq_true rfl, Nat.le_of_ble_eq_true rfl⟩) (fPre_ofV hG hI ha (hSm _ (by omega) (by omega)) (hS.1) rfl rfl) rfl rfl hl.1 rfl (lv_room (Nat.le_of_ble_eq_true rfl)) dX4_become_125 ⟨Nat.le_of_ble_eq_true rfl, Nat.le_of_ble_eq_true rfl⟩) hI (fun E13 H locs hp hI => ?_)
  obtain ⟨hE9, hn9⟩ := hp
  have hS := hS.row (j := 9) (by decide) hE9 (fun q hq => hn9 q hq)
  rw [p_cp_s] at hS
  have hO := hO.kept (fun q h1 h2 => hn9 q (by omega))
  have hfr : ∀ q : Nat, (q < sb ∨ sb + 11 ≤ q) → E13 q = E q := fun q hq => (hn9 q (by omega)).trans (hfr q hq)
  exact f_retv hQ hx hb hr hlocks hI.2.2 (by omega) (by omega) dX4_become_128 E13 (fB_of hI) (⟨hS.eq (fun j hj => if_pos hj), hfr⟩)
