set_option maxHeartbeats 4000000 in
set_option maxRecDepth 100000 in
theorem m_L_act (l : Launch) {D : va_G} {cI cJ cB : ClassId} {t0 z : Nat} {tx ad : Nat → Nat} {E : Nat → va_E} (hl9 : l.stackTraces = false) {w p g : Nat → Int32} {nw n T : Nat} {B F : Nat → Nat → Int32} (hL0 : okL w p g nw n T B) (hT : T < 2 ^ 30) (hX : x_at cI cB ad E w p g nw n T B F) (hS : s_at cI cJ ad E w p g nw n T B F) (x : Int32) : Met l yL_act wsL_act ({ frames := 7, cells := 20, slots := 120, locals := 130 } : Room) (va_Pc [.ref (ad 0), .ref (ad 50), .int x] (fPre D cI cJ cB t0 z tx ad (fLS n) E)) (va_Qi (fun (r : Int32) (u : Nat × (Nat → Nat) × (Nat → va_E)) => r = 1 ∧ (u.2.1 0 = ad 0 ∧ u.2.1 50 = ad 50) ∧ law_st cI cJ cB T u.1 u.2.1 u.2.2) (fun u t => fB D z u.2.1 (fLS u.1) u.2.2 t) (fA z)) 20 120 (fA z) := by
  refine f_ofWH (cc := cL_act) (maxL := 9) (ret := some .boolean) (by decide) rfl (Nat.le_of_ble_eq_true rfl) ?_
  intro pr e s m args below meth c Q hx hb hr hml hTT hts hown hlocks hG H locs hI hQ ls hl
  have hl : lv_has ls 9 [(0, .ref (ad 0)), (1, .ref (ad 50)), (2, .int x)] := hl
  have hnw := hL0.1
  have hn6 := hL0.2.1
  have h8 := hL0.h8
  have hok := hL0.2.2.2.1
  have hXm := fLS_x (n := n)
  have hSm := fLS_s (n := n) hn6
  have KE : ∀ (n1 : Nat) (ad1 : Nat → Nat) (E1 : Nat → va_E) (H1 : Heap) (locs1 : List Loc) (ls1 : Array Slot) (c1 s1 pc1 : Nat), c1 ≤ 10 → s1 ≤ 60 → (ad1 0 = ad 0 ∧ ad1 50 = ad 50) → law_st cI cJ cB T n1 ad1 E1 → fI D (fA z) s.heap ad1 (fLS n1) E1 H1 locs1 → decode cL_act pc1 = .ok (.ireturn, 1) → W pr l e ({ frames := 7, cells := 20, slots := 120, locals := 130 } : Room) s m args below meth c H1 locs1 c1 s1 Q (F0 m pc1 ls1 [.int 1]) := fun n1 ad1 E1 H locs ls c1 s1 pc1 hc1 hs1 had hst hI1 hdg => f_retz hQ hx hb hr hlocks hI1.2.2 (by omega) (by omega) hdg rfl (n1, ad1, E1) (fB_of hI1) ⟨rfl, had, hst⟩
  refine lv_aload_n hx hb dL_act_0 rfl (lv_at hl 1 rfl) ?_
  have hS50 : E 50 = .inr (4, [.int (nI T), .ref (ad 51), .ref (ad 52), .int (nI nw), .ref (ad 53), .ref (ad 54)]) := hS.1
  refine f_get (ci := 4) (v := .ref (ad 53)) (C := RX4) (T := TX4) (N := 6) hx hb hts (by decide +kernel) hown hG.1 hI rfl (hSm _ (by omega)) hS50 rfl 4 (by decide) (hts (.fieldLink RL 9 "CoracleRaceLaw$Sim" "boats" "[[I") (by decide +kernel)) rfl dL_act_1 ?_
  have hS53 : E 53 = .inl (cJ, n, .inr (.inr (.inr (.inr (row_at ad 60 n))))) := hS.2.2.2.1
  refine f_alenA hx hb hG.1 hI rfl (hSm _ (by omega)) hS53 (v := nI n) rfl dL_act_4 ?_
  refine lv_if_ne (tgt := 12) hx hb dL_act_5 (by decide) (fun c_5 => ?_) (fun c_5 => ?_)
  · have hn0 : ¬ n = 0 := fun z => c_5 (by rw [z]; rfl)
    refine lv_iload_n hx hb dL_act_12 rfl (lv_at hl 2 rfl) ?_
    refine lv_iconst (v := 3) hx hb dL_act_13 (by decide) ?_
    refine lv_ishr hx hb dL_act_14 ?_
    refine lv_topi (fun sv14 _ => ?_)
    refine lv_aload_n hx hb dL_act_15 rfl (lv_at hl 1 rfl) ?_
    refine f_get (ci := 4) (v := .ref (ad 53)) (C := RX4) (T := TX4) (N := 6) hx hb hts (by decide +kernel) hown hG.1 hI rfl (hSm _ (by omega)) hS50 rfl 4 (by decide) (hts (.fieldLink RL 9 "CoracleRaceLaw$Sim" "boats" "[[I") (by decide +kernel)) rfl dL_act_16 ?_
    refine f_alenA hx hb hG.1 hI rfl (hSm _ (by omega)) hS53 (v := nI n) rfl dL_act_19 ?_
    refine f_calli1 (va_runS (As := [.int sv14, .int (nI n)]) (rest := []) ⟨hx, hb, hml, hown, hts⟩ (m_L_below l sv14 (nI n) (nI_ne0 (by omega) (by omega))) (va_cwS 2 hts gL_act_L_below rfl rfl rfl (by decide +kernel) ⟨(Nat.le_of_ble_eq_true rfl), (Nat.le_of_ble_eq_true rfl)⟩) (fPre_of hG hI) rfl rfl hl.1 rfl (lv_room (Nat.le_of_ble_eq_true rfl)) dL_act_20 ⟨(by show _ ≤ 20; omega), (by show _ ≤ 120; omega)⟩) hI (fun r1 E2 H locs hp hI => ?_)
    obtain ⟨he, hq9⟩ := hp
    rw [hq9] at hI
    obtain ⟨q20, hq20, e20⟩ := below_nat sv14 (m := n) (by omega) (by omega)
    have he : r1 = nI q20 := he.trans e20
    subst he
    refine lv_istore_n (lv' := [(3, .int (nI q20)), (0, .ref (ad 0)), (1, .ref (ad 50)), (2, .int x)]) hx hb dL_act_23 rfl hl (by decide) rfl (fun ls hl => ?_)
    refine lv_iload_n hx hb dL_act_24 rfl (lv_at hl 3 rfl) ?_
    refine lv_bipush (v := 8) hx hb dL_act_25 (by decide) ?_
    refine f_calli1 (va_runS (As := [.int x, .int 8]) (rest := []) ⟨hx, hb, hml, hown, hts⟩ (m_L_below l x 8 (by decide)) (va_cwS 2 hts gL_act_L_below rfl rfl rfl (by decide +kernel) ⟨(Nat.le_of_ble_eq_true rfl), (Nat.le_of_ble_eq_true rfl)⟩) (fPre_of hG hI) rfl rfl hl.1 rfl (lv_room (Nat.le_of_ble_eq_true rfl)) dL_act_27 ⟨(by show _ ≤ 20; omega), (by show _ ≤ 120; omega)⟩) hI (fun r3 E4 H locs hp hI => ?_)
    obtain ⟨he, hq9⟩ := hp
    rw [hq9] at hI
    obtain ⟨q27, hq27, e27⟩ := below_nat x (m := 8) (by omega) (by omega)
    have he : r3 = nI q27 := he.trans e27
    subst he
    rcases (show q27 = 0 ∨ q27 = 1 ∨ q27 = 2 ∨ q27 = 3 ∨ q27 = 4 ∨ q27 = 5 ∨ q27 = 6 ∨ q27 = 7 by omega) with rfl | rfl | rfl | rfl | rfl | rfl | rfl | rfl
    · refine lv_tableIn (tgt := 72) hx hb dL_act_30 (by decide) (by decide) rfl (by decide) ?_
      exact act_water l hx hb hml hts hown hG hl9 hTT hL0 hT rfl hX hS hI (lv_sub hl [1, 2, 3, 0] rfl) KE
    · refine lv_tableIn (tgt := 130) hx hb dL_act_30 (by decide) (by decide) rfl (by decide) ?_
      exact act_weirA l hx hb hml hts hown hG hl9 hTT hL0 hT rfl hX hS hI (lv_sub hl [1, 2, 3, 0] rfl) (fun pl ls H locs h1 h2 hI hl => act_weirB l hx hb hml hts hown hG hl9 hTT hL0 hT rfl hX hS h1 h2 hI hl KE)
    · refine lv_tableIn (tgt := 260) hx hb dL_act_30 (by decide) (by decide) rfl (by decide) ?_
      exact act_launch l hx hb hml hts hown hG hl9 hTT hL0 hT rfl hX hS hI (lv_sub hl [1, 2, 3, 0] rfl) KE
    · refine lv_tableIn (tgt := 415) hx hb dL_act_30 (by decide) (by decide) rfl (by decide) ?_
      exact act_paddle l hx hb hml hts hown hG hl9 hTT hL0 hT rfl hX hS (b := q20) hq20 hI (lv_sub hl [1, 2, 3, 0] rfl) KE
    · refine lv_tableIn (tgt := 415) hx hb dL_act_30 (by decide) (by decide) rfl (by decide) ?_
      exact act_paddle l hx hb hml hts hown hG hl9 hTT hL0 hT rfl hX hS (b := q20) hq20 hI (lv_sub hl [1, 2, 3, 0] rfl) KE
    · refine lv_tableIn (tgt := 415) hx hb dL_act_30 (by decide) (by decide) rfl (by decide) ?_
      exact act_paddle l hx hb hml hts hown hG hl9 hTT hL0 hT rfl hX hS (b := q20) hq20 hI (lv_sub hl [1, 2, 3, 0] rfl) KE
    · refine lv_tableIn (tgt := 415) hx hb dL_act_30 (by decide) (by decide) rfl (by decide) ?_
      exact act_paddle l hx hb hml hts hown hG hl9 hTT hL0 hT rfl hX hS (b := q20) hq20 hI (lv_sub hl [1, 2, 3, 0] rfl) KE
    · refine lv_tableOut (tgt := 541) hx hb dL_act_30 (by decide) (by decide) ?_
      exact act_tar l hx hb hml hts hown hG hl9 hTT hL0 hT rfl hX hS (b := q20) hq20 hI (lv_sub hl [1, 2, 3, 0] rfl) KE
  · refine lv_iconst (v := -1) hx hb dL_act_8 (by decide) ?_
    refine lv_goto (tgt := 23) hx hb dL_act_9 (by decide) ?_
    refine lv_istore_n (lv' := [(3, .int (-1)), (0, .ref (ad 0)), (1, .ref (ad 50)), (2, .int x)]) hx hb dL_act_23 rfl hl (by decide) rfl (fun ls hl => ?_)
    refine lv_iload_n hx hb dL_act_24 rfl (lv_at hl 3 rfl) ?_
    refine lv_bipush (v := 8) hx hb dL_act_25 (by decide) ?_
    refine f_calli1 (va_runS (As := [.int x, .int 8]) (rest := []) ⟨hx, hb, hml, hown, hts⟩ (m_L_below l x 8 (by decide)) (va_cwS 2 hts gL_act_L_below rfl rfl rfl (by decide +kernel) ⟨(Nat.le_of_ble_eq_true rfl), (Nat.le_of_ble_eq_true rfl)⟩) (fPre_of hG hI) rfl rfl hl.1 rfl (lv_room (Nat.le_of_ble_eq_true rfl)) dL_act_27 ⟨(by show _ ≤ 20; omega), (by show _ ≤ 120; omega)⟩) hI (fun r5 E6 H locs hp hI => ?_)
    obtain ⟨he, hq9⟩ := hp
    rw [hq9] at hI
    obtain ⟨q27, hq27, e27⟩ := below_nat x (m := 8) (by omega) (by omega)
    have he : r5 = nI q27 := he.trans e27
    subst he
    rcases (show q27 = 0 ∨ q27 = 1 ∨ q27 = 2 ∨ q27 = 3 ∨ q27 = 4 ∨ q27 = 5 ∨ q27 = 6 ∨ q27 = 7 by omega) with rfl | rfl | rfl | rfl | rfl | rfl | rfl | rfl
    · refine lv_tableIn (tgt := 72) hx hb dL_act_30 (by decide) (by decide) rfl (by decide) ?_
      exact act_water l hx hb hml hts hown hG hl9 hTT hL0 hT rfl hX hS hI (lv_sub hl [1, 2, 3, 0] rfl) KE
    · refine lv_tableIn (tgt := 130) hx hb dL_act_30 (by decide) (by decide) rfl (by decide) ?_
      exact act_weirA l hx hb hml hts hown hG hl9 hTT hL0 hT rfl hX hS hI (lv_sub hl [1, 2, 3, 0] rfl) (fun pl ls H locs h1 h2 hI hl => act_weirB l hx hb hml hts hown hG hl9 hTT hL0 hT rfl hX hS h1 h2 hI hl KE)
    · refine lv_tableIn (tgt := 260) hx hb dL_act_30 (by decide) (by decide) rfl (by decide) ?_
      exact act_launch l hx hb hml hts hown hG hl9 hTT hL0 hT rfl hX hS hI (lv_sub hl [1, 2, 3, 0] rfl) KE
    · refine lv_tableIn (tgt := 415) hx hb dL_act_30 (by decide) (by decide) rfl (by decide) ?_
      exact act_noneA l hx hb hml hts hown hG hl9 hTT hL0 hT rfl hX hS hI (lv_sub hl [1, 2, 3, 0] rfl) KE
    · refine lv_tableIn (tgt := 415) hx hb dL_act_30 (by decide) (by decide) rfl (by decide) ?_
      exact act_noneA l hx hb hml hts hown hG hl9 hTT hL0 hT rfl hX hS hI (lv_sub hl [1, 2, 3, 0] rfl) KE
    · refine lv_tableIn (tgt := 415) hx hb dL_act_30 (by decide) (by decide) rfl (by decide) ?_
      exact act_noneA l hx hb hml hts hown hG hl9 hTT hL0 hT rfl hX hS hI (lv_sub hl [1, 2, 3, 0] rfl) KE
    · refine lv_tableIn (tgt := 415) hx hb dL_act_30 (by decide) (by decide) rfl (by decide) ?_
      exact act_noneA l hx hb hml hts hown hG hl9 hTT hL0 hT rfl hX hS hI (lv_sub hl [1, 2, 3, 0] rfl) KE
    · refine lv_tableOut (tgt := 541) hx hb dL_act_30 (by decide) (by decide) ?_
      exact act_noneB l hx hb hml hts hown hG hl9 hTT hL0 hT rfl hX hS hI (lv_sub hl [1, 2, 3, 0] rfl) KE
