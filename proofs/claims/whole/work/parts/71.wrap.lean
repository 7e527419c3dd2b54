set_option maxHeartbeats 4000000 in
set_option maxRecDepth 100000 in
theorem m_L_setWater (l : Launch) {D : va_G} {cI cJ cB : ClassId} {t0 z : Nat} {tx ad : Nat → Nat} {L : List Nat} {E : Nat → va_E} (hl9 : l.stackTraces = false) {w p g : Nat → Int32} {nw n T : Nat} {Bs Fs : Nat → Nat → Int32} (hX : x_at cI cB ad E w p g nw n T Bs Fs) (hnW : nw ≤ 6) (hn6 : n ≤ 6) (hTb : T < 2 ^ 30) (h8 : ∀ i, i < n → Bs i 8 = 0 ∨ Bs i 8 = 1) (hXm : ∀ k, k < 5 ∨ (10 ≤ k ∧ k < 24) ∨ (30 ≤ k ∧ k < 44) → k ∈ L) (h45 : 45 ∈ L) {fo : Nat → Int64} (hO : E 45 = .inl (cJ, 1, .inr (.inl fo))) (x y : Int32) : Met l yL_setWater wsL_setWater ({ frames := 7, cells := 1, slots := 6, locals := 105 } : Room) (va_Pc [.ref (ad 0), .int x, .int y, .ref (ad 45)] (fPre D cI cJ cB t0 z tx ad L E)) (va_Qi (fun (r : Int32) (E1 : Nat → va_E) => (c_water x y = 0 ∧ r = 0 ∧ E1 45 = .inl (cJ, 1, .inr (.inl (vp_updL fo 0 (w x.toNatClampNeg).toInt64))) ∧ x_at cI cB ad E1 (upd w x.toNatClampNeg y) p g nw n T Bs Fs ∧ ∀ q : Nat, 44 ≤ q → q ≠ 45 → E1 q = E q) ∨ (¬ c_water x y = 0 ∧ r = c_water x y ∧ E1 = E)) (fB D z ad L) (fA z)) 1 6 (fA z) := by
  refine f_ofWH (cc := cL_setWater) (maxL := 5) (ret := some .int) (by decide) rfl (Nat.le_of_ble_eq_true rfl) ?_
  intro pr e s m args below meth c Q hx hb hr hml hTT hts hown hlocks hG H locs hI hQ ls hl
  have hl : lv_has ls 5 [(0, .ref (ad 0)), (1, .int x), (2, .int y), (3, .ref (ad 45))] := hl
  have hO : E 45 = .inl (cJ, 1, .inr (.inl fo)) := hO
  refine lv_aload_n hx hb dL_setWater_0 rfl (lv_at hl 3 rfl) ?_
  refine lv_iconst (v := 0) hx hb dL_setWater_1 (by decide) ?_
  refine lv_aload_n hx hb dL_setWater_2 rfl (lv_at hl 0 rfl) ?_
  refine lv_iload_n hx hb dL_setWater_3 rfl (lv_at hl 1 rfl) ?_
  refine lv_iload_n hx hb dL_setWater_4 rfl (lv_at hl 2 rfl) ?_
  refine f_xcalli (vx_runV (As := [.int x, .int y]) (rest := [.int 0, .ref (ad 45)]) ⟨hx, hb, hml, hown, hts⟩ (m_X3_setWater l hl9 hX hnW hn6 hTb h8 hXm x y) (cwV 2 hts gL_setWater_X3_setWater rfl rfl rfl (by decide +kernel) ⟨(Nat.le_of_ble_eq_true rfl), (Nat.le_of_ble_eq_true rfl)⟩) (fPre_ofV hG hI rfl (hXm 0 (by omega)) hX.1 rfl rfl) rfl rfl hl.1 rfl (lv_room (Nat.le_of_ble_eq_true rfl)) dL_setWater_5 ⟨(Nat.le_of_ble_eq_true rfl), (Nat.le_of_ble_eq_true rfl)⟩) hI (fun En ce q9 H locs hok hI hq1 hq2 hq3 => ?_) (fun r1 E1 H locs hp hI => ?_)
  · rcases hok with ⟨hc, rfl⟩ | ⟨hc, rfl⟩
    · refine vx_catch (E := fIO) (name := fIO) hown [] ⟨0, 10, 13, 13⟩ [(⟨0, 10, 17, 15⟩ : ExceptionTableEntry)] (hTT.trans rfl) (fun z hz => absurd hz List.not_mem_nil) (by decide) (by decide) (hts (.classLink RL 13 fIO) (by decide +kernel)) (fNest_use (by simp [fNest]) (hG.2.1 (.castable fIO fIO) (by simp [fNest]))) hq1 hq2 hq3 ?_
      refine lv_astore (lv' := [(4, .ref q9), (0, .ref (ad 0)), (1, .int x), (2, .int y), (3, .ref (ad 45))]) hx hb dL_setWater_13 hl (by decide) rfl (fun ls hl => ?_)
      refine lv_iconst (v := 1) hx hb dL_setWater_15 (by decide) ?_
      exact f_reti hQ hx hb hr hlocks hI.2.2 (by omega) (by omega) dL_setWater_16 E (fB_of hI) (Or.inr ⟨by rw [hc]; decide, hc.symm, rfl⟩)
    · refine vx_catch (E := fIA) (name := fIA) hown [(⟨0, 10, 13, 13⟩ : ExceptionTableEntry)] ⟨0, 10, 17, 15⟩ [] (hTT.trans rfl) (fun z hz => by rw [List.mem_singleton.mp hz]; exact Or.inr ⟨by decide, fIO, (hts (.classLink RL 13 fIO) (by decide +kernel)), hG.2.2.2.2.2.2.2.2 (fIA, fIO) (by simp [fNcs])⟩) (by decide) (by decide) (hts (.classLink RL 15 fIA) (by decide +kernel)) (fNest_use (by simp [fNest]) (hG.2.1 (.castable fIA fIA) (by simp [fNest]))) hq1 hq2 hq3 ?_
      refine lv_astore (lv' := [(4, .ref q9), (0, .ref (ad 0)), (1, .int x), (2, .int y), (3, .ref (ad 45))]) hx hb dL_setWater_17 hl (by decide) rfl (fun ls hl => ?_)
      refine lv_iconst (v := 2) hx hb dL_setWater_19 (by decide) ?_
      exact f_reti hQ hx hb hr hlocks hI.2.2 (by omega) (by omega) dL_setWater_20 E (fB_of hI) (Or.inr ⟨by rw [hc]; decide, hc.symm, rfl⟩)
  · obtain ⟨hc, hr1, hX1, hn9⟩ := hp
    subst hr1
    have hO : E1 45 = .inl (cJ, 1, .inr (.inl fo)) := (hn9 45 (by omega)).trans hO
    refine lv_i2l hx hb dL_setWater_8 rfl ?_
    refine f_last hx hb hG.1 hI rfl h45 hO (vp_in_iff.mpr ⟨by decide, by decide⟩) dL_setWater_9 (fun E1 H locs hE2 hn3 hI => ?_)
    have hO : E1 45 = .inl (cJ, 1, .inr (.inl (vp_updL fo 0 (w x.toNatClampNeg).toInt64))) := hE2
    refine lv_goto (tgt := 21) hx hb dL_setWater_10 (by decide) ?_
    refine lv_iconst (v := 0) hx hb dL_setWater_21 (by decide) ?_
    exact f_reti hQ hx hb hr hlocks hI.2.2 (by omega) (by omega) dL_setWater_22 E1 (fB_of hI) (Or.inl ⟨hc, rfl, hO, hX1.kept (fun q hq => hn3 q (by omega)), fun q h1 h2 => (hn3 q h2).trans (hn9 q h1)⟩)

set_option maxHeartbeats 4000000 in
set_option maxRecDepth 100000 in
theorem m_L_weir (l : Launch) {D : va_G} {cI cJ cB : ClassId} {t0 z : Nat} {tx ad : Nat → Nat} {L : List Nat} {E : Nat → va_E} (hl9 : l.stackTraces = false) {w p g : Nat → Int32} {nw n T : Nat} {Bs Fs : Nat → Nat → Int32} (hX : x_at cI cB ad E w p g nw n T Bs Fs) (hnW : nw ≤ 6) (hn6 : n ≤ 6) (hTb : T < 2 ^ 30) (h8 : ∀ i, i < n → Bs i 8 = 0 ∨ Bs i 8 = 1) (hXm : ∀ k, k < 5 ∨ (10 ≤ k ∧ k < 24) ∨ (30 ≤ k ∧ k < 44) → k ∈ L) (h45 : 45 ∈ L) {fo : Nat → Int64} (hO : E 45 = .inl (cJ, 1, .inr (.inl fo))) (x y : Int32) : Met l yL_weir wsL_weir ({ frames := 7, cells := 1, slots := 6, locals := 104 } : Room) (va_Pc [.ref (ad 0), .int x, .int y, .ref (ad 45)] (fPre D cI cJ cB t0 z tx ad L E)) (va_Qi (fun (r : Int32) (E1 : Nat → va_E) => (c_weir p nw x y = 0 ∧ r = 0 ∧ E1 45 = .inl (cJ, 1, .inr (.inl (vp_updL fo 0 (nI (nw + 1)).toInt64))) ∧ x_at cI cB ad E1 w (upd p nw x) (upd g nw y) (nw + 1) n T Bs Fs ∧ ∀ q : Nat, 44 ≤ q → q ≠ 45 → E1 q = E q) ∨ (¬ c_weir p nw x y = 0 ∧ r = c_weir p nw x y ∧ E1 = E)) (fB D z ad L) (fA z)) 1 6 (fA z) := by
  refine f_ofWH (cc := cL_weir) (maxL := 5) (ret := some .int) (by decide) rfl (Nat.le_of_ble_eq_true rfl) ?_
  intro pr e s m args below meth c Q hx hb hr hml hTT hts hown hlocks hG H locs hI hQ ls hl
  have hl : lv_has ls 5 [(0, .ref (ad 0)), (1, .int x), (2, .int y), (3, .ref (ad 45))] := hl
  have hO : E 45 = .inl (cJ, 1, .inr (.inl fo)) := hO
  refine lv_aload_n hx hb dL_weir_0 rfl (lv_at hl 3 rfl) ?_
  refine lv_iconst (v := 0) hx hb dL_weir_1 (by decide) ?_
  refine lv_aload_n hx hb dL_weir_2 rfl (lv_at hl 0 rfl) ?_
  refine lv_iload_n hx hb dL_weir_3 rfl (lv_at hl 1 rfl) ?_
  refine lv_iload_n hx hb dL_weir_4 rfl (lv_at hl 2 rfl) ?_
  refine f_xcalli (vx_runV (As := [.int x, .int y]) (rest := [.int 0, .ref (ad 45)]) ⟨hx, hb, hml, hown, hts⟩ (m_X3_weir l hl9 hX hnW hn6 hTb h8 hXm x y) (cwV 2 hts gL_weir_X3_weir rfl rfl rfl (by decide +kernel) ⟨(Nat.le_of_ble_eq_true rfl), (Nat.le_of_ble_eq_true rfl)⟩) (fPre_ofV hG hI rfl (hXm 0 (by omega)) hX.1 rfl rfl) rfl rfl hl.1 rfl (lv_room (Nat.le_of_ble_eq_true rfl)) dL_weir_5 ⟨(Nat.le_of_ble_eq_true rfl), (Nat.le_of_ble_eq_true rfl)⟩) hI (fun En ce q9 H locs hok hI hq1 hq2 hq3 => ?_) (fun r1 E1 H locs hp hI => ?_)
  · rcases hok with ⟨hc, rfl⟩ | ⟨hc, rfl⟩
    · refine vx_catch (E := fIA) (name := fIA) hown [] ⟨0, 10, 13, 15⟩ [(⟨0, 10, 17, 20⟩ : ExceptionTableEntry)] (hTT.trans rfl) (fun z hz => absurd hz List.not_mem_nil) (by decide) (by decide) (hts (.classLink RL 15 fIA) (by decide +kernel)) (fNest_use (by simp [fNest]) (hG.2.1 (.castable fIA fIA) (by simp [fNest]))) hq1 hq2 hq3 ?_
      refine lv_astore (lv' := [(4, .ref q9), (0, .ref (ad 0)), (1, .int x), (2, .int y), (3, .ref (ad 45))]) hx hb dL_weir_13 hl (by decide) rfl (fun ls hl => ?_)
      refine lv_iconst (v := 1) hx hb dL_weir_15 (by decide) ?_
      exact f_reti hQ hx hb hr hlocks hI.2.2 (by omega) (by omega) dL_weir_16 E (fB_of hI) (Or.inr ⟨by rw [hc]; decide, hc.symm, rfl⟩)
    · refine vx_catch (E := fIS) (name := fIS) hown [(⟨0, 10, 13, 15⟩ : ExceptionTableEntry)] ⟨0, 10, 17, 20⟩ [] (hTT.trans rfl) (fun z hz => by rw [List.mem_singleton.mp hz]; exact Or.inr ⟨by decide, fIA, (hts (.classLink RL 15 fIA) (by decide +kernel)), hG.2.2.2.2.2.2.2.2 (fIS, fIA) (by simp [fNcs])⟩) (by decide) (by decide) (hts (.classLink RL 20 fIS) (by decide +kernel)) (fNest_use (by simp [fNest]) (hG.2.1 (.castable fIS fIS) (by simp [fNest]))) hq1 hq2 hq3 ?_
      refine lv_astore (lv' := [(4, .ref q9), (0, .ref (ad 0)), (1, .int x), (2, .int y), (3, .ref (ad 45))]) hx hb dL_weir_17 hl (by decide) rfl (fun ls hl => ?_)
      refine lv_iconst (v := 2) hx hb dL_weir_19 (by decide) ?_
      exact f_reti hQ hx hb hr hlocks hI.2.2 (by omega) (by omega) dL_weir_20 E (fB_of hI) (Or.inr ⟨by rw [hc]; decide, hc.symm, rfl⟩)
  · obtain ⟨hc, hr1, hX1, hn9⟩ := hp
    subst hr1
    have hO : E1 45 = .inl (cJ, 1, .inr (.inl fo)) := (hn9 45 (by omega)).trans hO
    refine lv_i2l hx hb dL_weir_8 rfl ?_
    refine f_last hx hb hG.1 hI rfl h45 hO (vp_in_iff.mpr ⟨by decide, by decide⟩) dL_weir_9 (fun E1 H locs hE2 hn3 hI => ?_)
    have hO : E1 45 = .inl (cJ, 1, .inr (.inl (vp_updL fo 0 (nI (nw + 1)).toInt64))) := hE2
    refine lv_goto (tgt := 21) hx hb dL_weir_10 (by decide) ?_
    refine lv_iconst (v := 0) hx hb dL_weir_21 (by decide) ?_
    exact f_reti hQ hx hb hr hlocks hI.2.2 (by omega) (by omega) dL_weir_22 E1 (fB_of hI) (Or.inl ⟨hc, rfl, hO, hX1.kept (fun q hq => hn3 q (by omega)), fun q h1 h2 => (hn3 q h2).trans (hn9 q h1)⟩)

set_option maxHeartbeats 4000000 in
set_option maxRecDepth 100000 in
theorem m_L_launch (l : Launch) {D : va_G} {cI cJ cB : ClassId} {t0 z : Nat} {tx ad : Nat → Nat} {L : List Nat} {E : Nat → va_E} (hl9 : l.stackTraces = false) {w p g : Nat → Int32} {nw n T : Nat} {Bs Fs : Nat → Nat → Int32} (hX : x_at cI cB ad E w p g nw n T Bs Fs) (hnW : nw ≤ 6) (hn6 : n ≤ 6) (hTb : T < 2 ^ 30) (h8 : ∀ i, i < n → Bs i 8 = 0 ∨ Bs i 8 = 1) (hXm : ∀ k, k < 5 ∨ (10 ≤ k ∧ k < 24) ∨ (30 ≤ k ∧ k < 44) → k ∈ L) (h45 : 45 ∈ L) {fo : Nat → Int64} (hO : E 45 = .inl (cJ, 1, .inr (.inl fo))) (x y : Int32) : Met l yL_launch wsL_launch ({ frames := 7, cells := 1, slots := 6, locals := 104 } : Room) (va_Pc [.ref (ad 0), .int x, .int y, .ref (ad 45)] (fPre D cI cJ cB t0 z tx ad L E)) (va_Qi (fun (r : Int32) (E1 : Nat → va_E) => (c_launch n x y = 0 ∧ r = 0 ∧ E1 45 = .inl (cJ, 1, .inr (.inl (vp_updL fo 0 (nI n).toInt64))) ∧ x_at cI cB ad E1 w p g nw (n + 1) T (va_up Bs n (p_new (Bs n) x y)) (va_up Fs n (p_row (Fs n) 1 3)) ∧ ∀ q : Nat, 44 ≤ q → q ≠ 45 → E1 q = E q) ∨ (¬ c_launch n x y = 0 ∧ r = c_launch n x y ∧ E1 = E)) (fB D z ad L) (fA z)) 1 6 (fA z) := by
  refine f_ofWH (cc := cL_launch) (maxL := 5) (ret := some .int) (by decide) rfl (Nat.le_of_ble_eq_true rfl) ?_
  intro pr e s m args below meth c Q hx hb hr hml hTT hts hown hlocks hG H locs hI hQ ls hl
  have hl : lv_has ls 5 [(0, .ref (ad 0)), (1, .int x), (2, .int y), (3, .ref (ad 45))] := hl
  have hO : E 45 = .inl (cJ, 1, .inr (.inl fo)) := hO
  refine lv_aload_n hx hb dL_launch_0 rfl (lv_at hl 3 rfl) ?_
  refine lv_iconst (v := 0) hx hb dL_launch_1 (by decide) ?_
  refine lv_aload_n hx hb dL_launch_2 rfl (lv_at hl 0 rfl) ?_
  refine lv_iload_n hx hb dL_launch_3 rfl (lv_at hl 1 rfl) ?_
  refine lv_iload_n hx hb dL_launch_4 rfl (lv_at hl 2 rfl) ?_
  refine f_xcalli (vx_runV (As := [.int x, .int y]) (rest := [.int 0, .ref (ad 45)]) ⟨hx, hb, hml, hown, hts⟩ (m_X3_launch l hl9 hX hnW hn6 hTb h8 hXm x y) (cwV 2 hts gL_launch_X3_launch rfl rfl rfl (by decide +kernel) ⟨(Nat.le_of_ble_eq_true rfl), (Nat.le_of_ble_eq_true rfl)⟩) (fPre_ofV hG hI rfl (hXm 0 (by omega)) hX.1 rfl rfl) rfl rfl hl.1 rfl (lv_room (Nat.le_of_ble_eq_true rfl)) dL_launch_5 ⟨(Nat.le_of_ble_eq_true rfl), (Nat.le_of_ble_eq_true rfl)⟩) hI (fun En ce q9 H locs hok hI hq1 hq2 hq3 => ?_) (fun r1 E1 H locs hp hI => ?_)
  · rcases hok with ⟨hc, rfl⟩ | ⟨hc, rfl⟩
    · refine vx_catch (E := fIA) (name := fIA) hown [] ⟨0, 10, 13, 15⟩ [(⟨0, 10, 17, 20⟩ : ExceptionTableEntry)] (hTT.trans rfl) (fun z hz => absurd hz List.not_mem_nil) (by decide) (by decide) (hts (.classLink RL 15 fIA) (by decide +kernel)) (fNest_use (by simp [fNest]) (hG.2.1 (.castable fIA fIA) (by simp [fNest]))) hq1 hq2 hq3 ?_
      refine lv_astore (lv' := [(4, .ref q9), (0, .ref (ad 0)), (1, .int x), (2, .int y), (3, .ref (ad 45))]) hx hb dL_launch_13 hl (by decide) rfl (fun ls hl => ?_)
      refine lv_iconst (v := 1) hx hb dL_launch_15 (by decide) ?_
      exact f_reti hQ hx hb hr hlocks hI.2.2 (by omega) (by omega) dL_launch_16 E (fB_of hI) (Or.inr ⟨by rw [hc]; decide, hc.symm, rfl⟩)
    · refine vx_catch (E := fIS) (name := fIS) hown [(⟨0, 10, 13, 15⟩ : ExceptionTableEntry)] ⟨0, 10, 17, 20⟩ [] (hTT.trans rfl) (fun z hz => by rw [List.mem_singleton.mp hz]; exact Or.inr ⟨by decide, fIA, (hts (.classLink RL 15 fIA) (by decide +kernel)), hG.2.2.2.2.2.2.2.2 (fIS, fIA) (by simp [fNcs])⟩) (by decide) (by decide) (hts (.classLink RL 20 fIS) (by decide +kernel)) (fNest_use (by simp [fNest]) (hG.2.1 (.castable fIS fIS) (by simp [fNest]))) hq1 hq2 hq3 ?_
      refine lv_astore (lv' := [(4, .ref q9), (0, .ref (ad 0)), (1, .int x), (2, .int y), (3, .ref (ad 45))]) hx hb dL_launch_17 hl (by decide) rfl (fun ls hl => ?_)
      refine lv_iconst (v := 2) hx hb dL_launch_19 (by decide) ?_
      exact f_reti hQ hx hb hr hlocks hI.2.2 (by omega) (by omega) dL_launch_20 E (fB_of hI) (Or.inr ⟨by rw [hc]; decide, hc.symm, rfl⟩)
  · obtain ⟨hc, hr1, hX1, hn9⟩ := hp
    subst hr1
    have hO : E1 45 = .inl (cJ, 1, .inr (.inl fo)) := (hn9 45 (by omega)).trans hO
    refine lv_i2l hx hb dL_launch_8 rfl ?_
    refine f_last hx hb hG.1 hI rfl h45 hO (vp_in_iff.mpr ⟨by decide, by decide⟩) dL_launch_9 (fun E1 H locs hE2 hn3 hI => ?_)
    have hO : E1 45 = .inl (cJ, 1, .inr (.inl (vp_updL fo 0 (nI n).toInt64))) := hE2
    refine lv_goto (tgt := 21) hx hb dL_launch_10 (by decide) ?_
    refine lv_iconst (v := 0) hx hb dL_launch_21 (by decide) ?_
    exact f_reti hQ hx hb hr hlocks hI.2.2 (by omega) (by omega) dL_launch_22 E1 (fB_of hI) (Or.inl ⟨hc, rfl, hO, hX1.kept (fun q hq => hn3 q (by omega)), fun q h1 h2 => (hn3 q h2).trans (hn9 q h1)⟩)

set_option maxHeartbeats 4000000 in
set_option maxRecDepth 100000 in
theorem m_L_paddle (l : Launch) {D : va_G} {cI cJ cB : ClassId} {t0 z : Nat} {tx ad : Nat → Nat} {L : List Nat} {E : Nat → va_E} (hl9 : l.stackTraces = false) {w p g : Nat → Int32} {nw n T : Nat} {Bs Fs : Nat → Nat → Int32} (hX : x_at cI cB ad E w p g nw n T Bs Fs) (hnW : nw ≤ 6) (hn6 : n ≤ 6) (hTb : T < 2 ^ 30) (h8 : ∀ i, i < n → Bs i 8 = 0 ∨ Bs i 8 = 1) (hXm : ∀ k, k < 5 ∨ (10 ≤ k ∧ k < 24) ∨ (30 ≤ k ∧ k < 44) → k ∈ L) (h45 : 45 ∈ L) {fo : Nat → Int64} (hO : E 45 = .inl (cJ, 1, .inr (.inl fo))) (x len y : Int32) : Met l yL_paddle wsL_paddle ({ frames := 7, cells := 1, slots := 6, locals := 106 } : Room) (va_Pc [.ref (ad 0), .int x, .int len, .int y, .ref (ad 45)] (fPre D cI cJ cB t0 z tx ad L E)) (va_Qi (fun (r : Int32) (E1 : Nat → va_E) => (c_paddle n x len y = 0 ∧ r = 0 ∧ E1 45 = .inl (cJ, 1, .inr (.inl (vp_updL fo 0 (Bs x.toNatClampNeg 1).toInt64))) ∧ x_at cI cB ad E1 w p g nw n T (va_up Bs x.toNatClampNeg (va_up (Bs x.toNatClampNeg) 1 len)) (va_up Fs x.toNatClampNeg (p_row (Fs x.toNatClampNeg) len.toNatClampNeg y)) ∧ ∀ q : Nat, 44 ≤ q → q ≠ 45 → E1 q = E q) ∨ (¬ c_paddle n x len y = 0 ∧ r = c_paddle n x len y ∧ E1 = E)) (fB D z ad L) (fA z)) 1 6 (fA z) := by
  refine f_ofWH (cc := cL_paddle) (maxL := 6) (ret := some .int) (by decide) rfl (Nat.le_of_ble_eq_true rfl) ?_
  intro pr e s m args below meth c Q hx hb hr hml hTT hts hown hlocks hG H locs hI hQ ls hl
  have hl : lv_has ls 6 [(0, .ref (ad 0)), (1, .int x), (2, .int len), (3, .int y), (4, .ref (ad 45))] := hl
  have hO : E 45 = .inl (cJ, 1, .inr (.inl fo)) := hO
  refine lv_aload hx hb dL_paddle_0 (lv_at hl 4 rfl) ?_
  refine lv_iconst (v := 0) hx hb dL_paddle_2 (by decide) ?_
  refine lv_aload_n hx hb dL_paddle_3 rfl (lv_at hl 0 rfl) ?_
  refine lv_iload_n hx hb dL_paddle_4 rfl (lv_at hl 1 rfl) ?_
  refine lv_iload_n hx hb dL_paddle_5 rfl (lv_at hl 2 rfl) ?_
  refine lv_iload_n hx hb dL_paddle_6 rfl (lv_at hl 3 rfl) ?_
  refine f_xcalli (vx_runV (As := [.int x, .int len, .int y]) (rest := [.int 0, .ref (ad 45)]) ⟨hx, hb, hml, hown, hts⟩ (m_X3_paddle l hl9 hX hnW hn6 hTb h8 hXm x len y) (cwV 3 hts gL_paddle_X3_paddle rfl rfl rfl (by decide +kernel) ⟨(Nat.le_of_ble_eq_true rfl), (Nat.le_of_ble_eq_true rfl)⟩) (fPre_ofV hG hI rfl (hXm 0 (by omega)) hX.1 rfl rfl) rfl rfl hl.1 rfl (lv_room (Nat.le_of_ble_eq_true rfl)) dL_paddle_7 ⟨(Nat.le_of_ble_eq_true rfl), (Nat.le_of_ble_eq_true rfl)⟩) hI (fun En ce q9 H locs hok hI hq1 hq2 hq3 => ?_) (fun r1 E1 H locs hp hI => ?_)
  · rcases hok with ⟨hc, rfl⟩ | ⟨hc, rfl⟩
    · refine vx_catch (E := fIO) (name := fIO) hown [] ⟨0, 12, 15, 13⟩ [(⟨0, 12, 19, 15⟩ : ExceptionTableEntry)] (hTT.trans rfl) (fun z hz => absurd hz List.not_mem_nil) (by decide) (by decide) (hts (.classLink RL 13 fIO) (by decide +kernel)) (fNest_use (by simp [fNest]) (hG.2.1 (.castable fIO fIO) (by simp [fNest]))) hq1 hq2 hq3 ?_
      refine lv_astore (lv' := [(5, .ref q9), (0, .ref (ad 0)), (1, .int x), (2, .int len), (3, .int y), (4, .ref (ad 45))]) hx hb dL_paddle_15 hl (by decide) rfl (fun ls hl => ?_)
      refine lv_iconst (v := 1) hx hb dL_paddle_17 (by decide) ?_
      exact f_reti hQ hx hb hr hlocks hI.2.2 (by omega) (by omega) dL_paddle_18 E (fB_of hI) (Or.inr ⟨by rw [hc]; decide, hc.symm, rfl⟩)
    · refine vx_catch (E := fIA) (name := fIA) hown [(⟨0, 12, 15, 13⟩ : ExceptionTableEntry)] ⟨0, 12, 19, 15⟩ [] (hTT.trans rfl) (fun z hz => by rw [List.mem_singleton.mp hz]; exact Or.inr ⟨by decide, fIO, (hts (.classLink RL 13 fIO) (by decide +kernel)), hG.2.2.2.2.2.2.2.2 (fIA, fIO) (by simp [fNcs])⟩) (by decide) (by decide) (hts (.classLink RL 15 fIA) (by decide +kernel)) (fNest_use (by simp [fNest]) (hG.2.1 (.castable fIA fIA) (by simp [fNest]))) hq1 hq2 hq3 ?_
      refine lv_astore (lv' := [(5, .ref q9), (0, .ref (ad 0)), (1, .int x), (2, .int len), (3, .int y), (4, .ref (ad 45))]) hx hb dL_paddle_19 hl (by decide) rfl (fun ls hl => ?_)
      refine lv_iconst (v := 2) hx hb dL_paddle_21 (by decide) ?_
      exact f_reti hQ hx hb hr hlocks hI.2.2 (by omega) (by omega) dL_paddle_22 E (fB_of hI) (Or.inr ⟨by rw [hc]; decide, hc.symm, rfl⟩)
  · obtain ⟨hc, hr1, hX1, hn9⟩ := hp
    subst hr1
    have hO : E1 45 = .inl (cJ, 1, .inr (.inl fo)) := (hn9 45 (by omega)).trans hO
    refine lv_i2l hx hb dL_paddle_10 rfl ?_
    refine f_last hx hb hG.1 hI rfl h45 hO (vp_in_iff.mpr ⟨by decide, by decide⟩) dL_paddle_11 (fun E1 H locs hE2 hn3 hI => ?_)
    have hO : E1 45 = .inl (cJ, 1, .inr (.inl (vp_updL fo 0 (Bs x.toNatClampNeg 1).toInt64))) := hE2
    refine lv_goto (tgt := 23) hx hb dL_paddle_12 (by decide) ?_
    refine lv_iconst (v := 0) hx hb dL_paddle_23 (by decide) ?_
    exact f_reti hQ hx hb hr hlocks hI.2.2 (by omega) (by omega) dL_paddle_24 E1 (fB_of hI) (Or.inl ⟨hc, rfl, hO, hX1.kept (fun q hq => hn3 q (by omega)), fun q h1 h2 => (hn3 q h2).trans (hn9 q h1)⟩)

set_option maxHeartbeats 4000000 in
set_option maxRecDepth 100000 in
theorem m_L_tar (l : Launch) {D : va_G} {cI cJ cB : ClassId} {t0 z : Nat} {tx ad : Nat → Nat} {L : List Nat} {E : Nat → va_E} (hl9 : l.stackTraces = false) {w p g : Nat → Int32} {nw n T : Nat} {Bs Fs : Nat → Nat → Int32} (hX : x_at cI cB ad E w p g nw n T Bs Fs) (hnW : nw ≤ 6) (hn6 : n ≤ 6) (hTb : T < 2 ^ 30) (h8 : ∀ i, i < n → Bs i 8 = 0 ∨ Bs i 8 = 1) (hXm : ∀ k, k < 5 ∨ (10 ≤ k ∧ k < 24) ∨ (30 ≤ k ∧ k < 44) → k ∈ L) (h45 : 45 ∈ L) {fo : Nat → Int64} (hO : E 45 = .inl (cJ, 1, .inr (.inl fo))) (x : Int32) : Met l yL_tar wsL_tar ({ frames := 7, cells := 1, slots := 6, locals := 103 } : Room) (va_Pc [.ref (ad 0), .int x, .ref (ad 45)] (fPre D cI cJ cB t0 z tx ad L E)) (va_Qi (fun (r : Int32) (E1 : Nat → va_E) => (c_tar n Bs x = 0 ∧ r = 0 ∧ E1 45 = .inl (cJ, 1, .inr (.inl (vp_updL fo 0 (Bs x.toNatClampNeg 6).toInt64))) ∧ x_at cI cB ad E1 w p g nw n T (va_up Bs x.toNatClampNeg (va_up (va_up (Bs x.toNatClampNeg) 6 0) 7 (Bs x.toNatClampNeg 7 + 4))) Fs ∧ ∀ q : Nat, 44 ≤ q → q ≠ 45 → E1 q = E q) ∨ (¬ c_tar n Bs x = 0 ∧ r = c_tar n Bs x ∧ E1 = E)) (fB D z ad L) (fA z)) 1 6 (fA z) := by
  refine f_ofWH (cc := cL_tar) (maxL := 4) (ret := some .int) (by decide) rfl (Nat.le_of_ble_eq_true rfl) ?_
  intro pr e s m args below meth c Q hx hb hr hml hTT hts hown hlocks hG H locs hI hQ ls hl
  have hl : lv_has ls 4 [(0, .ref (ad 0)), (1, .int x), (2, .ref (ad 45))] := hl
  have hO : E 45 = .inl (cJ, 1, .inr (.inl fo)) := hO
  refine lv_aload_n hx hb dL_tar_0 rfl (lv_at hl 2 rfl) ?_
  refine lv_iconst (v := 0) hx hb dL_tar_1 (by decide) ?_
  refine lv_aload_n hx hb dL_tar_2 rfl (lv_at hl 0 rfl) ?_
  refine lv_iload_n hx hb dL_tar_3 rfl (lv_at hl 1 rfl) ?_
  refine f_xcalli (vx_runV (As := [.int x]) (rest := [.int 0, .ref (ad 45)]) ⟨hx, hb, hml, hown, hts⟩ (m_X3_tar l hl9 hX hnW hn6 hTb h8 hXm x) (cwV 1 hts gL_tar_X3_tar rfl rfl rfl (by decide +kernel) ⟨(Nat.le_of_ble_eq_true rfl), (Nat.le_of_ble_eq_true rfl)⟩) (fPre_ofV hG hI rfl (hXm 0 (by omega)) hX.1 rfl rfl) rfl rfl hl.1 rfl (lv_room (Nat.le_of_ble_eq_true rfl)) dL_tar_4 ⟨(Nat.le_of_ble_eq_true rfl), (Nat.le_of_ble_eq_true rfl)⟩) hI (fun En ce q9 H locs hok hI hq1 hq2 hq3 => ?_) (fun r1 E1 H locs hp hI => ?_)
  · rcases hok with ⟨hc, rfl⟩ | ⟨hc, rfl⟩
    · refine vx_catch (E := fIO) (name := fIO) hown [] ⟨0, 9, 12, 13⟩ [(⟨0, 9, 15, 20⟩ : ExceptionTableEntry)] (hTT.trans rfl) (fun z hz => absurd hz List.not_mem_nil) (by decide) (by decide) (hts (.classLink RL 13 fIO) (by decide +kernel)) (fNest_use (by simp [fNest]) (hG.2.1 (.castable fIO fIO) (by simp [fNest]))) hq1 hq2 hq3 ?_
      refine lv_astore_n (lv' := [(3, .ref q9), (0, .ref (ad 0)), (1, .int x), (2, .ref (ad 45))]) hx hb dL_tar_12 rfl hl (by decide) rfl (fun ls hl => ?_)
      refine lv_iconst (v := 1) hx hb dL_tar_13 (by decide) ?_
      exact f_reti hQ hx hb hr hlocks hI.2.2 (by omega) (by omega) dL_tar_14 E (fB_of hI) (Or.inr ⟨by rw [hc]; decide, hc.symm, rfl⟩)
    · refine vx_catch (E := fIS) (name := fIS) hown [(⟨0, 9, 12, 13⟩ : ExceptionTableEntry)] ⟨0, 9, 15, 20⟩ [] (hTT.trans rfl) (fun z hz => by rw [List.mem_singleton.mp hz]; exact Or.inr ⟨by decide, fIO, (hts (.classLink RL 13 fIO) (by decide +kernel)), hG.2.2.2.2.2.2.2.2 (fIS, fIO) (by simp [fNcs])⟩) (by decide) (by decide) (hts (.classLink RL 20 fIS) (by decide +kernel)) (fNest_use (by simp [fNest]) (hG.2.1 (.castable fIS fIS) (by simp [fNest]))) hq1 hq2 hq3 ?_
      refine lv_astore_n (lv' := [(3, .ref q9), (0, .ref (ad 0)), (1, .int x), (2, .ref (ad 45))]) hx hb dL_tar_15 rfl hl (by decide) rfl (fun ls hl => ?_)
      refine lv_iconst (v := 2) hx hb dL_tar_16 (by decide) ?_
      exact f_reti hQ hx hb hr hlocks hI.2.2 (by omega) (by omega) dL_tar_17 E (fB_of hI) (Or.inr ⟨by rw [hc]; decide, hc.symm, rfl⟩)
  · obtain ⟨hc, hr1, hX1, hn9⟩ := hp
    subst hr1
    have hO : E1 45 = .inl (cJ, 1, .inr (.inl fo)) := (hn9 45 (by omega)).trans hO
    refine lv_i2l hx hb dL_tar_7 rfl ?_
    refine f_last hx hb hG.1 hI rfl h45 hO (vp_in_iff.mpr ⟨by decide, by decide⟩) dL_tar_8 (fun E1 H locs hE2 hn3 hI => ?_)
    have hO : E1 45 = .inl (cJ, 1, .inr (.inl (vp_updL fo 0 (Bs x.toNatClampNeg 6).toInt64))) := hE2
    refine lv_goto (tgt := 18) hx hb dL_tar_9 (by decide) ?_
    refine lv_iconst (v := 0) hx hb dL_tar_18 (by decide) ?_
    exact f_reti hQ hx hb hr hlocks hI.2.2 (by omega) (by omega) dL_tar_19 E1 (fB_of hI) (Or.inl ⟨hc, rfl, hO, hX1.kept (fun q hq => hn3 q (by omega)), fun q h1 h2 => (hn3 q h2).trans (hn9 q h1)⟩)

set_option maxHeartbeats 4000000 in
set_option maxRecDepth 100000 in
theorem m_L_boat (l : Launch) {D : va_G} {cI cJ cB : ClassId} {t0 z : Nat} {tx ad : Nat → Nat} {L : List Nat} {E : Nat → va_E} (hl9 : l.stackTraces = false) {w p g : Nat → Int32} {nw n T : Nat} {Bs Fs : Nat → Nat → Int32} (hX : x_at cI cB ad E w p g nw n T Bs Fs) (hnW : nw ≤ 6) (hn6 : n ≤ 6) (hTb : T < 2 ^ 30) (h8 : ∀ i, i < n → Bs i 8 = 0 ∨ Bs i 8 = 1) (hXm : ∀ k, k < 5 ∨ (10 ≤ k ∧ k < 24) ∨ (30 ≤ k ∧ k < 44) → k ∈ L) (h45 : 45 ∈ L) {fo : Nat → Int64} (hO : E 45 = .inl (cJ, 1, .inr (.inl fo))) (x y : Int32) : Met l yL_boat wsL_boat ({ frames := 7, cells := 1, slots := 6, locals := 104 } : Room) (va_Pc [.ref (ad 0), .int x, .int y, .ref (ad 45)] (fPre D cI cJ cB t0 z tx ad L E)) (va_Qi (fun (r : Int32) (E1 : Nat → va_E) => (c_boat n x y = 0 ∧ r = 0 ∧ E1 45 = .inl (cJ, 1, .inr (.inl (vp_updL fo 0 (p_fact (Bs x.toNatClampNeg) y.toNatClampNeg).toInt64))) ∧ x_at cI cB ad E1 w p g nw n T Bs Fs ∧ ∀ q : Nat, 44 ≤ q → q ≠ 45 → E1 q = E q) ∨ (¬ c_boat n x y = 0 ∧ r = c_boat n x y ∧ E1 = E)) (fB D z ad L) (fA z)) 1 6 (fA z) := by
  refine f_ofWH (cc := cL_boat) (maxL := 5) (ret := some .int) (by decide) rfl (Nat.le_of_ble_eq_true rfl) ?_
  intro pr e s m args below meth c Q hx hb hr hml hTT hts hown hlocks hG H locs hI hQ ls hl
  have hl : lv_has ls 5 [(0, .ref (ad 0)), (1, .int x), (2, .int y), (3, .ref (ad 45))] := hl
  have hO : E 45 = .inl (cJ, 1, .inr (.inl fo)) := hO
  refine lv_aload_n hx hb dL_boat_0 rfl (lv_at hl 3 rfl) ?_
  refine lv_iconst (v := 0) hx hb dL_boat_1 (by decide) ?_
  refine lv_aload_n hx hb dL_boat_2 rfl (lv_at hl 0 rfl) ?_
  refine lv_iload_n hx hb dL_boat_3 rfl (lv_at hl 1 rfl) ?_
  refine lv_iload_n hx hb dL_boat_4 rfl (lv_at hl 2 rfl) ?_
  refine f_xcalli (vx_runV (As := [.int x, .int y]) (rest := [.int 0, .ref (ad 45)]) ⟨hx, hb, hml, hown, hts⟩ (m_X3_boat l hl9 hX hnW hn6 hTb h8 hXm x y) (cwV 2 hts gL_boat_X3_boat rfl rfl rfl (by decide +kernel) ⟨(Nat.le_of_ble_eq_true rfl), (Nat.le_of_ble_eq_true rfl)⟩) (fPre_ofV hG hI rfl (hXm 0 (by omega)) hX.1 rfl rfl) rfl rfl hl.1 rfl (lv_room (Nat.le_of_ble_eq_true rfl)) dL_boat_5 ⟨(Nat.le_of_ble_eq_true rfl), (Nat.le_of_ble_eq_true rfl)⟩) hI (fun En ce q9 H locs hok hI hq1 hq2 hq3 => ?_) (fun r1 E1 H locs hp hI => ?_)
  · obtain ⟨hc, rfl⟩ := hok
    refine vx_catch (E := fIO) (name := fIO) hown [] ⟨0, 10, 13, 13⟩ [] (hTT.trans rfl) (fun z hz => absurd hz List.not_mem_nil) (by decide) (by decide) (hts (.classLink RL 13 fIO) (by decide +kernel)) (fNest_use (by simp [fNest]) (hG.2.1 (.castable fIO fIO) (by simp [fNest]))) hq1 hq2 hq3 ?_
    refine lv_astore (lv' := [(4, .ref q9), (0, .ref (ad 0)), (1, .int x), (2, .int y), (3, .ref (ad 45))]) hx hb dL_boat_13 hl (by decide) rfl (fun ls hl => ?_)
    refine lv_iconst (v := 1) hx hb dL_boat_15 (by decide) ?_
    exact f_reti hQ hx hb hr hlocks hI.2.2 (by omega) (by omega) dL_boat_16 E (fB_of hI) (Or.inr ⟨by rw [hc]; decide, hc.symm, rfl⟩)
  · obtain ⟨hc, hr1, hX1, hn9⟩ := hp
    subst hr1
    have hO : E1 45 = .inl (cJ, 1, .inr (.inl fo)) := (hn9 45 (by omega)).trans hO
    refine lv_i2l hx hb dL_boat_8 rfl ?_
    refine f_last hx hb hG.1 hI rfl h45 hO (vp_in_iff.mpr ⟨by decide, by decide⟩) dL_boat_9 (fun E1 H locs hE2 hn3 hI => ?_)
    have hO : E1 45 = .inl (cJ, 1, .inr (.inl (vp_updL fo 0 (p_fact (Bs x.toNatClampNeg) y.toNatClampNeg).toInt64))) := hE2
    refine lv_goto (tgt := 17) hx hb dL_boat_10 (by decide) ?_
    refine lv_iconst (v := 0) hx hb dL_boat_17 (by decide) ?_
    exact f_reti hQ hx hb hr hlocks hI.2.2 (by omega) (by omega) dL_boat_18 E1 (fB_of hI) (Or.inl ⟨hc, rfl, hO, hX1.kept (fun q hq => hn3 q (by omega)), fun q h1 h2 => (hn3 q h2).trans (hn9 q h1)⟩)

set_option maxHeartbeats 4000000 in
set_option maxRecDepth 100000 in
theorem m_L_count (l : Launch) {D : va_G} {cI cJ cB : ClassId} {t0 z : Nat} {tx ad : Nat → Nat} {L : List Nat} {E : Nat → va_E} (hl9 : l.stackTraces = false) {w p g : Nat → Int32} {nw n T : Nat} {Bs Fs : Nat → Nat → Int32} (hX : x_at cI cB ad E w p g nw n T Bs Fs) (hnW : nw ≤ 6) (hn6 : n ≤ 6) (hTb : T < 2 ^ 30) (h8 : ∀ i, i < n → Bs i 8 = 0 ∨ Bs i 8 = 1) (hXm : ∀ k, k < 5 ∨ (10 ≤ k ∧ k < 24) ∨ (30 ≤ k ∧ k < 44) → k ∈ L) (h45 : 45 ∈ L) {fo : Nat → Int64} (hO : E 45 = .inl (cJ, 1, .inr (.inl fo))) (x : Int32) : Met l yL_count wsL_count ({ frames := 7, cells := 1, slots := 6, locals := 103 } : Room) (va_Pc [.ref (ad 0), .int x, .ref (ad 45)] (fPre D cI cJ cB t0 z tx ad L E)) (va_Qi (fun (r : Int32) (E1 : Nat → va_E) => (c_count x = 0 ∧ r = 0 ∧ E1 45 = .inl (cJ, 1, .inr (.inl (vp_updL fo 0 (p_cnt nw n T Bs x.toNatClampNeg).toInt64))) ∧ x_at cI cB ad E1 w p g nw n T Bs Fs ∧ ∀ q : Nat, 44 ≤ q → q ≠ 45 → E1 q = E q) ∨ (¬ c_count x = 0 ∧ r = c_count x ∧ E1 = E)) (fB D z ad L) (fA z)) 1 6 (fA z) := by
  refine f_ofWH (cc := cL_count) (maxL := 4) (ret := some .int) (by decide) rfl (Nat.le_of_ble_eq_true rfl) ?_
  intro pr e s m args below meth c Q hx hb hr hml hTT hts hown hlocks hG H locs hI hQ ls hl
  have hl : lv_has ls 4 [(0, .ref (ad 0)), (1, .int x), (2, .ref (ad 45))] := hl
  have hO : E 45 = .inl (cJ, 1, .inr (.inl fo)) := hO
  refine lv_aload_n hx hb dL_count_0 rfl (lv_at hl 2 rfl) ?_
  refine lv_iconst (v := 0) hx hb dL_count_1 (by decide) ?_
  refine lv_aload_n hx hb dL_count_2 rfl (lv_at hl 0 rfl) ?_
  refine lv_iload_n hx hb dL_count_3 rfl (lv_at hl 1 rfl) ?_
  refine f_xcalli (vx_runV (As := [.int x]) (rest := [.int 0, .ref (ad 45)]) ⟨hx, hb, hml, hown, hts⟩ (m_X3_count l hl9 hX hnW hn6 hTb h8 hXm x) (cwV 1 hts gL_count_X3_count rfl rfl rfl (by decide +kernel) ⟨(Nat.le_of_ble_eq_true rfl), (Nat.le_of_ble_eq_true rfl)⟩) (fPre_ofV hG hI rfl (hXm 0 (by omega)) hX.1 rfl rfl) rfl rfl hl.1 rfl (lv_room (Nat.le_of_ble_eq_true rfl)) dL_count_4 ⟨(Nat.le_of_ble_eq_true rfl), (Nat.le_of_ble_eq_true rfl)⟩) hI (fun En ce q9 H locs hok hI hq1 hq2 hq3 => ?_) (fun r1 E1 H locs hp hI => ?_)
  · obtain ⟨hc, rfl⟩ := hok
    refine vx_catch (E := fIO) (name := fIO) hown [] ⟨0, 9, 12, 13⟩ [] (hTT.trans rfl) (fun z hz => absurd hz List.not_mem_nil) (by decide) (by decide) (hts (.classLink RL 13 fIO) (by decide +kernel)) (fNest_use (by simp [fNest]) (hG.2.1 (.castable fIO fIO) (by simp [fNest]))) hq1 hq2 hq3 ?_
    refine lv_astore_n (lv' := [(3, .ref q9), (0, .ref (ad 0)), (1, .int x), (2, .ref (ad 45))]) hx hb dL_count_12 rfl hl (by decide) rfl (fun ls hl => ?_)
    refine lv_iconst (v := 1) hx hb dL_count_13 (by decide) ?_
    exact f_reti hQ hx hb hr hlocks hI.2.2 (by omega) (by omega) dL_count_14 E (fB_of hI) (Or.inr ⟨by rw [hc]; decide, hc.symm, rfl⟩)
  · obtain ⟨hc, hr1, hX1, hn9⟩ := hp
    subst hr1
    have hO : E1 45 = .inl (cJ, 1, .inr (.inl fo)) := (hn9 45 (by omega)).trans hO
    refine lv_i2l hx hb dL_count_7 rfl ?_
    refine f_last hx hb hG.1 hI rfl h45 hO (vp_in_iff.mpr ⟨by decide, by decide⟩) dL_count_8 (fun E1 H locs hE2 hn3 hI => ?_)
    have hO : E1 45 = .inl (cJ, 1, .inr (.inl (vp_updL fo 0 (p_cnt nw n T Bs x.toNatClampNeg).toInt64))) := hE2
    refine lv_goto (tgt := 15) hx hb dL_count_9 (by decide) ?_
    refine lv_iconst (v := 0) hx hb dL_count_15 (by decide) ?_
    exact f_reti hQ hx hb hr hlocks hI.2.2 (by omega) (by omega) dL_count_16 E1 (fB_of hI) (Or.inl ⟨hc, rfl, hO, hX1.kept (fun q hq => hn3 q (by omega)), fun q h1 h2 => (hn3 q h2).trans (hn9 q h1)⟩)

set_option maxHeartbeats 4000000 in
set_option maxRecDepth 100000 in
theorem m_L_next (l : Launch) {D : va_G} {cI cJ cB : ClassId} {t0 z : Nat} {tx ad : Nat → Nat} {L : List Nat} {E : Nat → va_E} (hl9 : l.stackTraces = false) {w p g : Nat → Int32} {nw n T : Nat} {Bs Fs : Nat → Nat → Int32} (hX : x_at cI cB ad E w p g nw n T Bs Fs) (hnW : nw ≤ 6) (hn6 : n ≤ 6) (hTb : T < 2 ^ 30) (h8 : ∀ i, i < n → Bs i 8 = 0 ∨ Bs i 8 = 1) (hXm : ∀ k, k < 5 ∨ (10 ≤ k ∧ k < 24) ∨ (30 ≤ k ∧ k < 44) → k ∈ L) (h45 : 45 ∈ L) {fo : Nat → Int64} (hO : E 45 = .inl (cJ, 1, .inr (.inl fo))) (x : Int32) : Met l yL_next wsL_next ({ frames := 7, cells := 1, slots := 6, locals := 103 } : Room) (va_Pc [.ref (ad 0), .int x, .ref (ad 45)] (fPre D cI cJ cB t0 z tx ad L E)) (va_Qi (fun (r : Int32) (E1 : Nat → va_E) => (c_next x = 0 ∧ r = 0 ∧ E1 45 = .inl (cJ, 1, .inr (.inl (vp_updL fo 0 (p_next p x nw).toInt64))) ∧ x_at cI cB ad E1 w p g nw n T Bs Fs ∧ ∀ q : Nat, 44 ≤ q → q ≠ 45 → E1 q = E q) ∨ (¬ c_next x = 0 ∧ r = c_next x ∧ E1 = E)) (fB D z ad L) (fA z)) 1 6 (fA z) := by
  refine f_ofWH (cc := cL_next) (maxL := 4) (ret := some .int) (by decide) rfl (Nat.le_of_ble_eq_true rfl) ?_
  intro pr e s m args below meth c Q hx hb hr hml hTT hts hown hlocks hG H locs hI hQ ls hl
  have hl : lv_has ls 4 [(0, .ref (ad 0)), (1, .int x), (2, .ref (ad 45))] := hl
  have hO : E 45 = .inl (cJ, 1, .inr (.inl fo)) := hO
  refine lv_aload_n hx hb dL_next_0 rfl (lv_at hl 2 rfl) ?_
  refine lv_iconst (v := 0) hx hb dL_next_1 (by decide) ?_
  refine lv_aload_n hx hb dL_next_2 rfl (lv_at hl 0 rfl) ?_
  refine lv_iload_n hx hb dL_next_3 rfl (lv_at hl 1 rfl) ?_
  refine f_xcalli (vx_runV (As := [.int x]) (rest := [.int 0, .ref (ad 45)]) ⟨hx, hb, hml, hown, hts⟩ (m_X3_next l hl9 hX hnW hn6 hTb h8 hXm x) (cwV 1 hts gL_next_X3_next rfl rfl rfl (by decide +kernel) ⟨(Nat.le_of_ble_eq_true rfl), (Nat.le_of_ble_eq_true rfl)⟩) (fPre_ofV hG hI rfl (hXm 0 (by omega)) hX.1 rfl rfl) rfl rfl hl.1 rfl (lv_room (Nat.le_of_ble_eq_true rfl)) dL_next_4 ⟨(Nat.le_of_ble_eq_true rfl), (Nat.le_of_ble_eq_true rfl)⟩) hI (fun En ce q9 H locs hok hI hq1 hq2 hq3 => ?_) (fun r1 E1 H locs hp hI => ?_)
  · obtain ⟨hc, rfl⟩ := hok
    refine vx_catch (E := fIA) (name := fIA) hown [] ⟨0, 9, 12, 15⟩ [] (hTT.trans rfl) (fun z hz => absurd hz List.not_mem_nil) (by decide) (by decide) (hts (.classLink RL 15 fIA) (by decide +kernel)) (fNest_use (by simp [fNest]) (hG.2.1 (.castable fIA fIA) (by simp [fNest]))) hq1 hq2 hq3 ?_
    refine lv_astore_n (lv' := [(3, .ref q9), (0, .ref (ad 0)), (1, .int x), (2, .ref (ad 45))]) hx hb dL_next_12 rfl hl (by decide) rfl (fun ls hl => ?_)
    refine lv_iconst (v := 1) hx hb dL_next_13 (by decide) ?_
    exact f_reti hQ hx hb hr hlocks hI.2.2 (by omega) (by omega) dL_next_14 E (fB_of hI) (Or.inr ⟨by rw [hc]; decide, hc.symm, rfl⟩)
  · obtain ⟨hc, hr1, hX1, hn9⟩ := hp
    subst hr1
    have hO : E1 45 = .inl (cJ, 1, .inr (.inl fo)) := (hn9 45 (by omega)).trans hO
    refine lv_i2l hx hb dL_next_7 rfl ?_
    refine f_last hx hb hG.1 hI rfl h45 hO (vp_in_iff.mpr ⟨by decide, by decide⟩) dL_next_8 (fun E1 H locs hE2 hn3 hI => ?_)
    have hO : E1 45 = .inl (cJ, 1, .inr (.inl (vp_updL fo 0 (p_next p x nw).toInt64))) := hE2
    refine lv_goto (tgt := 15) hx hb dL_next_9 (by decide) ?_
    refine lv_iconst (v := 0) hx hb dL_next_15 (by decide) ?_
    exact f_reti hQ hx hb hr hlocks hI.2.2 (by omega) (by omega) dL_next_16 E1 (fB_of hI) (Or.inl ⟨hc, rfl, hO, hX1.kept (fun q hq => hn3 q (by omega)), fun q h1 h2 => (hn3 q h2).trans (hn9 q h1)⟩)

set_option maxHeartbeats 4000000 in
set_option maxRecDepth 100000 in
theorem m_L_rank (l : Launch) {D : va_G} {cI cJ cB : ClassId} {t0 z : Nat} {tx ad : Nat → Nat} {L : List Nat} {E : Nat → va_E} (hl9 : l.stackTraces = false) {w p g : Nat → Int32} {nw n T : Nat} {Bs Fs : Nat → Nat → Int32} (hX : x_at cI cB ad E w p g nw n T Bs Fs) (hnW : nw ≤ 6) (hn6 : n ≤ 6) (hTb : T < 2 ^ 30) (h8 : ∀ i, i < n → Bs i 8 = 0 ∨ Bs i 8 = 1) (hXm : ∀ k, k < 5 ∨ (10 ≤ k ∧ k < 24) ∨ (30 ≤ k ∧ k < 44) → k ∈ L) (h45 : 45 ∈ L) {fo : Nat → Int64} (hO : E 45 = .inl (cJ, 1, .inr (.inl fo))) (x : Int32) : Met l yL_rank wsL_rank ({ frames := 7, cells := 1, slots := 6, locals := 103 } : Room) (va_Pc [.ref (ad 0), .int x, .ref (ad 45)] (fPre D cI cJ cB t0 z tx ad L E)) (va_Qi (fun (r : Int32) (E1 : Nat → va_E) => (c_rank n x = 0 ∧ r = 0 ∧ E1 45 = .inl (cJ, 1, .inr (.inl (vp_updL fo 0 (1 + p_rk Bs (Bs x.toNatClampNeg) n).toInt64))) ∧ x_at cI cB ad E1 w p g nw n T Bs Fs ∧ ∀ q : Nat, 44 ≤ q → q ≠ 45 → E1 q = E q) ∨ (¬ c_rank n x = 0 ∧ r = c_rank n x ∧ E1 = E)) (fB D z ad L) (fA z)) 1 6 (fA z) := by
  refine f_ofWH (cc := cL_rank) (maxL := 4) (ret := some .int) (by decide) rfl (Nat.le_of_ble_eq_true rfl) ?_
  intro pr e s m args below meth c Q hx hb hr hml hTT hts hown hlocks hG H locs hI hQ ls hl
  have hl : lv_has ls 4 [(0, .ref (ad 0)), (1, .int x), (2, .ref (ad 45))] := hl
  have hO : E 45 = .inl (cJ, 1, .inr (.inl fo)) := hO
  refine lv_aload_n hx hb dL_rank_0 rfl (lv_at hl 2 rfl) ?_
  refine lv_iconst (v := 0) hx hb dL_rank_1 (by decide) ?_
  refine lv_aload_n hx hb dL_rank_2 rfl (lv_at hl 0 rfl) ?_
  refine lv_iload_n hx hb dL_rank_3 rfl (lv_at hl 1 rfl) ?_
  refine f_xcalli (vx_runV (As := [.int x]) (rest := [.int 0, .ref (ad 45)]) ⟨hx, hb, hml, hown, hts⟩ (m_X3_rank l hl9 hX hnW hn6 hTb h8 hXm x) (cwV 1 hts gL_rank_X3_rank rfl rfl rfl (by decide +kernel) ⟨(Nat.le_of_ble_eq_true rfl), (Nat.le_of_ble_eq_true rfl)⟩) (fPre_ofV hG hI rfl (hXm 0 (by omega)) hX.1 rfl rfl) rfl rfl hl.1 rfl (lv_room (Nat.le_of_ble_eq_true rfl)) dL_rank_4 ⟨(Nat.le_of_ble_eq_true rfl), (Nat.le_of_ble_eq_true rfl)⟩) hI (fun En ce q9 H locs hok hI hq1 hq2 hq3 => ?_) (fun r1 E1 H locs hp hI => ?_)
  · obtain ⟨hc, rfl⟩ := hok
    refine vx_catch (E := fIO) (name := fIO) hown [] ⟨0, 9, 12, 13⟩ [] (hTT.trans rfl) (fun z hz => absurd hz List.not_mem_nil) (by decide) (by decide) (hts (.classLink RL 13 fIO) (by decide +kernel)) (fNest_use (by simp [fNest]) (hG.2.1 (.castable fIO fIO) (by simp [fNest]))) hq1 hq2 hq3 ?_
    refine lv_astore_n (lv' := [(3, .ref q9), (0, .ref (ad 0)), (1, .int x), (2, .ref (ad 45))]) hx hb dL_rank_12 rfl hl (by decide) rfl (fun ls hl => ?_)
    refine lv_iconst (v := 1) hx hb dL_rank_13 (by decide) ?_
    exact f_reti hQ hx hb hr hlocks hI.2.2 (by omega) (by omega) dL_rank_14 E (fB_of hI) (Or.inr ⟨by rw [hc]; decide, hc.symm, rfl⟩)
  · obtain ⟨hc, hr1, hX1, hn9⟩ := hp
    subst hr1
    have hO : E1 45 = .inl (cJ, 1, .inr (.inl fo)) := (hn9 45 (by omega)).trans hO
    refine lv_i2l hx hb dL_rank_7 rfl ?_
    refine f_last hx hb hG.1 hI rfl h45 hO (vp_in_iff.mpr ⟨by decide, by decide⟩) dL_rank_8 (fun E1 H locs hE2 hn3 hI => ?_)
    have hO : E1 45 = .inl (cJ, 1, .inr (.inl (vp_updL fo 0 (1 + p_rk Bs (Bs x.toNatClampNeg) n).toInt64))) := hE2
    refine lv_goto (tgt := 15) hx hb dL_rank_9 (by decide) ?_
    refine lv_iconst (v := 0) hx hb dL_rank_15 (by decide) ?_
    exact f_reti hQ hx hb hr hlocks hI.2.2 (by omega) (by omega) dL_rank_16 E1 (fB_of hI) (Or.inl ⟨hc, rfl, hO, hX1.kept (fun q hq => hn3 q (by omega)), fun q h1 h2 => (hn3 q h2).trans (hn9 q h1)⟩)

set_option maxHeartbeats 4000000 in
set_option maxRecDepth 100000 in
theorem m_L_go (l : Launch) {D : va_G} {cI cJ cB : ClassId} {t0 z : Nat} {tx ad : Nat → Nat} {L : List Nat} {E : Nat → va_E} (hl9 : l.stackTraces = false) {w p g : Nat → Int32} {nw n T : Nat} {Bs Fs : Nat → Nat → Int32} (hX : x_at cI cB ad E w p g nw n T Bs Fs) (hnW : nw ≤ 6) (hn6 : n ≤ 6) (hTb : T < 2 ^ 30) (h8 : ∀ i, i < n → Bs i 8 = 0 ∨ Bs i 8 = 1) (hXm : ∀ k, k < 5 ∨ (10 ≤ k ∧ k < 24) ∨ (30 ≤ k ∧ k < 44) → k ∈ L) (h45 : 45 ∈ L) {fo : Nat → Int64} (hO : E 45 = .inl (cJ, 1, .inr (.inl fo))) (x : Int32) : Met l yL_go wsL_go ({ frames := 7, cells := 1, slots := 6, locals := 128 } : Room) (va_Pc [.ref (ad 0), .int x, .ref (ad 45)] (fPre D cI cJ cB t0 z tx ad L E)) (va_Qi (fun (r : Int32) (E1 : Nat → va_E) => (c_go x = 0 ∧ r = 0 ∧ E1 45 = .inl (cJ, 1, .inr (.inl (vp_updL fo 0 (p_in (p_run w p g nw T n Fs Bs x.toNatClampNeg) n - p_in Bs n).toInt64))) ∧ x_at cI cB ad E1 w p g nw n (T + x.toNatClampNeg) (p_run w p g nw T n Fs Bs x.toNatClampNeg) Fs ∧ ∀ q : Nat, 44 ≤ q → q ≠ 45 → E1 q = E q) ∨ (¬ c_go x = 0 ∧ r = c_go x ∧ E1 = E)) (fB D z ad L) (fA z)) 1 6 (fA z) := by
  refine f_ofWH (cc := cL_go) (maxL := 4) (ret := some .int) (by decide) rfl (Nat.le_of_ble_eq_true rfl) ?_
  intro pr e s m args below meth c Q hx hb hr hml hTT hts hown hlocks hG H locs hI hQ ls hl
  have hl : lv_has ls 4 [(0, .ref (ad 0)), (1, .int x), (2, .ref (ad 45))] := hl
  have hO : E 45 = .inl (cJ, 1, .inr (.inl fo)) := hO
  refine lv_aload_n hx hb dL_go_0 rfl (lv_at hl 2 rfl) ?_
  refine lv_iconst (v := 0) hx hb dL_go_1 (by decide) ?_
  refine lv_aload_n hx hb dL_go_2 rfl (lv_at hl 0 rfl) ?_
  refine lv_iload_n hx hb dL_go_3 rfl (lv_at hl 1 rfl) ?_
  refine f_xcalli (vx_runV (As := [.int x]) (rest := [.int 0, .ref (ad 45)]) ⟨hx, hb, hml, hown, hts⟩ (m_X3_go l hl9 hX hnW hn6 hTb h8 hXm x) (cwV 1 hts gL_go_X3_go rfl rfl rfl (by decide +kernel) ⟨(Nat.le_of_ble_eq_true rfl), (Nat.le_of_ble_eq_true rfl)⟩) (fPre_ofV hG hI rfl (hXm 0 (by omega)) hX.1 rfl rfl) rfl rfl hl.1 rfl (lv_room (Nat.le_of_ble_eq_true rfl)) dL_go_4 ⟨(Nat.le_of_ble_eq_true rfl), (Nat.le_of_ble_eq_true rfl)⟩) hI (fun En ce q9 H locs hok hI hq1 hq2 hq3 => ?_) (fun r1 E1 H locs hp hI => ?_)
  · obtain ⟨hc, rfl⟩ := hok
    refine vx_catch (E := fIA) (name := fIA) hown [] ⟨0, 9, 12, 15⟩ [] (hTT.trans rfl) (fun z hz => absurd hz List.not_mem_nil) (by decide) (by decide) (hts (.classLink RL 15 fIA) (by decide +kernel)) (fNest_use (by simp [fNest]) (hG.2.1 (.castable fIA fIA) (by simp [fNest]))) hq1 hq2 hq3 ?_
    refine lv_astore_n (lv' := [(3, .ref q9), (0, .ref (ad 0)), (1, .int x), (2, .ref (ad 45))]) hx hb dL_go_12 rfl hl (by decide) rfl (fun ls hl => ?_)
    refine lv_iconst (v := 1) hx hb dL_go_13 (by decide) ?_
    exact f_reti hQ hx hb hr hlocks hI.2.2 (by omega) (by omega) dL_go_14 E (fB_of hI) (Or.inr ⟨by rw [hc]; decide, hc.symm, rfl⟩)
  · obtain ⟨hc, hr1, hX1, hn9⟩ := hp
    subst hr1
    have hO : E1 45 = .inl (cJ, 1, .inr (.inl fo)) := (hn9 45 (by omega)).trans hO
    refine lv_i2l hx hb dL_go_7 rfl ?_
    refine f_last hx hb hG.1 hI rfl h45 hO (vp_in_iff.mpr ⟨by decide, by decide⟩) dL_go_8 (fun E1 H locs hE2 hn3 hI => ?_)
    have hO : E1 45 = .inl (cJ, 1, .inr (.inl (vp_updL fo 0 (p_in (p_run w p g nw T n Fs Bs x.toNatClampNeg) n - p_in Bs n).toInt64))) := hE2
    refine lv_goto (tgt := 15) hx hb dL_go_9 (by decide) ?_
    refine lv_iconst (v := 0) hx hb dL_go_15 (by decide) ?_
    exact f_reti hQ hx hb hr hlocks hI.2.2 (by omega) (by omega) dL_go_16 E1 (fB_of hI) (Or.inl ⟨hc, rfl, hO, hX1.kept (fun q hq => hn3 q (by omega)), fun q h1 h2 => (hn3 q h2).trans (hn9 q h1)⟩)

set_option maxHeartbeats 4000000 in
set_option maxRecDepth 100000 in
theorem m_L_arrives (l : Launch) {D : va_G} {cI cJ cB : ClassId} {t0 z : Nat} {tx ad : Nat → Nat} {L : List Nat} {E : Nat → va_E} (hl9 : l.stackTraces = false) {w p g : Nat → Int32} {nw n T : Nat} {Bs Fs : Nat → Nat → Int32} (hX : x_at cI cB ad E w p g nw n T Bs Fs) (hnW : nw ≤ 6) (hn6 : n ≤ 6) (hTb : T < 2 ^ 30) (h8 : ∀ i, i < n → Bs i 8 = 0 ∨ Bs i 8 = 1) (hXm : ∀ k, k < 5 ∨ (10 ≤ k ∧ k < 24) ∨ (30 ≤ k ∧ k < 44) → k ∈ L) (h45 : 45 ∈ L) {fo : Nat → Int64} (hO : E 45 = .inl (cJ, 1, .inr (.inl fo))) (x : Int32) : Met l yL_arrives wsL_arrives ({ frames := 7, cells := 1, slots := 6, locals := 105 } : Room) (va_Pc [.ref (ad 0), .int x, .ref (ad 45)] (fPre D cI cJ cB t0 z tx ad L E)) (va_Qi (fun (r : Int32) (E1 : Nat → va_E) => (c_rank n x = 0 ∧ r = 0 ∧ E1 45 = .inl (cJ, 1, .inr (.inl (vp_updL fo 0 (p_arr w p g nw T (Fs x.toNatClampNeg) (Bs x.toNatClampNeg) 0 401).toInt64))) ∧ x_at cI cB ad E1 w p g nw n T Bs Fs ∧ ∀ q : Nat, 44 ≤ q → q ≠ 45 → E1 q = E q) ∨ (¬ c_rank n x = 0 ∧ r = c_rank n x ∧ E1 = E)) (fB D z ad L) (fA z)) 1 6 (fA z) := by
  refine f_ofWH (cc := cL_arrives) (maxL := 4) (ret := some .int) (by decide) rfl (Nat.le_of_ble_eq_true rfl) ?_
  intro pr e s m args below meth c Q hx hb hr hml hTT hts hown hlocks hG H locs hI hQ ls hl
  have hl : lv_has ls 4 [(0, .ref (ad 0)), (1, .int x), (2, .ref (ad 45))] := hl
  have hO : E 45 = .inl (cJ, 1, .inr (.inl fo)) := hO
  refine lv_aload_n hx hb dL_arrives_0 rfl (lv_at hl 2 rfl) ?_
  refine lv_iconst (v := 0) hx hb dL_arrives_1 (by decide) ?_
  refine lv_aload_n hx hb dL_arrives_2 rfl (lv_at hl 0 rfl) ?_
  refine lv_iload_n hx hb dL_arrives_3 rfl (lv_at hl 1 rfl) ?_
  refine f_xcalli (vx_runV (As := [.int x]) (rest := [.int 0, .ref (ad 45)]) ⟨hx, hb, hml, hown, hts⟩ (m_X3_arrives l hl9 hX hnW hn6 hTb h8 hXm x) (cwV 1 hts gL_arrives_X3_arrives rfl rfl rfl (by decide +kernel) ⟨(Nat.le_of_ble_eq_true rfl), (Nat.le_of_ble_eq_true rfl)⟩) (fPre_ofV hG hI rfl (hXm 0 (by omega)) hX.1 rfl rfl) rfl rfl hl.1 rfl (lv_room (Nat.le_of_ble_eq_true rfl)) dL_arrives_4 ⟨(Nat.le_of_ble_eq_true rfl), (Nat.le_of_ble_eq_true rfl)⟩) hI (fun En ce q9 H locs hok hI hq1 hq2 hq3 => ?_) (fun r1 E1 H locs hp hI => ?_)
  · obtain ⟨hc, rfl⟩ := hok
    refine vx_catch (E := fIO) (name := fIO) hown [] ⟨0, 9, 12, 13⟩ [] (hTT.trans rfl) (fun z hz => absurd hz List.not_mem_nil) (by decide) (by decide) (hts (.classLink RL 13 fIO) (by decide +kernel)) (fNest_use (by simp [fNest]) (hG.2.1 (.castable fIO fIO) (by simp [fNest]))) hq1 hq2 hq3 ?_
    refine lv_astore_n (lv' := [(3, .ref q9), (0, .ref (ad 0)), (1, .int x), (2, .ref (ad 45))]) hx hb dL_arrives_12 rfl hl (by decide) rfl (fun ls hl => ?_)
    refine lv_iconst (v := 1) hx hb dL_arrives_13 (by decide) ?_
    exact f_reti hQ hx hb hr hlocks hI.2.2 (by omega) (by omega) dL_arrives_14 E (fB_of hI) (Or.inr ⟨by rw [hc]; decide, hc.symm, rfl⟩)
  · obtain ⟨hc, hr1, hX1, hn9⟩ := hp
    subst hr1
    have hO : E1 45 = .inl (cJ, 1, .inr (.inl fo)) := (hn9 45 (by omega)).trans hO
    refine lv_i2l hx hb dL_arrives_7 rfl ?_
    refine f_last hx hb hG.1 hI rfl h45 hO (vp_in_iff.mpr ⟨by decide, by decide⟩) dL_arrives_8 (fun E1 H locs hE2 hn3 hI => ?_)
    have hO : E1 45 = .inl (cJ, 1, .inr (.inl (vp_updL fo 0 (p_arr w p g nw T (Fs x.toNatClampNeg) (Bs x.toNatClampNeg) 0 401).toInt64))) := hE2
    refine lv_goto (tgt := 15) hx hb dL_arrives_9 (by decide) ?_
    refine lv_iconst (v := 0) hx hb dL_arrives_15 (by decide) ?_
    exact f_reti hQ hx hb hr hlocks hI.2.2 (by omega) (by omega) dL_arrives_16 E1 (fB_of hI) (Or.inl ⟨hc, rfl, hO, hX1.kept (fun q hq => hn3 q (by omega)), fun q h1 h2 => (hn3 q h2).trans (hn9 q h1)⟩)

set_option maxHeartbeats 4000000 in
set_option maxRecDepth 100000 in
theorem m_L_foresee (l : Launch) {D : va_G} {cI cJ cB : ClassId} {t0 z : Nat} {tx ad : Nat → Nat} {L : List Nat} {E : Nat → va_E} (hl9 : l.stackTraces = false) {w p g : Nat → Int32} {nw n T : Nat} {Bs Fs : Nat → Nat → Int32} (hX : x_at cI cB ad E w p g nw n T Bs Fs) (hnW : nw ≤ 6) (hn6 : n ≤ 6) (hTb : T < 2 ^ 30) (h8 : ∀ i, i < n → Bs i 8 = 0 ∨ Bs i 8 = 1) (hXm : ∀ k, k < 5 ∨ (10 ≤ k ∧ k < 24) ∨ (30 ≤ k ∧ k < 44) → k ∈ L) (h45 : 45 ∈ L) {fo : Nat → Int64} (hO : E 45 = .inl (cJ, 1, .inr (.inl fo))) (x y : Int32) : Met l yL_foresee wsL_foresee ({ frames := 7, cells := 1, slots := 6, locals := 128 } : Room) (va_Pc [.ref (ad 0), .int x, .int y, .ref (ad 45)] (fPre D cI cJ cB t0 z tx ad L E)) (va_Qi (fun (r : Int32) (E1 : Nat → va_E) => (c_foresee x y = 0 ∧ r = 0 ∧ E1 45 = .inl (cJ, 1, .inr (.inl (vp_updL fo 0 (p_cnt nw n (T + x.toNatClampNeg) (p_run w p g nw T n Fs Bs x.toNatClampNeg) y.toNatClampNeg).toInt64))) ∧ x_at cI cB ad E1 w p g nw n T Bs Fs ∧ ∀ q : Nat, 44 ≤ q → q ≠ 45 → E1 q = E q) ∨ (¬ c_foresee x y = 0 ∧ r = c_foresee x y ∧ E1 = E)) (fB D z ad L) (fA z)) 1 6 (fA z) := by
  refine f_ofWH (cc := cL_foresee) (maxL := 5) (ret := some .int) (by decide) rfl (Nat.le_of_ble_eq_true rfl) ?_
  intro pr e s m args below meth c Q hx hb hr hml hTT hts hown hlocks hG H locs hI hQ ls hl
  have hl : lv_has ls 5 [(0, .ref (ad 0)), (1, .int x), (2, .int y), (3, .ref (ad 45))] := hl
  have hO : E 45 = .inl (cJ, 1, .inr (.inl fo)) := hO
  refine lv_aload_n hx hb dL_foresee_0 rfl (lv_at hl 3 rfl) ?_
  refine lv_iconst (v := 0) hx hb dL_foresee_1 (by decide) ?_
  refine lv_aload_n hx hb dL_foresee_2 rfl (lv_at hl 0 rfl) ?_
  refine lv_iload_n hx hb dL_foresee_3 rfl (lv_at hl 1 rfl) ?_
  refine lv_iload_n hx hb dL_foresee_4 rfl (lv_at hl 2 rfl) ?_
  refine f_xcalli (vx_runV (As := [.int x, .int y]) (rest := [.int 0, .ref (ad 45)]) ⟨hx, hb, hml, hown, hts⟩ (m_X3_foresee l hl9 hX hnW hn6 hTb h8 hXm x y) (cwV 2 hts gL_foresee_X3_foresee rfl rfl rfl (by decide +kernel) ⟨(Nat.le_of_ble_eq_true rfl), (Nat.le_of_ble_eq_true rfl)⟩) (fPre_ofV hG hI rfl (hXm 0 (by omega)) hX.1 rfl rfl) rfl rfl hl.1 rfl (lv_room (Nat.le_of_ble_eq_true rfl)) dL_foresee_5 ⟨(Nat.le_of_ble_eq_true rfl), (Nat.le_of_ble_eq_true rfl)⟩) hI (fun En ce q9 H locs hok hI hq1 hq2 hq3 => ?_) (fun r1 E1 H locs hp hI => ?_)
  · rcases hok with ⟨hc, rfl⟩ | ⟨hc, rfl⟩
    · refine vx_catch (E := fIA) (name := fIA) hown [] ⟨0, 10, 13, 15⟩ [(⟨0, 10, 17, 13⟩ : ExceptionTableEntry)] (hTT.trans rfl) (fun z hz => absurd hz List.not_mem_nil) (by decide) (by decide) (hts (.classLink RL 15 fIA) (by decide +kernel)) (fNest_use (by simp [fNest]) (hG.2.1 (.castable fIA fIA) (by simp [fNest]))) hq1 hq2 hq3 ?_
      refine lv_astore (lv' := [(4, .ref q9), (0, .ref (ad 0)), (1, .int x), (2, .int y), (3, .ref (ad 45))]) hx hb dL_foresee_13 hl (by decide) rfl (fun ls hl => ?_)
      refine lv_iconst (v := 1) hx hb dL_foresee_15 (by decide) ?_
      exact f_reti hQ hx hb hr hlocks hI.2.2 (by omega) (by omega) dL_foresee_16 E (fB_of hI) (Or.inr ⟨by rw [hc]; decide, hc.symm, rfl⟩)
    · refine vx_catch (E := fIO) (name := fIO) hown [(⟨0, 10, 13, 15⟩ : ExceptionTableEntry)] ⟨0, 10, 17, 13⟩ [] (hTT.trans rfl) (fun z hz => by rw [List.mem_singleton.mp hz]; exact Or.inr ⟨by decide, fIA, (hts (.classLink RL 15 fIA) (by decide +kernel)), hG.2.2.2.2.2.2.2.2 (fIO, fIA) (by simp [fNcs])⟩) (by decide) (by decide) (hts (.classLink RL 13 fIO) (by decide +kernel)) (fNest_use (by simp [fNest]) (hG.2.1 (.castable fIO fIO) (by simp [fNest]))) hq1 hq2 hq3 ?_
      refine lv_astore (lv' := [(4, .ref q9), (0, .ref (ad 0)), (1, .int x), (2, .int y), (3, .ref (ad 45))]) hx hb dL_foresee_17 hl (by decide) rfl (fun ls hl => ?_)
      refine lv_iconst (v := 2) hx hb dL_foresee_19 (by decide) ?_
      exact f_reti hQ hx hb hr hlocks hI.2.2 (by omega) (by omega) dL_foresee_20 E (fB_of hI) (Or.inr ⟨by rw [hc]; decide, hc.symm, rfl⟩)
  · obtain ⟨hc, hr1, hX1, hn9⟩ := hp
    subst hr1
    have hO : E1 45 = .inl (cJ, 1, .inr (.inl fo)) := (hn9 45 (by omega)).trans hO
    refine lv_i2l hx hb dL_foresee_8 rfl ?_
    refine f_last hx hb hG.1 hI rfl h45 hO (vp_in_iff.mpr ⟨by decide, by decide⟩) dL_foresee_9 (fun E1 H locs hE2 hn3 hI => ?_)
    have hO : E1 45 = .inl (cJ, 1, .inr (.inl (vp_updL fo 0 (p_cnt nw n (T + x.toNatClampNeg) (p_run w p g nw T n Fs Bs x.toNatClampNeg) y.toNatClampNeg).toInt64))) := hE2
    refine lv_goto (tgt := 21) hx hb dL_foresee_10 (by decide) ?_
    refine lv_iconst (v := 0) hx hb dL_foresee_21 (by decide) ?_
    exact f_reti hQ hx hb hr hlocks hI.2.2 (by omega) (by omega) dL_foresee_22 E1 (fB_of hI) (Or.inl ⟨hc, rfl, hO, hX1.kept (fun q hq => hn3 q (by omega)), fun q h1 h2 => (hn3 q h2).trans (hn9 q h1)⟩)

set_option maxHeartbeats 4000000 in
set_option maxRecDepth 100000 in
theorem m_L_advise (l : Launch) {D : va_G} {cI cJ cB : ClassId} {t0 z : Nat} {tx ad : Nat → Nat} {L : List Nat} {E : Nat → va_E} (hl9 : l.stackTraces = false) {w p g : Nat → Int32} {nw n T : Nat} {Bs Fs : Nat → Nat → Int32} (hX : x_at cI cB ad E w p g nw n T Bs Fs) (hnW : nw ≤ 6) (hn6 : n ≤ 6) (hTb : T < 2 ^ 30) (h8 : ∀ i, i < n → Bs i 8 = 0 ∨ Bs i 8 = 1) (hXm : ∀ k, k < 5 ∨ (10 ≤ k ∧ k < 24) ∨ (30 ≤ k ∧ k < 44) → k ∈ L) (h45 : 45 ∈ L) {fo : Nat → Int64} (hO : E 45 = .inl (cJ, 1, .inr (.inl fo))) (x y : Int32) : Met l yL_advise wsL_advise ({ frames := 7, cells := 1, slots := 6, locals := 135 } : Room) (va_Pc [.ref (ad 0), .int x, .int y, .ref (ad 45)] (fPre D cI cJ cB t0 z tx ad L E)) (va_Qi (fun (r : Int32) (E1 : Nat → va_E) => (c_advise n x y = 0 ∧ r = 0 ∧ E1 45 = .inl (cJ, 1, .inr (.inl (vp_updL fo 0 ((p_advi w p g nw T (Fs x.toNatClampNeg) (Bs x.toNatClampNeg) y.toNatClampNeg 16).1).toInt64))) ∧ x_at cI cB ad E1 w p g nw n T Bs Fs ∧ ∀ q : Nat, 44 ≤ q → q ≠ 45 → E1 q = E q) ∨ (¬ c_advise n x y = 0 ∧ r = c_advise n x y ∧ E1 = E)) (fB D z ad L) (fA z)) 1 6 (fA z) := by
  refine f_ofWH (cc := cL_advise) (maxL := 5) (ret := some .int) (by decide) rfl (Nat.le_of_ble_eq_true rfl) ?_
  intro pr e s m args below meth c Q hx hb hr hml hTT hts hown hlocks hG H locs hI hQ ls hl
  have hl : lv_has ls 5 [(0, .ref (ad 0)), (1, .int x), (2, .int y), (3, .ref (ad 45))] := hl
  have hO : E 45 = .inl (cJ, 1, .inr (.inl fo)) := hO
  refine lv_aload_n hx hb dL_advise_0 rfl (lv_at hl 3 rfl) ?_
  refine lv_iconst (v := 0) hx hb dL_advise_1 (by decide) ?_
  refine lv_aload_n hx hb dL_advise_2 rfl (lv_at hl 0 rfl) ?_
  refine lv_iload_n hx hb dL_advise_3 rfl (lv_at hl 1 rfl) ?_
  refine lv_iload_n hx hb dL_advise_4 rfl (lv_at hl 2 rfl) ?_
  refine f_xcalli (vx_runV (As := [.int x, .int y]) (rest := [.int 0, .ref (ad 45)]) ⟨hx, hb, hml, hown, hts⟩ (m_X3_advise l hl9 hX hnW hn6 hTb h8 hXm x y) (cwV 2 hts gL_advise_X3_advise rfl rfl rfl (by decide +kernel) ⟨(Nat.le_of_ble_eq_true rfl), (Nat.le_of_ble_eq_true rfl)⟩) (fPre_ofV hG hI rfl (hXm 0 (by omega)) hX.1 rfl rfl) rfl rfl hl.1 rfl (lv_room (Nat.le_of_ble_eq_true rfl)) dL_advise_5 ⟨(Nat.le_of_ble_eq_true rfl), (Nat.le_of_ble_eq_true rfl)⟩) hI (fun En ce q9 H locs hok hI hq1 hq2 hq3 => ?_) (fun r1 E1 H locs hp hI => ?_)
  · rcases hok with ⟨hc, rfl⟩ | ⟨hc, rfl⟩
    · refine vx_catch (E := fIO) (name := fIO) hown [] ⟨0, 10, 13, 13⟩ [(⟨0, 10, 17, 15⟩ : ExceptionTableEntry)] (hTT.trans rfl) (fun z hz => absurd hz List.not_mem_nil) (by decide) (by decide) (hts (.classLink RL 13 fIO) (by decide +kernel)) (fNest_use (by simp [fNest]) (hG.2.1 (.castable fIO fIO) (by simp [fNest]))) hq1 hq2 hq3 ?_
      refine lv_astore (lv' := [(4, .ref q9), (0, .ref (ad 0)), (1, .int x), (2, .int y), (3, .ref (ad 45))]) hx hb dL_advise_13 hl (by decide) rfl (fun ls hl => ?_)
      refine lv_iconst (v := 1) hx hb dL_advise_15 (by decide) ?_
      exact f_reti hQ hx hb hr hlocks hI.2.2 (by omega) (by omega) dL_advise_16 E (fB_of hI) (Or.inr ⟨by rw [hc]; decide, hc.symm, rfl⟩)
    · refine vx_catch (E := fIA) (name := fIA) hown [(⟨0, 10, 13, 13⟩ : ExceptionTableEntry)] ⟨0, 10, 17, 15⟩ [] (hTT.trans rfl) (fun z hz => by rw [List.mem_singleton.mp hz]; exact Or.inr ⟨by decide, fIO, (hts (.classLink RL 13 fIO) (by decide +kernel)), hG.2.2.2.2.2.2.2.2 (fIA, fIO) (by simp [fNcs])⟩) (by decide) (by decide) (hts (.classLink RL 15 fIA) (by decide +kernel)) (fNest_use (by simp [fNest]) (hG.2.1 (.castable fIA fIA) (by simp [fNest]))) hq1 hq2 hq3 ?_
      refine lv_astore (lv' := [(4, .ref q9), (0, .ref (ad 0)), (1, .int x), (2, .int y), (3, .ref (ad 45))]) hx hb dL_advise_17 hl (by decide) rfl (fun ls hl => ?_)
      refine lv_iconst (v := 2) hx hb dL_advise_19 (by decide) ?_
      exact f_reti hQ hx hb hr hlocks hI.2.2 (by omega) (by omega) dL_advise_20 E (fB_of hI) (Or.inr ⟨by rw [hc]; decide, hc.symm, rfl⟩)
  · obtain ⟨hc, hr1, hX1, hn9⟩ := hp
    subst hr1
    have hO : E1 45 = .inl (cJ, 1, .inr (.inl fo)) := (hn9 45 (by omega)).trans hO
    refine lv_i2l hx hb dL_advise_8 rfl ?_
    refine f_last hx hb hG.1 hI rfl h45 hO (vp_in_iff.mpr ⟨by decide, by decide⟩) dL_advise_9 (fun E1 H locs hE2 hn3 hI => ?_)
    have hO : E1 45 = .inl (cJ, 1, .inr (.inl (vp_updL fo 0 ((p_advi w p g nw T (Fs x.toNatClampNeg) (Bs x.toNatClampNeg) y.toNatClampNeg 16).1).toInt64))) := hE2
    refine lv_goto (tgt := 21) hx hb dL_advise_10 (by decide) ?_
    refine lv_iconst (v := 0) hx hb dL_advise_21 (by decide) ?_
    exact f_reti hQ hx hb hr hlocks hI.2.2 (by omega) (by omega) dL_advise_22 E1 (fB_of hI) (Or.inl ⟨hc, rfl, hO, hX1.kept (fun q hq => hn3 q (by omega)), fun q h1 h2 => (hn3 q h2).trans (hn9 q h1)⟩)
