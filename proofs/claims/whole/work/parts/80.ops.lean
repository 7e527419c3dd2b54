set_option maxHeartbeats 4000000 in
set_option maxRecDepth 100000 in
theorem op_setWater (l : Launch) (hl9 : l.stackTraces = false) {pr : Program} {e : Env} {s : State} {m : MethodId} {args : Array Value} {below : List Frame} {meth : Method} {c : Code} {Q : State → Prop} (hx : pr.tables.exec = Jvm.exec) (hb : c.code = cL_law) (hml : c.maxLocals = 9) (hts : ∀ w ∈ wsL_law, w.before args s = true) (hown : s.vm.findClass RL = some m.cls) {D : va_G} {cI cJ cB : ClassId} {t0 z : Nat} {tx ad : Nat → Nat} {L : List Nat} (hG : fG D cI cJ cB t0 z tx s) (hXm : ∀ k, k < 5 ∨ (10 ≤ k ∧ k < 24) ∨ (30 ≤ k ∧ k < 44) → k ∈ L) (hMm : ∀ k, (50 ≤ k ∧ k < 55) ∨ (60 ≤ k ∧ k < 71) ∨ (80 ≤ k ∧ k < 91) → k ∈ L) (h45 : 45 ∈ L) (h99 : 99 ∉ L) {b Lx : Nat} {xs : Nat → Int32} (hL : Lx ≤ 2048) (hS0 : va_X b Lx xs s s.heap) (hbl : b < s.heap.size) (hbA : ¬ fA z b) {i : Nat} (hi : 4 * i + 4 ≤ Lx) {cells slots : Nat} (hc9 : cells ≤ 600000) (hs9 : slots ≤ 7000000) {E : Nat → va_E} {H : Heap} {locs : List Loc} {ls : Array Slot} (hv : law_inv cI cJ cB ad E i) (hI : fI D (fA z) s.heap ad L E H locs) (hl : lv_has ls 9 [(0, .ref b), (1, .ref (ad 0)), (2, .ref (ad 50)), (3, .ref (ad 45)), (4, .int (nI (4 * i)))]) (kk : ∀ (E1 : Nat → va_E) (H1 : Heap) (locs1 : List Loc) (ls1 : Array Slot) (c1 s1 : Nat), c1 ≤ cells + 70 → s1 ≤ slots + 600 → law_inv cI cJ cB ad E1 (i + 1) → fI D (fA z) s.heap ad L E1 H1 locs1 → lv_has ls1 9 [(0, .ref b), (1, .ref (ad 0)), (2, .ref (ad 50)), (3, .ref (ad 45)), (4, .int (nI (4 * i)))] → W pr l e room_1 s m args below meth c H1 locs1 c1 s1 Q (F0 m 991 ls1 [])) : W pr l e room_1 s m args below meth c H locs cells slots Q (F0 m 112 ls []) := by
  obtain ⟨th, w, p, g, nw, n, T, str, S, B, F, fo, hT, hNW, hN6, hrv, hok, hrel, hXx, hMS, hO⟩ := hv
  have h8 : ∀ i, i < n → B i 8 = 0 ∨ B i 8 = 1 := fun q hq => by rw [hrel.1 q hq]; exact mb_in q
  have hce : cm_water (xs (4 * i + 1)) (xs (4 * i + 2)) = c_water (xs (4 * i + 1)) (xs (4 * i + 2)) := c_water_eq _ _
  refine lv_aload_n hx hb dL_law_112 rfl (lv_at hl 1 rfl) ?_
  refine lv_aload_n hx hb dL_law_113 rfl (lv_at hl 0 rfl) ?_
  refine lv_iload hx hb dL_law_114 (lv_at hl 4 rfl) ?_
  refine lv_iconst (v := 1) hx hb dL_law_116 (by decide) ?_
  refine lv_iadd hx hb dL_law_117 ?_
  refine lv_topi (fun tv etv => ?_)
  have etv : tv = nI (4 * i + 1) := etv.trans (nI_add (4 * i) 1)
  subst etv
  refine va_sld hx hb hS0 hbl hbA hI.2.2 (vp_in_nI (by omega) (by omega)) dL_law_118 ?_
  rw [show (nI (4 * i + 1)).toNatClampNeg = (4 * i + 1) from nI_clamp (by omega)]
  refine lv_aload_n hx hb dL_law_119 rfl (lv_at hl 0 rfl) ?_
  refine lv_iload hx hb dL_law_120 (lv_at hl 4 rfl) ?_
  refine lv_iconst (v := 2) hx hb dL_law_122 (by decide) ?_
  refine lv_iadd hx hb dL_law_123 ?_
  refine lv_topi (fun tv etv => ?_)
  have etv : tv = nI (4 * i + 2) := etv.trans (nI_add (4 * i) 2)
  subst etv
  refine va_sld hx hb hS0 hbl hbA hI.2.2 (vp_in_nI (by omega) (by omega)) dL_law_124 ?_
  rw [show (nI (4 * i + 2)).toNatClampNeg = (4 * i + 2) from nI_clamp (by omega)]
  refine lv_aload_n hx hb dL_law_125 rfl (lv_at hl 3 rfl) ?_
  refine f_calli1 (vx_runSW (As := [.ref (ad 0), .int (xs (4 * i + 1)), .int (xs (4 * i + 2)), .ref (ad 45)]) (rest := []) ⟨hx, hb, hml, hown, hts⟩ (m_L_setWater l hl9 hXx hNW hN6 (by omega) h8 hXm h45 hO (xs (4 * i + 1)) (xs (4 * i + 2))) (vx_cwSW 4 hts gL_law_L_setWater rfl rfl rfl (by decide +kernel) ⟨(Nat.le_of_ble_eq_true rfl), (Nat.le_of_ble_eq_true rfl)⟩) (fPre_of hG hI) rfl rfl hl.1 rfl (lv_room (Nat.le_of_ble_eq_true rfl)) dL_law_126 ⟨(by show _ ≤ 601024; omega), (by show _ ≤ 7293034; omega)⟩) hI (fun r1 E1 H locs hp hI => ?_)
  rcases hp with ⟨hc1, hr1, hO, hXx, hf1⟩ | ⟨hc1, hr1, hq1⟩
  · subst hr1
    have hMS := hMS.kept (fun q a b => hf1 q (by omega) (by omega))
    have hMS1 := hMS.1.1
    refine lv_istore (lv' := [(5, .int 0), (0, .ref b), (1, .ref (ad 0)), (2, .ref (ad 50)), (3, .ref (ad 45)), (4, .int (nI (4 * i)))]) hx hb dL_law_129 hl (by decide) rfl (fun ls hl => ?_)
    refine lv_aload_n hx hb dL_law_131 rfl (lv_at hl 3 rfl) ?_
    refine lv_aload_n hx hb dL_law_132 rfl (lv_at hl 1 rfl) ?_
    refine lv_iload hx hb dL_law_133 (lv_at hl 5 rfl) ?_
    refine lv_iconst (v := 1) hx hb dL_law_135 (by decide) ?_
    refine lv_iadd hx hb dL_law_136 ?_
    refine lv_topi (fun tv etv => ?_)
    have etv : tv = nI (4 * i + 1) := etv.trans (nI_add (4 * i) 1)
    subst etv
    refine va_sld hx hb hS0 hbl hbA hI.2.2 (vp_in_nI (by omega) (by omega)) dL_law_137 ?_
    rw [show (nI (4 * i + 1)).toNatClampNeg = (4 * i + 1) from nI_clamp (by omega)]
    refine lv_aload_n hx hb dL_law_138 rfl (lv_at hl 1 rfl) ?_
    refine lv_iload hx hb dL_law_139 (lv_at hl 5 rfl) ?_
    refine lv_iconst (v := 2) hx hb dL_law_141 (by decide) ?_
    refine lv_iadd hx hb dL_law_142 ?_
    refine lv_topi (fun tv etv => ?_)
    have etv : tv = nI (4 * i + 2) := etv.trans (nI_add (4 * i) 2)
    subst etv
    refine va_sld hx hb hS0 hbl hbA hI.2.2 (vp_in_nI (by omega) (by omega)) dL_law_143 ?_
    rw [show (nI (4 * i + 2)).toNatClampNeg = (4 * i + 2) from nI_clamp (by omega)]
    refine f_calli1 (va_runV (As := [.int (xs (4 * i + 1)), .int (xs (4 * i + 2))]) (rest := []) ⟨hx, hb, hml, hown, hts⟩ (m_X5_setWater l hMS hMm hNW hN6 (by omega) hrv hok h99 (xs (4 * i + 1)) (xs (4 * i + 2))) (cwV 2 hts gL_law_X5_setWater rfl rfl rfl (by decide +kernel) ⟨(Nat.le_of_ble_eq_true rfl), (Nat.le_of_ble_eq_true rfl)⟩) (fPre_ofV hG hI rfl (hMm 50 (by decide)) hMS1 rfl rfl) rfl rfl hl.1 rfl (lv_room (Nat.le_of_ble_eq_true rfl)) dL_law_144 ⟨(by show _ ≤ 601024; omega), (by show _ ≤ 7293034; omega)⟩) hI (fun r2 E2 H locs hp hI => ?_)
    rcases hp with ⟨hc2, hr2, hMS, hf2⟩ | ⟨hc2, hr2, hMS, hf2⟩
    · subst hr2
      have g0 := cw_0 hc2
      have hres : w (xs (4 * i + 1)).toNatClampNeg = w (xs (4 * i + 1)).toNatClampNeg := rfl
      have hXx := hXx.kept (fun q hq => hf2 q (by omega))
      have hO : E2 45 = _ := (hf2 45 (by omega)).trans hO
      have hT2 : T ≤ 200 * (i + 1) := (by omega)
      have hNW2 : nw ≤ 6 := hNW
      have hN62 : n ≤ 6 := hN6
      have hrv2 : okr (upd w (xs (4 * i + 1)).toNatClampNeg (xs (4 * i + 2))) p nw := okr_water hrv g0.2
      have hok2 : ∀ q, q < n → okb (mb S str q) := hok
      have hrel2 : rel n B F S str := hrel
      have hMS2 := hMS.1.1
      refine lv_istore (lv' := [(6, .int (w (xs (4 * i + 1)).toNatClampNeg)), (5, .int 0), (0, .ref b), (1, .ref (ad 0)), (2, .ref (ad 50)), (3, .ref (ad 45)), (4, .int (nI (4 * i)))]) hx hb dL_law_147 hl (by decide) rfl (fun ls hl => ?_)
      refine lv_aload_n hx hb dL_law_149 rfl (lv_at hl 4 rfl) ?_
      refine f_calli1 (va_runV (As := []) (rest := []) ⟨hx, hb, hml, hown, hts⟩ (m_X5_thrown l hMS hMm hNW2 hN62 (by omega) hrv2 hok2 h99) (cwV 0 hts gL_law_X5_thrown rfl rfl rfl (by decide +kernel) ⟨(Nat.le_of_ble_eq_true rfl), (Nat.le_of_ble_eq_true rfl)⟩) (fPre_ofV hG hI rfl (hMm 50 (by decide)) hMS2 rfl rfl) rfl rfl hl.1 rfl (lv_room (Nat.le_of_ble_eq_true rfl)) dL_law_150 ⟨(by show _ ≤ 601024; omega), (by show _ ≤ 7293034; omega)⟩) hI (fun r3 E3 H locs hp hI => ?_)
      obtain ⟨hr3, hq3⟩ := hp
      rw [hq3] at hI
      subst hr3
      refine lv_iload hx hb dL_law_153 (lv_at hl 1 rfl) ?_
      refine lv_icmp_eq (tgt := 160) hx hb dL_law_155 (by decide) (fun c_155 => ?_) (fun c_155 => ?_)
      · refine lv_iload hx hb dL_law_160 (lv_at hl 1 rfl) ?_
        refine lv_if_ne (tgt := 177) hx hb dL_law_162 (by decide) (fun c_162 => ?_) (fun c_162 => ?_)
        · exact absurd c_162 (by decide)
        · refine lv_aload_n hx hb dL_law_165 rfl (lv_at hl 5 rfl) ?_
          refine lv_iconst (v := 0) hx hb dL_law_166 (by decide) ?_
          refine f_lald hx hb hG.1 hI rfl h45 hO (vp_in_iff.mpr ⟨by decide, by decide⟩) dL_law_167 ?_
          refine lv_iload hx hb dL_law_168 (lv_at hl 0 rfl) ?_
          refine lv_i2l hx hb dL_law_170 rfl ?_
          refine f_lcmp hx hb (congrArg Int32.toInt64 hres) dL_law_171 ?_
          refine lv_if_eq (tgt := 177) hx hb dL_law_172 (by decide) (fun c_172 => ?_) (fun c_172 => ?_)
          · refine lv_goto (tgt := 991) hx hb dL_law_177 (by decide) ?_
            exact kk _ H locs ls _ _ (by omega) (by omega) ⟨_, _, _, _, _, _, _, _, _, _, _, _, hT2, hNW2, hN62, hrv2, hok2, hrel2, hXx, hMS, hO⟩ hI (lv_sub hl [2, 3, 4, 5, 6] rfl)
          · exact absurd c_172 (by decide)
      · exact absurd c_155 (by decide)
    · exact absurd (hce.trans hc1) hc2
  · rw [hq1] at hI
    subst hr1
    have hMS1 := hMS.1.1
    refine lv_istore (lv' := [(5, .int (c_water (xs (4 * i + 1)) (xs (4 * i + 2)))), (0, .ref b), (1, .ref (ad 0)), (2, .ref (ad 50)), (3, .ref (ad 45)), (4, .int (nI (4 * i)))]) hx hb dL_law_129 hl (by decide) rfl (fun ls hl => ?_)
    refine lv_aload_n hx hb dL_law_131 rfl (lv_at hl 3 rfl) ?_
    refine lv_aload_n hx hb dL_law_132 rfl (lv_at hl 1 rfl) ?_
    refine lv_iload hx hb dL_law_133 (lv_at hl 5 rfl) ?_
    refine lv_iconst (v := 1) hx hb dL_law_135 (by decide) ?_
    refine lv_iadd hx hb dL_law_136 ?_
    refine lv_topi (fun tv etv => ?_)
    have etv : tv = nI (4 * i + 1) := etv.trans (nI_add (4 * i) 1)
    subst etv
    refine va_sld hx hb hS0 hbl hbA hI.2.2 (vp_in_nI (by omega) (by omega)) dL_law_137 ?_
    rw [show (nI (4 * i + 1)).toNatClampNeg = (4 * i + 1) from nI_clamp (by omega)]
    refine lv_aload_n hx hb dL_law_138 rfl (lv_at hl 1 rfl) ?_
    refine lv_iload hx hb dL_law_139 (lv_at hl 5 rfl) ?_
    refine lv_iconst (v := 2) hx hb dL_law_141 (by decide) ?_
    refine lv_iadd hx hb dL_law_142 ?_
    refine lv_topi (fun tv etv => ?_)
    have etv : tv = nI (4 * i + 2) := etv.trans (nI_add (4 * i) 2)
    subst etv
    refine va_sld hx hb hS0 hbl hbA hI.2.2 (vp_in_nI (by omega) (by omega)) dL_law_143 ?_
    rw [show (nI (4 * i + 2)).toNatClampNeg = (4 * i + 2) from nI_clamp (by omega)]
    refine f_calli1 (va_runV (As := [.int (xs (4 * i + 1)), .int (xs (4 * i + 2))]) (rest := []) ⟨hx, hb, hml, hown, hts⟩ (m_X5_setWater l hMS hMm hNW hN6 (by omega) hrv hok h99 (xs (4 * i + 1)) (xs (4 * i + 2))) (cwV 2 hts gL_law_X5_setWater rfl rfl rfl (by decide +kernel) ⟨(Nat.le_of_ble_eq_true rfl), (Nat.le_of_ble_eq_true rfl)⟩) (fPre_ofV hG hI rfl (hMm 50 (by decide)) hMS1 rfl rfl) rfl rfl hl.1 rfl (lv_room (Nat.le_of_ble_eq_true rfl)) dL_law_144 ⟨(by show _ ≤ 601024; omega), (by show _ ≤ 7293034; omega)⟩) hI (fun r2 E2 H locs hp hI => ?_)
    rcases hp with ⟨hc2, hr2, hMS, hf2⟩ | ⟨hc2, hr2, hMS, hf2⟩
    · exact absurd (hce.symm.trans hc2) hc1
    · subst hr2
      have hXx := hXx.kept (fun q hq => hf2 q (by omega))
      have hO : E2 45 = _ := (hf2 45 (by omega)).trans hO
      have hT2 : T ≤ 200 * (i + 1) := by omega
      have hNW2 := hNW
      have hN62 := hN6
      have hrv2 := hrv
      have hok2 := hok
      have hrel2 := hrel
      have hMS2 := hMS.1.1
      refine lv_istore (lv' := [(6, .int 0), (5, .int (c_water (xs (4 * i + 1)) (xs (4 * i + 2)))), (0, .ref b), (1, .ref (ad 0)), (2, .ref (ad 50)), (3, .ref (ad 45)), (4, .int (nI (4 * i)))]) hx hb dL_law_147 hl (by decide) rfl (fun ls hl => ?_)
      refine lv_aload_n hx hb dL_law_149 rfl (lv_at hl 4 rfl) ?_
      refine f_calli1 (va_runV (As := []) (rest := []) ⟨hx, hb, hml, hown, hts⟩ (m_X5_thrown l hMS hMm hNW2 hN62 (by omega) hrv2 hok2 h99) (cwV 0 hts gL_law_X5_thrown rfl rfl rfl (by decide +kernel) ⟨(Nat.le_of_ble_eq_true rfl), (Nat.le_of_ble_eq_true rfl)⟩) (fPre_ofV hG hI rfl (hMm 50 (by decide)) hMS2 rfl rfl) rfl rfl hl.1 rfl (lv_room (Nat.le_of_ble_eq_true rfl)) dL_law_150 ⟨(by show _ ≤ 601024; omega), (by show _ ≤ 7293034; omega)⟩) hI (fun r3 E3 H locs hp hI => ?_)
      obtain ⟨hr3, hq3⟩ := hp
      rw [hq3] at hI
      subst hr3
      refine lv_iload hx hb dL_law_153 (lv_at hl 1 rfl) ?_
      refine lv_icmp_eq (tgt := 160) hx hb dL_law_155 (by decide) (fun c_155 => ?_) (fun c_155 => ?_)
      · refine lv_iload hx hb dL_law_160 (lv_at hl 1 rfl) ?_
        refine lv_if_ne (tgt := 177) hx hb dL_law_162 (by decide) (fun c_162 => ?_) (fun c_162 => ?_)
        · refine lv_goto (tgt := 991) hx hb dL_law_177 (by decide) ?_
          exact kk _ H locs ls _ _ (by omega) (by omega) ⟨_, _, _, _, _, _, _, _, _, _, _, _, hT2, hNW2, hN62, hrv2, hok2, hrel2, hXx, hMS, hO⟩ hI (lv_sub hl [2, 3, 4, 5, 6] rfl)
        · exact absurd c_162 hc1
      · exact absurd hce c_155

set_option maxHeartbeats 4000000 in
set_option maxRecDepth 100000 in
theorem op_weir (l : Launch) (hl9 : l.stackTraces = false) {pr : Program} {e : Env} {s : State} {m : MethodId} {args : Array Value} {below : List Frame} {meth : Method} {c : Code} {Q : State → Prop} (hx : pr.tables.exec = Jvm.exec) (hb : c.code = cL_law) (hml : c.maxLocals = 9) (hts : ∀ w ∈ wsL_law, w.before args s = true) (hown : s.vm.findClass RL = some m.cls) {D : va_G} {cI cJ cB : ClassId} {t0 z : Nat} {tx ad : Nat → Nat} {L : List Nat} (hG : fG D cI cJ cB t0 z tx s) (hXm : ∀ k, k < 5 ∨ (10 ≤ k ∧ k < 24) ∨ (30 ≤ k ∧ k < 44) → k ∈ L) (hMm : ∀ k, (50 ≤ k ∧ k < 55) ∨ (60 ≤ k ∧ k < 71) ∨ (80 ≤ k ∧ k < 91) → k ∈ L) (h45 : 45 ∈ L) (h99 : 99 ∉ L) {b Lx : Nat} {xs : Nat → Int32} (hL : Lx ≤ 2048) (hS0 : va_X b Lx xs s s.heap) (hbl : b < s.heap.size) (hbA : ¬ fA z b) {i : Nat} (hi : 4 * i + 4 ≤ Lx) {cells slots : Nat} (hc9 : cells ≤ 600000) (hs9 : slots ≤ 7000000) {E : Nat → va_E} {H : Heap} {locs : List Loc} {ls : Array Slot} (hv : law_inv cI cJ cB ad E i) (hI : fI D (fA z) s.heap ad L E H locs) (hl : lv_has ls 9 [(0, .ref b), (1, .ref (ad 0)), (2, .ref (ad 50)), (3, .ref (ad 45)), (4, .int (nI (4 * i)))]) (kk : ∀ (E1 : Nat → va_E) (H1 : Heap) (locs1 : List Loc) (ls1 : Array Slot) (c1 s1 : Nat), c1 ≤ cells + 70 → s1 ≤ slots + 600 → law_inv cI cJ cB ad E1 (i + 1) → fI D (fA z) s.heap ad L E1 H1 locs1 → lv_has ls1 9 [(0, .ref b), (1, .ref (ad 0)), (2, .ref (ad 50)), (3, .ref (ad 45)), (4, .int (nI (4 * i)))] → W pr l e room_1 s m args below meth c H1 locs1 c1 s1 Q (F0 m 991 ls1 [])) : W pr l e room_1 s m args below meth c H locs cells slots Q (F0 m 180 ls []) := by
  obtain ⟨th, w, p, g, nw, n, T, str, S, B, F, fo, hT, hNW, hN6, hrv, hok, hrel, hXx, hMS, hO⟩ := hv
  have h8 : ∀ i, i < n → B i 8 = 0 ∨ B i 8 = 1 := fun q hq => by rw [hrel.1 q hq]; exact mb_in q
  have hce : cm_weir p nw (xs (4 * i + 1)) (xs (4 * i + 2)) = c_weir p nw (xs (4 * i + 1)) (xs (4 * i + 2)) := c_weir_eq _ _ _ _
  refine lv_aload_n hx hb dL_law_180 rfl (lv_at hl 1 rfl) ?_
  refine lv_aload_n hx hb dL_law_181 rfl (lv_at hl 0 rfl) ?_
  refine lv_iload hx hb dL_law_182 (lv_at hl 4 rfl) ?_
  refine lv_iconst (v := 1) hx hb dL_law_184 (by decide) ?_
  refine lv_iadd hx hb dL_law_185 ?_
  refine lv_topi (fun tv etv => ?_)
  have etv : tv = nI (4 * i + 1) := etv.trans (nI_add (4 * i) 1)
  subst etv
  refine va_sld hx hb hS0 hbl hbA hI.2.2 (vp_in_nI (by omega) (by omega)) dL_law_186 ?_
  rw [show (nI (4 * i + 1)).toNatClampNeg = (4 * i + 1) from nI_clamp (by omega)]
  refine lv_aload_n hx hb dL_law_187 rfl (lv_at hl 0 rfl) ?_
  refine lv_iload hx hb dL_law_188 (lv_at hl 4 rfl) ?_
  refine lv_iconst (v := 2) hx hb dL_law_190 (by decide) ?_
  refine lv_iadd hx hb dL_law_191 ?_
  refine lv_topi (fun tv etv => ?_)
  have etv : tv = nI (4 * i + 2) := etv.trans (nI_add (4 * i) 2)
  subst etv
  refine va_sld hx hb hS0 hbl hbA hI.2.2 (vp_in_nI (by omega) (by omega)) dL_law_192 ?_
  rw [show (nI (4 * i + 2)).toNatClampNeg = (4 * i + 2) from nI_clamp (by omega)]
  refine lv_aload_n hx hb dL_law_193 rfl (lv_at hl 3 rfl) ?_
  refine f_calli1 (vx_runSW (As := [.ref (ad 0), .int (xs (4 * i + 1)), .int (xs (4 * i + 2)), .ref (ad 45)]) (rest := []) ⟨hx, hb, hml, hown, hts⟩ (m_L_weir l hl9 hXx hNW hN6 (by omega) h8 hXm h45 hO (xs (4 * i + 1)) (xs (4 * i + 2))) (vx_cwSW 4 hts gL_law_L_weir rfl rfl rfl (by decide +kernel) ⟨(Nat.le_of_ble_eq_true rfl), (Nat.le_of_ble_eq_true rfl)⟩) (fPre_of hG hI) rfl rfl hl.1 rfl (lv_room (Nat.le_of_ble_eq_true rfl)) dL_law_194 ⟨(by show _ ≤ 601024; omega), (by show _ ≤ 7293034; omega)⟩) hI (fun r1 E1 H locs hp hI => ?_)
  rcases hp with ⟨hc1, hr1, hO, hXx, hf1⟩ | ⟨hc1, hr1, hq1⟩
  · subst hr1
    have hMS := hMS.kept (fun q a b => hf1 q (by omega) (by omega))
    have hMS1 := hMS.1.1
    refine lv_istore (lv' := [(5, .int 0), (0, .ref b), (1, .ref (ad 0)), (2, .ref (ad 50)), (3, .ref (ad 45)), (4, .int (nI (4 * i)))]) hx hb dL_law_197 hl (by decide) rfl (fun ls hl => ?_)
    refine lv_aload_n hx hb dL_law_199 rfl (lv_at hl 3 rfl) ?_
    refine lv_aload_n hx hb dL_law_200 rfl (lv_at hl 1 rfl) ?_
    refine lv_iload hx hb dL_law_201 (lv_at hl 5 rfl) ?_
    refine lv_iconst (v := 1) hx hb dL_law_203 (by decide) ?_
    refine lv_iadd hx hb dL_law_204 ?_
    refine lv_topi (fun tv etv => ?_)
    have etv : tv = nI (4 * i + 1) := etv.trans (nI_add (4 * i) 1)
    subst etv
    refine va_sld hx hb hS0 hbl hbA hI.2.2 (vp_in_nI (by omega) (by omega)) dL_law_205 ?_
    rw [show (nI (4 * i + 1)).toNatClampNeg = (4 * i + 1) from nI_clamp (by omega)]
    refine lv_aload_n hx hb dL_law_206 rfl (lv_at hl 1 rfl) ?_
    refine lv_iload hx hb dL_law_207 (lv_at hl 5 rfl) ?_
    refine lv_iconst (v := 2) hx hb dL_law_209 (by decide) ?_
    refine lv_iadd hx hb dL_law_210 ?_
    refine lv_topi (fun tv etv => ?_)
    have etv : tv = nI (4 * i + 2) := etv.trans (nI_add (4 * i) 2)
    subst etv
    refine va_sld hx hb hS0 hbl hbA hI.2.2 (vp_in_nI (by omega) (by omega)) dL_law_211 ?_
    rw [show (nI (4 * i + 2)).toNatClampNeg = (4 * i + 2) from nI_clamp (by omega)]
    refine f_calli1 (va_runV (As := [.int (xs (4 * i + 1)), .int (xs (4 * i + 2))]) (rest := []) ⟨hx, hb, hml, hown, hts⟩ (m_X5_weir l hMS hMm hNW hN6 (by omega) hrv hok h99 (xs (4 * i + 1)) (xs (4 * i + 2))) (cwV 2 hts gL_law_X5_weir rfl rfl rfl (by decide +kernel) ⟨(Nat.le_of_ble_eq_true rfl), (Nat.le_of_ble_eq_true rfl)⟩) (fPre_ofV hG hI rfl (hMm 50 (by decide)) hMS1 rfl rfl) rfl rfl hl.1 rfl (lv_room (Nat.le_of_ble_eq_true rfl)) dL_law_212 ⟨(by show _ ≤ 601024; omega), (by show _ ≤ 7293034; omega)⟩) hI (fun r2 E2 H locs hp hI => ?_)
    rcases hp with ⟨hc2, hr2, hMS, hf2⟩ | ⟨hc2, hr2, hMS, hf2⟩
    · subst hr2
      have g0 := cwe_0 hc2
      have g1 := m_free_lt hNW g0.2
      have hres : nI (nw + 1) = nI (nw + 1) := rfl
      have hXx := hXx.kept (fun q hq => hf2 q (by omega))
      have hO : E2 45 = _ := (hf2 45 (by omega)).trans hO
      have hT2 : T ≤ 200 * (i + 1) := (by omega)
      have hNW2 : (nw + 1) ≤ 6 := (by omega)
      have hN62 : n ≤ 6 := hN6
      have hrv2 : okr w (upd p nw (xs (4 * i + 1))) (nw + 1) := okr_weir hrv g0.1.1
      have hok2 : ∀ q, q < n → okb (mb S str q) := hok
      have hrel2 : rel n B F S str := hrel
      have hMS2 := hMS.1.1
      refine lv_istore (lv' := [(6, .int (nI (nw + 1))), (5, .int 0), (0, .ref b), (1, .ref (ad 0)), (2, .ref (ad 50)), (3, .ref (ad 45)), (4, .int (nI (4 * i)))]) hx hb dL_law_215 hl (by decide) rfl (fun ls hl => ?_)
      refine lv_aload_n hx hb dL_law_217 rfl (lv_at hl 4 rfl) ?_
      refine f_calli1 (va_runV (As := []) (rest := []) ⟨hx, hb, hml, hown, hts⟩ (m_X5_thrown l hMS hMm hNW2 hN62 (by omega) hrv2 hok2 h99) (cwV 0 hts gL_law_X5_thrown rfl rfl rfl (by decide +kernel) ⟨(Nat.le_of_ble_eq_true rfl), (Nat.le_of_ble_eq_true rfl)⟩) (fPre_ofV hG hI rfl (hMm 50 (by decide)) hMS2 rfl rfl) rfl rfl hl.1 rfl (lv_room (Nat.le_of_ble_eq_true rfl)) dL_law_218 ⟨(by show _ ≤ 601024; omega), (by show _ ≤ 7293034; omega)⟩) hI (fun r3 E3 H locs hp hI => ?_)
      obtain ⟨hr3, hq3⟩ := hp
      rw [hq3] at hI
      subst hr3
      refine lv_iload hx hb dL_law_221 (lv_at hl 1 rfl) ?_
      refine lv_icmp_eq (tgt := 228) hx hb dL_law_223 (by decide) (fun c_223 => ?_) (fun c_223 => ?_)
      · refine lv_iload hx hb dL_law_228 (lv_at hl 1 rfl) ?_
        refine lv_if_ne (tgt := 245) hx hb dL_law_230 (by decide) (fun c_230 => ?_) (fun c_230 => ?_)
        · exact absurd c_230 (by decide)
        · refine lv_aload_n hx hb dL_law_233 rfl (lv_at hl 5 rfl) ?_
          refine lv_iconst (v := 0) hx hb dL_law_234 (by decide) ?_
          refine f_lald hx hb hG.1 hI rfl h45 hO (vp_in_iff.mpr ⟨by decide, by decide⟩) dL_law_235 ?_
          refine lv_iload hx hb dL_law_236 (lv_at hl 0 rfl) ?_
          refine lv_i2l hx hb dL_law_238 rfl ?_
          refine f_lcmp hx hb (congrArg Int32.toInt64 hres) dL_law_239 ?_
          refine lv_if_eq (tgt := 245) hx hb dL_law_240 (by decide) (fun c_240 => ?_) (fun c_240 => ?_)
          · refine lv_goto (tgt := 991) hx hb dL_law_245 (by decide) ?_
            exact kk _ H locs ls _ _ (by omega) (by omega) ⟨_, _, _, _, _, _, _, _, _, _, _, _, hT2, hNW2, hN62, hrv2, hok2, hrel2, hXx, hMS, hO⟩ hI (lv_sub hl [2, 3, 4, 5, 6] rfl)
          · exact absurd c_240 (by decide)
      · exact absurd c_223 (by decide)
    · exact absurd (hce.trans hc1) hc2
  · rw [hq1] at hI
    subst hr1
    have hMS1 := hMS.1.1
    refine lv_istore (lv' := [(5, .int (c_weir p nw (xs (4 * i + 1)) (xs (4 * i + 2)))), (0, .ref b), (1, .ref (ad 0)), (2, .ref (ad 50)), (3, .ref (ad 45)), (4, .int (nI (4 * i)))]) hx hb dL_law_197 hl (by decide) rfl (fun ls hl => ?_)
    refine lv_aload_n hx hb dL_law_199 rfl (lv_at hl 3 rfl) ?_
    refine lv_aload_n hx hb dL_law_200 rfl (lv_at hl 1 rfl) ?_
    refine lv_iload hx hb dL_law_201 (lv_at hl 5 rfl) ?_
    refine lv_iconst (v := 1) hx hb dL_law_203 (by decide) ?_
    refine lv_iadd hx hb dL_law_204 ?_
    refine lv_topi (fun tv etv => ?_)
    have etv : tv = nI (4 * i + 1) := etv.trans (nI_add (4 * i) 1)
    subst etv
    refine va_sld hx hb hS0 hbl hbA hI.2.2 (vp_in_nI (by omega) (by omega)) dL_law_205 ?_
    rw [show (nI (4 * i + 1)).toNatClampNeg = (4 * i + 1) from nI_clamp (by omega)]
    refine lv_aload_n hx hb dL_law_206 rfl (lv_at hl 1 rfl) ?_
    refine lv_iload hx hb dL_law_207 (lv_at hl 5 rfl) ?_
    refine lv_iconst (v := 2) hx hb dL_law_209 (by decide) ?_
    refine lv_iadd hx hb dL_law_210 ?_
    refine lv_topi (fun tv etv => ?_)
    have etv : tv = nI (4 * i + 2) := etv.trans (nI_add (4 * i) 2)
    subst etv
    refine va_sld hx hb hS0 hbl hbA hI.2.2 (vp_in_nI (by omega) (by omega)) dL_law_211 ?_
    rw [show (nI (4 * i + 2)).toNatClampNeg = (4 * i + 2) from nI_clamp (by omega)]
    refine f_calli1 (va_runV (As := [.int (xs (4 * i + 1)), .int (xs (4 * i + 2))]) (rest := []) ⟨hx, hb, hml, hown, hts⟩ (m_X5_weir l hMS hMm hNW hN6 (by omega) hrv hok h99 (xs (4 * i + 1)) (xs (4 * i + 2))) (cwV 2 hts gL_law_X5_weir rfl rfl rfl (by decide +kernel) ⟨(Nat.le_of_ble_eq_true rfl), (Nat.le_of_ble_eq_true rfl)⟩) (fPre_ofV hG hI rfl (hMm 50 (by decide)) hMS1 rfl rfl) rfl rfl hl.1 rfl (lv_room (Nat.le_of_ble_eq_true rfl)) dL_law_212 ⟨(by show _ ≤ 601024; omega), (by show _ ≤ 7293034; omega)⟩) hI (fun r2 E2 H locs hp hI => ?_)
    rcases hp with ⟨hc2, hr2, hMS, hf2⟩ | ⟨hc2, hr2, hMS, hf2⟩
    · exact absurd (hce.symm.trans hc2) hc1
    · subst hr2
      have hXx := hXx.kept (fun q hq => hf2 q (by omega))
      have hO : E2 45 = _ := (hf2 45 (by omega)).trans hO
      have hT2 : T ≤ 200 * (i + 1) := by omega
      have hNW2 := hNW
      have hN62 := hN6
      have hrv2 := hrv
      have hok2 := hok
      have hrel2 := hrel
      have hMS2 := hMS.1.1
      refine lv_istore (lv' := [(6, .int 0), (5, .int (c_weir p nw (xs (4 * i + 1)) (xs (4 * i + 2)))), (0, .ref b), (1, .ref (ad 0)), (2, .ref (ad 50)), (3, .ref (ad 45)), (4, .int (nI (4 * i)))]) hx hb dL_law_215 hl (by decide) rfl (fun ls hl => ?_)
      refine lv_aload_n hx hb dL_law_217 rfl (lv_at hl 4 rfl) ?_
      refine f_calli1 (va_runV (As := []) (rest := []) ⟨hx, hb, hml, hown, hts⟩ (m_X5_thrown l hMS hMm hNW2 hN62 (by omega) hrv2 hok2 h99) (cwV 0 hts gL_law_X5_thrown rfl rfl rfl (by decide +kernel) ⟨(Nat.le_of_ble_eq_true rfl), (Nat.le_of_ble_eq_true rfl)⟩) (fPre_ofV hG hI rfl (hMm 50 (by decide)) hMS2 rfl rfl) rfl rfl hl.1 rfl (lv_room (Nat.le_of_ble_eq_true rfl)) dL_law_218 ⟨(by show _ ≤ 601024; omega), (by show _ ≤ 7293034; omega)⟩) hI (fun r3 E3 H locs hp hI => ?_)
      obtain ⟨hr3, hq3⟩ := hp
      rw [hq3] at hI
      subst hr3
      refine lv_iload hx hb dL_law_221 (lv_at hl 1 rfl) ?_
      refine lv_icmp_eq (tgt := 228) hx hb dL_law_223 (by decide) (fun c_223 => ?_) (fun c_223 => ?_)
      · refine lv_iload hx hb dL_law_228 (lv_at hl 1 rfl) ?_
        refine lv_if_ne (tgt := 245) hx hb dL_law_230 (by decide) (fun c_230 => ?_) (fun c_230 => ?_)
        · refine lv_goto (tgt := 991) hx hb dL_law_245 (by decide) ?_
          exact kk _ H locs ls _ _ (by omega) (by omega) ⟨_, _, _, _, _, _, _, _, _, _, _, _, hT2, hNW2, hN62, hrv2, hok2, hrel2, hXx, hMS, hO⟩ hI (lv_sub hl [2, 3, 4, 5, 6] rfl)
        · exact absurd c_230 hc1
      · exact absurd hce c_223

set_option maxHeartbeats 4000000 in
set_option maxRecDepth 100000 in
theorem op_launch (l : Launch) (hl9 : l.stackTraces = false) {pr : Program} {e : Env} {s : State} {m : MethodId} {args : Array Value} {below : List Frame} {meth : Method} {c : Code} {Q : State → Prop} (hx : pr.tables.exec = Jvm.exec) (hb : c.code = cL_law) (hml : c.maxLocals = 9) (hts : ∀ w ∈ wsL_law, w.before args s = true) (hown : s.vm.findClass RL = some m.cls) {D : va_G} {cI cJ cB : ClassId} {t0 z : Nat} {tx ad : Nat → Nat} {L : List Nat} (hG : fG D cI cJ cB t0 z tx s) (hXm : ∀ k, k < 5 ∨ (10 ≤ k ∧ k < 24) ∨ (30 ≤ k ∧ k < 44) → k ∈ L) (hMm : ∀ k, (50 ≤ k ∧ k < 55) ∨ (60 ≤ k ∧ k < 71) ∨ (80 ≤ k ∧ k < 91) → k ∈ L) (h45 : 45 ∈ L) (h99 : 99 ∉ L) {b Lx : Nat} {xs : Nat → Int32} (hL : Lx ≤ 2048) (hS0 : va_X b Lx xs s s.heap) (hbl : b < s.heap.size) (hbA : ¬ fA z b) {i : Nat} (hi : 4 * i + 4 ≤ Lx) {cells slots : Nat} (hc9 : cells ≤ 600000) (hs9 : slots ≤ 7000000) {E : Nat → va_E} {H : Heap} {locs : List Loc} {ls : Array Slot} (hv : law_inv cI cJ cB ad E i) (hI : fI D (fA z) s.heap ad L E H locs) (hl : lv_has ls 9 [(0, .ref b), (1, .ref (ad 0)), (2, .ref (ad 50)), (3, .ref (ad 45)), (4, .int (nI (4 * i)))]) (kk : ∀ (E1 : Nat → va_E) (H1 : Heap) (locs1 : List Loc) (ls1 : Array Slot) (c1 s1 : Nat), c1 ≤ cells + 70 → s1 ≤ slots + 600 → law_inv cI cJ cB ad E1 (i + 1) → fI D (fA z) s.heap ad L E1 H1 locs1 → lv_has ls1 9 [(0, .ref b), (1, .ref (ad 0)), (2, .ref (ad 50)), (3, .ref (ad 45)), (4, .int (nI (4 * i)))] → W pr l e room_1 s m args below meth c H1 locs1 c1 s1 Q (F0 m 991 ls1 [])) : W pr l e room_1 s m args below meth c H locs cells slots Q (F0 m 248 ls []) := by
  obtain ⟨th, w, p, g, nw, n, T, str, S, B, F, fo, hT, hNW, hN6, hrv, hok, hrel, hXx, hMS, hO⟩ := hv
  have h8 : ∀ i, i < n → B i 8 = 0 ∨ B i 8 = 1 := fun q hq => by rw [hrel.1 q hq]; exact mb_in q
  have hce : cm_launch n (xs (4 * i + 1)) (xs (4 * i + 2)) = c_launch n (xs (4 * i + 1)) (xs (4 * i + 2)) := c_launch_eq hN6 _ _
  refine lv_aload_n hx hb dL_law_248 rfl (lv_at hl 1 rfl) ?_
  refine lv_aload_n hx hb dL_law_249 rfl (lv_at hl 0 rfl) ?_
  refine lv_iload hx hb dL_law_250 (lv_at hl 4 rfl) ?_
  refine lv_iconst (v := 1) hx hb dL_law_252 (by decide) ?_
  refine lv_iadd hx hb dL_law_253 ?_
  refine lv_topi (fun tv etv => ?_)
  have etv : tv = nI (4 * i + 1) := etv.trans (nI_add (4 * i) 1)
  subst etv
  refine va_sld hx hb hS0 hbl hbA hI.2.2 (vp_in_nI (by omega) (by omega)) dL_law_254 ?_
  rw [show (nI (4 * i + 1)).toNatClampNeg = (4 * i + 1) from nI_clamp (by omega)]
  refine lv_aload_n hx hb dL_law_255 rfl (lv_at hl 0 rfl) ?_
  refine lv_iload hx hb dL_law_256 (lv_at hl 4 rfl) ?_
  refine lv_iconst (v := 2) hx hb dL_law_258 (by decide) ?_
  refine lv_iadd hx hb dL_law_259 ?_
  refine lv_topi (fun tv etv => ?_)
  have etv : tv = nI (4 * i + 2) := etv.trans (nI_add (4 * i) 2)
  subst etv
  refine va_sld hx hb hS0 hbl hbA hI.2.2 (vp_in_nI (by omega) (by omega)) dL_law_260 ?_
  rw [show (nI (4 * i + 2)).toNatClampNeg = (4 * i + 2) from nI_clamp (by omega)]
  refine lv_aload_n hx hb dL_law_261 rfl (lv_at hl 3 rfl) ?_
  refine f_calli1 (vx_runSW (As := [.ref (ad 0), .int (xs (4 * i + 1)), .int (xs (4 * i + 2)), .ref (ad 45)]) (rest := []) ⟨hx, hb, hml, hown, hts⟩ (m_L_launch l hl9 hXx hNW hN6 (by omega) h8 hXm h45 hO (xs (4 * i + 1)) (xs (4 * i + 2))) (vx_cwSW 4 hts gL_law_L_launch rfl rfl rfl (by decide +kernel) ⟨(Nat.le_of_ble_eq_true rfl), (Nat.le_of_ble_eq_true rfl)⟩) (fPre_of hG hI) rfl rfl hl.1 rfl (lv_room (Nat.le_of_ble_eq_true rfl)) dL_law_262 ⟨(by show _ ≤ 601024; omega), (by show _ ≤ 7293034; omega)⟩) hI (fun r1 E1 H locs hp hI => ?_)
  rcases hp with ⟨hc1, hr1, hO, hXx, hf1⟩ | ⟨hc1, hr1, hq1⟩
  · subst hr1
    have hMS := hMS.kept (fun q a b => hf1 q (by omega) (by omega))
    have hMS1 := hMS.1.1
    refine lv_istore (lv' := [(5, .int 0), (0, .ref b), (1, .ref (ad 0)), (2, .ref (ad 50)), (3, .ref (ad 45)), (4, .int (nI (4 * i)))]) hx hb dL_law_265 hl (by decide) rfl (fun ls hl => ?_)
    refine lv_aload_n hx hb dL_law_267 rfl (lv_at hl 3 rfl) ?_
    refine lv_aload_n hx hb dL_law_268 rfl (lv_at hl 1 rfl) ?_
    refine lv_iload hx hb dL_law_269 (lv_at hl 5 rfl) ?_
    refine lv_iconst (v := 1) hx hb dL_law_271 (by decide) ?_
    refine lv_iadd hx hb dL_law_272 ?_
    refine lv_topi (fun tv etv => ?_)
    have etv : tv = nI (4 * i + 1) := etv.trans (nI_add (4 * i) 1)
    subst etv
    refine va_sld hx hb hS0 hbl hbA hI.2.2 (vp_in_nI (by omega) (by omega)) dL_law_273 ?_
    rw [show (nI (4 * i + 1)).toNatClampNeg = (4 * i + 1) from nI_clamp (by omega)]
    refine lv_aload_n hx hb dL_law_274 rfl (lv_at hl 1 rfl) ?_
    refine lv_iload hx hb dL_law_275 (lv_at hl 5 rfl) ?_
    refine lv_iconst (v := 2) hx hb dL_law_277 (by decide) ?_
    refine lv_iadd hx hb dL_law_278 ?_
    refine lv_topi (fun tv etv => ?_)
    have etv : tv = nI (4 * i + 2) := etv.trans (nI_add (4 * i) 2)
    subst etv
    refine va_sld hx hb hS0 hbl hbA hI.2.2 (vp_in_nI (by omega) (by omega)) dL_law_279 ?_
    rw [show (nI (4 * i + 2)).toNatClampNeg = (4 * i + 2) from nI_clamp (by omega)]
    refine f_calli1 (va_runV (As := [.int (xs (4 * i + 1)), .int (xs (4 * i + 2))]) (rest := []) ⟨hx, hb, hml, hown, hts⟩ (m_X5_launch l hMS hMm hNW hN6 (by omega) hrv hok h99 (xs (4 * i + 1)) (xs (4 * i + 2))) (cwV 2 hts gL_law_X5_launch rfl rfl rfl (by decide +kernel) ⟨(Nat.le_of_ble_eq_true rfl), (Nat.le_of_ble_eq_true rfl)⟩) (fPre_ofV hG hI rfl (hMm 50 (by decide)) hMS1 rfl rfl) rfl rfl hl.1 rfl (lv_room (Nat.le_of_ble_eq_true rfl)) dL_law_280 ⟨(by show _ ≤ 601024; omega), (by show _ ≤ 7293034; omega)⟩) hI (fun r2 E2 H locs hp hI => ?_)
    rcases hp with ⟨hc2, hr2, hMS, hf2⟩ | ⟨hc2, hr2, hMS, hf2⟩
    · subst hr2
      have g0 := cl_0 hc2
      have g1 := n_six hN6 g0.2
      have hres : nI n = nI n := rfl
      have hXx := hXx.kept (fun q hq => hf2 q (by omega))
      have hO : E2 45 = _ := (hf2 45 (by omega)).trans hO
      have hT2 : T ≤ 200 * (i + 1) := (by omega)
      have hNW2 : nw ≤ 6 := hNW
      have hN62 : (n + 1) ≤ 6 := (by omega)
      have hrv2 : okr w p nw := hrv
      have hok2 : ∀ q, q < (n + 1) → okb (mb (m_lau S n (xs (4 * i + 1))) (upd str n (xs (4 * i + 2))) q) := okb_launch hok hrel.2.2.2 ⟨g0.1.1.1, (i_lt1 (k := 4) (by decide)).mp g0.1.1.2⟩ (le8 g0.1.2)
      have hrel2 : rel (n + 1) (va_up B n (p_new (B n) (xs (4 * i + 1)) (xs (4 * i + 2)))) (va_up F n (p_row (F n) 1 3)) (m_lau S n (xs (4 * i + 1))) (upd str n (xs (4 * i + 2))) := rel_launch hrel g1
      have hMS2 := hMS.1.1
      refine lv_istore (lv' := [(6, .int (nI n)), (5, .int 0), (0, .ref b), (1, .ref (ad 0)), (2, .ref (ad 50)), (3, .ref (ad 45)), (4, .int (nI (4 * i)))]) hx hb dL_law_283 hl (by decide) rfl (fun ls hl => ?_)
      refine lv_aload_n hx hb dL_law_285 rfl (lv_at hl 4 rfl) ?_
      refine f_calli1 (va_runV (As := []) (rest := []) ⟨hx, hb, hml, hown, hts⟩ (m_X5_thrown l hMS hMm hNW2 hN62 (by omega) hrv2 hok2 h99) (cwV 0 hts gL_law_X5_thrown rfl rfl rfl (by decide +kernel) ⟨(Nat.le_of_ble_eq_true rfl), (Nat.le_of_ble_eq_true rfl)⟩) (fPre_ofV hG hI rfl (hMm 50 (by decide)) hMS2 rfl rfl) rfl rfl hl.1 rfl (lv_room (Nat.le_of_ble_eq_true rfl)) dL_law_286 ⟨(by show _ ≤ 601024; omega), (by show _ ≤ 7293034; omega)⟩) hI (fun r3 E3 H locs hp hI => ?_)
      obtain ⟨hr3, hq3⟩ := hp
      rw [hq3] at hI
      subst hr3
      refine lv_iload hx hb dL_law_289 (lv_at hl 1 rfl) ?_
      refine lv_icmp_eq (tgt := 296) hx hb dL_law_291 (by decide) (fun c_291 => ?_) (fun c_291 => ?_)
      · refine lv_iload hx hb dL_law_296 (lv_at hl 1 rfl) ?_
        refine lv_if_ne (tgt := 313) hx hb dL_law_298 (by decide) (fun c_298 => ?_) (fun c_298 => ?_)
        · exact absurd c_298 (by decide)
        · refine lv_aload_n hx hb dL_law_301 rfl (lv_at hl 5 rfl) ?_
          refine lv_iconst (v := 0) hx hb dL_law_302 (by decide) ?_
          refine f_lald hx hb hG.1 hI rfl h45 hO (vp_in_iff.mpr ⟨by decide, by decide⟩) dL_law_303 ?_
          refine lv_iload hx hb dL_law_304 (lv_at hl 0 rfl) ?_
          refine lv_i2l hx hb dL_law_306 rfl ?_
          refine f_lcmp hx hb (congrArg Int32.toInt64 hres) dL_law_307 ?_
          refine lv_if_eq (tgt := 313) hx hb dL_law_308 (by decide) (fun c_308 => ?_) (fun c_308 => ?_)
          · refine lv_goto (tgt := 991) hx hb dL_law_313 (by decide) ?_
            exact kk _ H locs ls _ _ (by omega) (by omega) ⟨_, _, _, _, _, _, _, _, _, _, _, _, hT2, hNW2, hN62, hrv2, hok2, hrel2, hXx, hMS, hO⟩ hI (lv_sub hl [2, 3, 4, 5, 6] rfl)
          · exact absurd c_308 (by decide)
      · exact absurd c_291 (by decide)
    · exact absurd (hce.trans hc1) hc2
  · rw [hq1] at hI
    subst hr1
    have hMS1 := hMS.1.1
    refine lv_istore (lv' := [(5, .int (c_launch n (xs (4 * i + 1)) (xs (4 * i + 2)))), (0, .ref b), (1, .ref (ad 0)), (2, .ref (ad 50)), (3, .ref (ad 45)), (4, .int (nI (4 * i)))]) hx hb dL_law_265 hl (by decide) rfl (fun ls hl => ?_)
    refine lv_aload_n hx hb dL_law_267 rfl (lv_at hl 3 rfl) ?_
    refine lv_aload_n hx hb dL_law_268 rfl (lv_at hl 1 rfl) ?_
    refine lv_iload hx hb dL_law_269 (lv_at hl 5 rfl) ?_
    refine lv_iconst (v := 1) hx hb dL_law_271 (by decide) ?_
    refine lv_iadd hx hb dL_law_272 ?_
    refine lv_topi (fun tv etv => ?_)
    have etv : tv = nI (4 * i + 1) := etv.trans (nI_add (4 * i) 1)
    subst etv
    refine va_sld hx hb hS0 hbl hbA hI.2.2 (vp_in_nI (by omega) (by omega)) dL_law_273 ?_
    rw [show (nI (4 * i + 1)).toNatClampNeg = (4 * i + 1) from nI_clamp (by omega)]
    refine lv_aload_n hx hb dL_law_274 rfl (lv_at hl 1 rfl) ?_
    refine lv_iload hx hb dL_law_275 (lv_at hl 5 rfl) ?_
    refine lv_iconst (v := 2) hx hb dL_law_277 (by decide) ?_
    refine lv_iadd hx hb dL_law_278 ?_
    refine lv_topi (fun tv etv => ?_)
    have etv : tv = nI (4 * i + 2) := etv.trans (nI_add (4 * i) 2)
    subst etv
    refine va_sld hx hb hS0 hbl hbA hI.2.2 (vp_in_nI (by omega) (by omega)) dL_law_279 ?_
    rw [show (nI (4 * i + 2)).toNatClampNeg = (4 * i + 2) from nI_clamp (by omega)]
    refine f_calli1 (va_runV (As := [.int (xs (4 * i + 1)), .int (xs (4 * i + 2))]) (rest := []) ⟨hx, hb, hml, hown, hts⟩ (m_X5_launch l hMS hMm hNW hN6 (by omega) hrv hok h99 (xs (4 * i + 1)) (xs (4 * i + 2))) (cwV 2 hts gL_law_X5_launch rfl rfl rfl (by decide +kernel) ⟨(Nat.le_of_ble_eq_true rfl), (Nat.le_of_ble_eq_true rfl)⟩) (fPre_ofV hG hI rfl (hMm 50 (by decide)) hMS1 rfl rfl) rfl rfl hl.1 rfl (lv_room (Nat.le_of_ble_eq_true rfl)) dL_law_280 ⟨(by show _ ≤ 601024; omega), (by show _ ≤ 7293034; omega)⟩) hI (fun r2 E2 H locs hp hI => ?_)
    rcases hp with ⟨hc2, hr2, hMS, hf2⟩ | ⟨hc2, hr2, hMS, hf2⟩
    · exact absurd (hce.symm.trans hc2) hc1
    · subst hr2
      have hXx := hXx.kept (fun q hq => hf2 q (by omega))
      have hO : E2 45 = _ := (hf2 45 (by omega)).trans hO
      have hT2 : T ≤ 200 * (i + 1) := by omega
      have hNW2 := hNW
      have hN62 := hN6
      have hrv2 := hrv
      have hok2 := hok
      have hrel2 := hrel
      have hMS2 := hMS.1.1
      refine lv_istore (lv' := [(6, .int 0), (5, .int (c_launch n (xs (4 * i + 1)) (xs (4 * i + 2)))), (0, .ref b), (1, .ref (ad 0)), (2, .ref (ad 50)), (3, .ref (ad 45)), (4, .int (nI (4 * i)))]) hx hb dL_law_283 hl (by decide) rfl (fun ls hl => ?_)
      refine lv_aload_n hx hb dL_law_285 rfl (lv_at hl 4 rfl) ?_
      refine f_calli1 (va_runV (As := []) (rest := []) ⟨hx, hb, hml, hown, hts⟩ (m_X5_thrown l hMS hMm hNW2 hN62 (by omega) hrv2 hok2 h99) (cwV 0 hts gL_law_X5_thrown rfl rfl rfl (by decide +kernel) ⟨(Nat.le_of_ble_eq_true rfl), (Nat.le_of_ble_eq_true rfl)⟩) (fPre_ofV hG hI rfl (hMm 50 (by decide)) hMS2 rfl rfl) rfl rfl hl.1 rfl (lv_room (Nat.le_of_ble_eq_true rfl)) dL_law_286 ⟨(by show _ ≤ 601024; omega), (by show _ ≤ 7293034; omega)⟩) hI (fun r3 E3 H locs hp hI => ?_)
      obtain ⟨hr3, hq3⟩ := hp
      rw [hq3] at hI
      subst hr3
      refine lv_iload hx hb dL_law_289 (lv_at hl 1 rfl) ?_
      refine lv_icmp_eq (tgt := 296) hx hb dL_law_291 (by decide) (fun c_291 => ?_) (fun c_291 => ?_)
      · refine lv_iload hx hb dL_law_296 (lv_at hl 1 rfl) ?_
        refine lv_if_ne (tgt := 313) hx hb dL_law_298 (by decide) (fun c_298 => ?_) (fun c_298 => ?_)
        · refine lv_goto (tgt := 991) hx hb dL_law_313 (by decide) ?_
          exact kk _ H locs ls _ _ (by omega) (by omega) ⟨_, _, _, _, _, _, _, _, _, _, _, _, hT2, hNW2, hN62, hrv2, hok2, hrel2, hXx, hMS, hO⟩ hI (lv_sub hl [2, 3, 4, 5, 6] rfl)
        · exact absurd c_298 hc1
      · exact absurd hce c_291

set_option maxHeartbeats 4000000 in
set_option maxRecDepth 100000 in
theorem op_paddle (l : Launch) (hl9 : l.stackTraces = false) {pr : Program} {e : Env} {s : State} {m : MethodId} {args : Array Value} {below : List Frame} {meth : Method} {c : Code} {Q : State → Prop} (hx : pr.tables.exec = Jvm.exec) (hb : c.code = cL_law) (hml : c.maxLocals = 9) (hts : ∀ w ∈ wsL_law, w.before args s = true) (hown : s.vm.findClass RL = some m.cls) {D : va_G} {cI cJ cB : ClassId} {t0 z : Nat} {tx ad : Nat → Nat} {L : List Nat} (hG : fG D cI cJ cB t0 z tx s) (hXm : ∀ k, k < 5 ∨ (10 ≤ k ∧ k < 24) ∨ (30 ≤ k ∧ k < 44) → k ∈ L) (hMm : ∀ k, (50 ≤ k ∧ k < 55) ∨ (60 ≤ k ∧ k < 71) ∨ (80 ≤ k ∧ k < 91) → k ∈ L) (h45 : 45 ∈ L) (h99 : 99 ∉ L) {b Lx : Nat} {xs : Nat → Int32} (hL : Lx ≤ 2048) (hS0 : va_X b Lx xs s s.heap) (hbl : b < s.heap.size) (hbA : ¬ fA z b) {i : Nat} (hi : 4 * i + 4 ≤ Lx) {cells slots : Nat} (hc9 : cells ≤ 600000) (hs9 : slots ≤ 7000000) {E : Nat → va_E} {H : Heap} {locs : List Loc} {ls : Array Slot} (hv : law_inv cI cJ cB ad E i) (hI : fI D (fA z) s.heap ad L E H locs) (hl : lv_has ls 9 [(0, .ref b), (1, .ref (ad 0)), (2, .ref (ad 50)), (3, .ref (ad 45)), (4, .int (nI (4 * i)))]) (kk : ∀ (E1 : Nat → va_E) (H1 : Heap) (locs1 : List Loc) (ls1 : Array Slot) (c1 s1 : Nat), c1 ≤ cells + 70 → s1 ≤ slots + 600 → law_inv cI cJ cB ad E1 (i + 1) → fI D (fA z) s.heap ad L E1 H1 locs1 → lv_has ls1 9 [(0, .ref b), (1, .ref (ad 0)), (2, .ref (ad 50)), (3, .ref (ad 45)), (4, .int (nI (4 * i)))] → W pr l e room_1 s m args below meth c H1 locs1 c1 s1 Q (F0 m 991 ls1 [])) : W pr l e room_1 s m args below meth c H locs cells slots Q (F0 m 316 ls []) := by
  obtain ⟨th, w, p, g, nw, n, T, str, S, B, F, fo, hT, hNW, hN6, hrv, hok, hrel, hXx, hMS, hO⟩ := hv
  have h8 : ∀ i, i < n → B i 8 = 0 ∨ B i 8 = 1 := fun q hq => by rw [hrel.1 q hq]; exact mb_in q
  have hce : cm_paddle n (xs (4 * i + 1)) (xs (4 * i + 2)) (xs (4 * i + 3)) = c_paddle n (xs (4 * i + 1)) (xs (4 * i + 2)) (xs (4 * i + 3)) := c_paddle_eq _ _ _ _
  refine lv_aload_n hx hb dL_law_316 rfl (lv_at hl 1 rfl) ?_
  refine lv_aload_n hx hb dL_law_317 rfl (lv_at hl 0 rfl) ?_
  refine lv_iload hx hb dL_law_318 (lv_at hl 4 rfl) ?_
  refine lv_iconst (v := 1) hx hb dL_law_320 (by decide) ?_
  refine lv_iadd hx hb dL_law_321 ?_
  refine lv_topi (fun tv etv => ?_)
  have etv : tv = nI (4 * i + 1) := etv.trans (nI_add (4 * i) 1)
  subst etv
  refine va_sld hx hb hS0 hbl hbA hI.2.2 (vp_in_nI (by omega) (by omega)) dL_law_322 ?_
  rw [show (nI (4 * i + 1)).toNatClampNeg = (4 * i + 1) from nI_clamp (by omega)]
  refine lv_aload_n hx hb dL_law_323 rfl (lv_at hl 0 rfl) ?_
  refine lv_iload hx hb dL_law_324 (lv_at hl 4 rfl) ?_
  refine lv_iconst (v := 2) hx hb dL_law_326 (by decide) ?_
  refine lv_iadd hx hb dL_law_327 ?_
  refine lv_topi (fun tv etv => ?_)
  have etv : tv = nI (4 * i + 2) := etv.trans (nI_add (4 * i) 2)
  subst etv
  refine va_sld hx hb hS0 hbl hbA hI.2.2 (vp_in_nI (by omega) (by omega)) dL_law_328 ?_
  rw [show (nI (4 * i + 2)).toNatClampNeg = (4 * i + 2) from nI_clamp (by omega)]
  refine lv_aload_n hx hb dL_law_329 rfl (lv_at hl 0 rfl) ?_
  refine lv_iload hx hb dL_law_330 (lv_at hl 4 rfl) ?_
  refine lv_iconst (v := 3) hx hb dL_law_332 (by decide) ?_
  refine lv_iadd hx hb dL_law_333 ?_
  refine lv_topi (fun tv etv => ?_)
  have etv : tv = nI (4 * i + 3) := etv.trans (nI_add (4 * i) 3)
  subst etv
  refine va_sld hx hb hS0 hbl hbA hI.2.2 (vp_in_nI (by omega) (by omega)) dL_law_334 ?_
  rw [show (nI (4 * i + 3)).toNatClampNeg = (4 * i + 3) from nI_clamp (by omega)]
  refine lv_aload_n hx hb dL_law_335 rfl (lv_at hl 3 rfl) ?_
  refine f_calli1 (vx_runSW (As := [.ref (ad 0), .int (xs (4 * i + 1)), .int (xs (4 * i + 2)), .int (xs (4 * i + 3)), .ref (ad 45)]) (rest := []) ⟨hx, hb, hml, hown, hts⟩ (m_L_paddle l hl9 hXx hNW hN6 (by omega) h8 hXm h45 hO (xs (4 * i + 1)) (xs (4 * i + 2)) (xs (4 * i + 3))) (vx_cwSW 5 hts gL_law_L_paddle rfl rfl rfl (by decide +kernel) ⟨(Nat.le_of_ble_eq_true rfl), (Nat.le_of_ble_eq_true rfl)⟩) (fPre_of hG hI) rfl rfl hl.1 rfl (lv_room (Nat.le_of_ble_eq_true rfl)) dL_law_336 ⟨(by show _ ≤ 601024; omega), (by show _ ≤ 7293034; omega)⟩) hI (fun r1 E1 H locs hp hI => ?_)
  rcases hp with ⟨hc1, hr1, hO, hXx, hf1⟩ | ⟨hc1, hr1, hq1⟩
  · subst hr1
    have hMS := hMS.kept (fun q a b => hf1 q (by omega) (by omega))
    have hMS1 := hMS.1.1
    refine lv_istore (lv' := [(5, .int 0), (0, .ref b), (1, .ref (ad 0)), (2, .ref (ad 50)), (3, .ref (ad 45)), (4, .int (nI (4 * i)))]) hx hb dL_law_339 hl (by decide) rfl (fun ls hl => ?_)
    refine lv_aload_n hx hb dL_law_341 rfl (lv_at hl 3 rfl) ?_
    refine lv_aload_n hx hb dL_law_342 rfl (lv_at hl 1 rfl) ?_
    refine lv_iload hx hb dL_law_343 (lv_at hl 5 rfl) ?_
    refine lv_iconst (v := 1) hx hb dL_law_345 (by decide) ?_
    refine lv_iadd hx hb dL_law_346 ?_
    refine lv_topi (fun tv etv => ?_)
    have etv : tv = nI (4 * i + 1) := etv.trans (nI_add (4 * i) 1)
    subst etv
    refine va_sld hx hb hS0 hbl hbA hI.2.2 (vp_in_nI (by omega) (by omega)) dL_law_347 ?_
    rw [show (nI (4 * i + 1)).toNatClampNeg = (4 * i + 1) from nI_clamp (by omega)]
    refine lv_aload_n hx hb dL_law_348 rfl (lv_at hl 1 rfl) ?_
    refine lv_iload hx hb dL_law_349 (lv_at hl 5 rfl) ?_
    refine lv_iconst (v := 2) hx hb dL_law_351 (by decide) ?_
    refine lv_iadd hx hb dL_law_352 ?_
    refine lv_topi (fun tv etv => ?_)
    have etv : tv = nI (4 * i + 2) := etv.trans (nI_add (4 * i) 2)
    subst etv
    refine va_sld hx hb hS0 hbl hbA hI.2.2 (vp_in_nI (by omega) (by omega)) dL_law_353 ?_
    rw [show (nI (4 * i + 2)).toNatClampNeg = (4 * i + 2) from nI_clamp (by omega)]
    refine lv_aload_n hx hb dL_law_354 rfl (lv_at hl 1 rfl) ?_
    refine lv_iload hx hb dL_law_355 (lv_at hl 5 rfl) ?_
    refine lv_iconst (v := 3) hx hb dL_law_357 (by decide) ?_
    refine lv_iadd hx hb dL_law_358 ?_
    refine lv_topi (fun tv etv => ?_)
    have etv : tv = nI (4 * i + 3) := etv.trans (nI_add (4 * i) 3)
    subst etv
    refine va_sld hx hb hS0 hbl hbA hI.2.2 (vp_in_nI (by omega) (by omega)) dL_law_359 ?_
    rw [show (nI (4 * i + 3)).toNatClampNeg = (4 * i + 3) from nI_clamp (by omega)]
    refine f_calli1 (va_runV (As := [.int (xs (4 * i + 1)), .int (xs (4 * i + 2)), .int (xs (4 * i + 3))]) (rest := []) ⟨hx, hb, hml, hown, hts⟩ (m_X5_paddle l hMS hMm hNW hN6 (by omega) hrv hok h99 (xs (4 * i + 1)) (xs (4 * i + 2)) (xs (4 * i + 3))) (cwV 3 hts gL_law_X5_paddle rfl rfl rfl (by decide +kernel) ⟨(Nat.le_of_ble_eq_true rfl), (Nat.le_of_ble_eq_true rfl)⟩) (fPre_ofV hG hI rfl (hMm 50 (by decide)) hMS1 rfl rfl) rfl rfl hl.1 rfl (lv_room (Nat.le_of_ble_eq_true rfl)) dL_law_360 ⟨(by show _ ≤ 601024; omega), (by show _ ≤ 7293034; omega)⟩) hI (fun r2 E2 H locs hp hI => ?_)
    rcases hp with ⟨hc2, hr2, hMS, hf2⟩ | ⟨hc2, hr2, hMS, hf2⟩
    · subst hr2
      have g0 := cp_0 hc2
      have g1 := isb_u hN6 g0.1
      have hres : B (xs (4 * i + 1)).toNatClampNeg 1 = S 8 (xs (4 * i + 1)).toNatClampNeg := congrFun (hrel.1 _ g1) 1
      have hXx := hXx.kept (fun q hq => hf2 q (by omega))
      have hO : E2 45 = _ := (hf2 45 (by omega)).trans hO
      have hT2 : T ≤ 200 * (i + 1) := (by omega)
      have hNW2 : nw ≤ 6 := hNW
      have hN62 : n ≤ 6 := hN6
      have hrv2 : okr w p nw := hrv
      have hok2 : ∀ q, q < n → okb (mb (m_pad S (xs (4 * i + 1)).toNatClampNeg (xs (4 * i + 2)) (xs (4 * i + 3))) str q) := okb_pad g0.2.1 hok
      have hrel2 : rel n (va_up B (xs (4 * i + 1)).toNatClampNeg (va_up (B (xs (4 * i + 1)).toNatClampNeg) 1 (xs (4 * i + 2)))) (va_up F (xs (4 * i + 1)).toNatClampNeg (p_row (F (xs (4 * i + 1)).toNatClampNeg) (xs (4 * i + 2)).toNatClampNeg (xs (4 * i + 3)))) (m_pad S (xs (4 * i + 1)).toNatClampNeg (xs (4 * i + 2)) (xs (4 * i + 3))) str := rel_paddle hrel g1 g0.2.1 g0.2.2
      have hMS2 := hMS.1.1
      refine lv_istore (lv' := [(6, .int (S 8 (xs (4 * i + 1)).toNatClampNeg)), (5, .int 0), (0, .ref b), (1, .ref (ad 0)), (2, .ref (ad 50)), (3, .ref (ad 45)), (4, .int (nI (4 * i)))]) hx hb dL_law_363 hl (by decide) rfl (fun ls hl => ?_)
      refine lv_aload_n hx hb dL_law_365 rfl (lv_at hl 4 rfl) ?_
      refine f_calli1 (va_runV (As := []) (rest := []) ⟨hx, hb, hml, hown, hts⟩ (m_X5_thrown l hMS hMm hNW2 hN62 (by omega) hrv2 hok2 h99) (cwV 0 hts gL_law_X5_thrown rfl rfl rfl (by decide +kernel) ⟨(Nat.le_of_ble_eq_true rfl), (Nat.le_of_ble_eq_true rfl)⟩) (fPre_ofV hG hI rfl (hMm 50 (by decide)) hMS2 rfl rfl) rfl rfl hl.1 rfl (lv_room (Nat.le_of_ble_eq_true rfl)) dL_law_366 ⟨(by show _ ≤ 601024; omega), (by show _ ≤ 7293034; omega)⟩) hI (fun r3 E3 H locs hp hI => ?_)
      obtain ⟨hr3, hq3⟩ := hp
      rw [hq3] at hI
      subst hr3
      refine lv_iload hx hb dL_law_369 (lv_at hl 1 rfl) ?_
      refine lv_icmp_eq (tgt := 376) hx hb dL_law_371 (by decide) (fun c_371 => ?_) (fun c_371 => ?_)
      · refine lv_iload hx hb dL_law_376 (lv_at hl 1 rfl) ?_
        refine lv_if_ne (tgt := 393) hx hb dL_law_378 (by decide) (fun c_378 => ?_) (fun c_378 => ?_)
        · exact absurd c_378 (by decide)
        · refine lv_aload_n hx hb dL_law_381 rfl (lv_at hl 5 rfl) ?_
          refine lv_iconst (v := 0) hx hb dL_law_382 (by decide) ?_
          refine f_lald hx hb hG.1 hI rfl h45 hO (vp_in_iff.mpr ⟨by decide, by decide⟩) dL_law_383 ?_
          refine lv_iload hx hb dL_law_384 (lv_at hl 0 rfl) ?_
          refine lv_i2l hx hb dL_law_386 rfl ?_
          refine f_lcmp hx hb (congrArg Int32.toInt64 hres) dL_law_387 ?_
          refine lv_if_eq (tgt := 393) hx hb dL_law_388 (by decide) (fun c_388 => ?_) (fun c_388 => ?_)
          · refine lv_goto (tgt := 991) hx hb dL_law_393 (by decide) ?_
            exact kk _ H locs ls _ _ (by omega) (by omega) ⟨_, _, _, _, _, _, _, _, _, _, _, _, hT2, hNW2, hN62, hrv2, hok2, hrel2, hXx, hMS, hO⟩ hI (lv_sub hl [2, 3, 4, 5, 6] rfl)
          · exact absurd c_388 (by decide)
      · exact absurd c_371 (by decide)
    · exact absurd (hce.trans hc1) hc2
  · rw [hq1] at hI
    subst hr1
    have hMS1 := hMS.1.1
    refine lv_istore (lv' := [(5, .int (c_paddle n (xs (4 * i + 1)) (xs (4 * i + 2)) (xs (4 * i + 3)))), (0, .ref b), (1, .ref (ad 0)), (2, .ref (ad 50)), (3, .ref (ad 45)), (4, .int (nI (4 * i)))]) hx hb dL_law_339 hl (by decide) rfl (fun ls hl => ?_)
    refine lv_aload_n hx hb dL_law_341 rfl (lv_at hl 3 rfl) ?_
    refine lv_aload_n hx hb dL_law_342 rfl (lv_at hl 1 rfl) ?_
    refine lv_iload hx hb dL_law_343 (lv_at hl 5 rfl) ?_
    refine lv_iconst (v := 1) hx hb dL_law_345 (by decide) ?_
    refine lv_iadd hx hb dL_law_346 ?_
    refine lv_topi (fun tv etv => ?_)
    have etv : tv = nI (4 * i + 1) := etv.trans (nI_add (4 * i) 1)
    subst etv
    refine va_sld hx hb hS0 hbl hbA hI.2.2 (vp_in_nI (by omega) (by omega)) dL_law_347 ?_
    rw [show (nI (4 * i + 1)).toNatClampNeg = (4 * i + 1) from nI_clamp (by omega)]
    refine lv_aload_n hx hb dL_law_348 rfl (lv_at hl 1 rfl) ?_
    refine lv_iload hx hb dL_law_349 (lv_at hl 5 rfl) ?_
    refine lv_iconst (v := 2) hx hb dL_law_351 (by decide) ?_
    refine lv_iadd hx hb dL_law_352 ?_
    refine lv_topi (fun tv etv => ?_)
    have etv : tv = nI (4 * i + 2) := etv.trans (nI_add (4 * i) 2)
    subst etv
    refine va_sld hx hb hS0 hbl hbA hI.2.2 (vp_in_nI (by omega) (by omega)) dL_law_353 ?_
    rw [show (nI (4 * i + 2)).toNatClampNeg = (4 * i + 2) from nI_clamp (by omega)]
    refine lv_aload_n hx hb dL_law_354 rfl (lv_at hl 1 rfl) ?_
    refine lv_iload hx hb dL_law_355 (lv_at hl 5 rfl) ?_
    refine lv_iconst (v := 3) hx hb dL_law_357 (by decide) ?_
    refine lv_iadd hx hb dL_law_358 ?_
    refine lv_topi (fun tv etv => ?_)
    have etv : tv = nI (4 * i + 3) := etv.trans (nI_add (4 * i) 3)
    subst etv
    refine va_sld hx hb hS0 hbl hbA hI.2.2 (vp_in_nI (by omega) (by omega)) dL_law_359 ?_
    rw [show (nI (4 * i + 3)).toNatClampNeg = (4 * i + 3) from nI_clamp (by omega)]
    refine f_calli1 (va_runV (As := [.int (xs (4 * i + 1)), .int (xs (4 * i + 2)), .int (xs (4 * i + 3))]) (rest := []) ⟨hx, hb, hml, hown, hts⟩ (m_X5_paddle l hMS hMm hNW hN6 (by omega) hrv hok h99 (xs (4 * i + 1)) (xs (4 * i + 2)) (xs (4 * i + 3))) (cwV 3 hts gL_law_X5_paddle rfl rfl rfl (by decide +kernel) ⟨(Nat.le_of_ble_eq_true rfl), (Nat.le_of_ble_eq_true rfl)⟩) (fPre_ofV hG hI rfl (hMm 50 (by decide)) hMS1 rfl rfl) rfl rfl hl.1 rfl (lv_room (Nat.le_of_ble_eq_true rfl)) dL_law_360 ⟨(by show _ ≤ 601024; omega), (by show _ ≤ 7293034; omega)⟩) hI (fun r2 E2 H locs hp hI => ?_)
    rcases hp with ⟨hc2, hr2, hMS, hf2⟩ | ⟨hc2, hr2, hMS, hf2⟩
    · exact absurd (hce.symm.trans hc2) hc1
    · subst hr2
      have hXx := hXx.kept (fun q hq => hf2 q (by omega))
      have hO : E2 45 = _ := (hf2 45 (by omega)).trans hO
      have hT2 : T ≤ 200 * (i + 1) := by omega
      have hNW2 := hNW
      have hN62 := hN6
      have hrv2 := hrv
      have hok2 := hok
      have hrel2 := hrel
      have hMS2 := hMS.1.1
      refine lv_istore (lv' := [(6, .int 0), (5, .int (c_paddle n (xs (4 * i + 1)) (xs (4 * i + 2)) (xs (4 * i + 3)))), (0, .ref b), (1, .ref (ad 0)), (2, .ref (ad 50)), (3, .ref (ad 45)), (4, .int (nI (4 * i)))]) hx hb dL_law_363 hl (by decide) rfl (fun ls hl => ?_)
      refine lv_aload_n hx hb dL_law_365 rfl (lv_at hl 4 rfl) ?_
      refine f_calli1 (va_runV (As := []) (rest := []) ⟨hx, hb, hml, hown, hts⟩ (m_X5_thrown l hMS hMm hNW2 hN62 (by omega) hrv2 hok2 h99) (cwV 0 hts gL_law_X5_thrown rfl rfl rfl (by decide +kernel) ⟨(Nat.le_of_ble_eq_true rfl), (Nat.le_of_ble_eq_true rfl)⟩) (fPre_ofV hG hI rfl (hMm 50 (by decide)) hMS2 rfl rfl) rfl rfl hl.1 rfl (lv_room (Nat.le_of_ble_eq_true rfl)) dL_law_366 ⟨(by show _ ≤ 601024; omega), (by show _ ≤ 7293034; omega)⟩) hI (fun r3 E3 H locs hp hI => ?_)
      obtain ⟨hr3, hq3⟩ := hp
      rw [hq3] at hI
      subst hr3
      refine lv_iload hx hb dL_law_369 (lv_at hl 1 rfl) ?_
      refine lv_icmp_eq (tgt := 376) hx hb dL_law_371 (by decide) (fun c_371 => ?_) (fun c_371 => ?_)
      · refine lv_iload hx hb dL_law_376 (lv_at hl 1 rfl) ?_
        refine lv_if_ne (tgt := 393) hx hb dL_law_378 (by decide) (fun c_378 => ?_) (fun c_378 => ?_)
        · refine lv_goto (tgt := 991) hx hb dL_law_393 (by decide) ?_
          exact kk _ H locs ls _ _ (by omega) (by omega) ⟨_, _, _, _, _, _, _, _, _, _, _, _, hT2, hNW2, hN62, hrv2, hok2, hrel2, hXx, hMS, hO⟩ hI (lv_sub hl [2, 3, 4, 5, 6] rfl)
        · exact absurd c_378 hc1
      · exact absurd hce c_371

set_option maxHeartbeats 4000000 in
set_option maxRecDepth 100000 in
theorem op_tar (l : Launch) (hl9 : l.stackTraces = false) {pr : Program} {e : Env} {s : State} {m : MethodId} {args : Array Value} {below : List Frame} {meth : Method} {c : Code} {Q : State → Prop} (hx : pr.tables.exec = Jvm.exec) (hb : c.code = cL_law) (hml : c.maxLocals = 9) (hts : ∀ w ∈ wsL_law, w.before args s = true) (hown : s.vm.findClass RL = some m.cls) {D : va_G} {cI cJ cB : ClassId} {t0 z : Nat} {tx ad : Nat → Nat} {L : List Nat} (hG : fG D cI cJ cB t0 z tx s) (hXm : ∀ k, k < 5 ∨ (10 ≤ k ∧ k < 24) ∨ (30 ≤ k ∧ k < 44) → k ∈ L) (hMm : ∀ k, (50 ≤ k ∧ k < 55) ∨ (60 ≤ k ∧ k < 71) ∨ (80 ≤ k ∧ k < 91) → k ∈ L) (h45 : 45 ∈ L) (h99 : 99 ∉ L) {b Lx : Nat} {xs : Nat → Int32} (hL : Lx ≤ 2048) (hS0 : va_X b Lx xs s s.heap) (hbl : b < s.heap.size) (hbA : ¬ fA z b) {i : Nat} (hi : 4 * i + 4 ≤ Lx) {cells slots : Nat} (hc9 : cells ≤ 600000) (hs9 : slots ≤ 7000000) {E : Nat → va_E} {H : Heap} {locs : List Loc} {ls : Array Slot} (hv : law_inv cI cJ cB ad E i) (hI : fI D (fA z) s.heap ad L E H locs) (hl : lv_has ls 9 [(0, .ref b), (1, .ref (ad 0)), (2, .ref (ad 50)), (3, .ref (ad 45)), (4, .int (nI (4 * i)))]) (kk : ∀ (E1 : Nat → va_E) (H1 : Heap) (locs1 : List Loc) (ls1 : Array Slot) (c1 s1 : Nat), c1 ≤ cells + 70 → s1 ≤ slots + 600 → law_inv cI cJ cB ad E1 (i + 1) → fI D (fA z) s.heap ad L E1 H1 locs1 → lv_has ls1 9 [(0, .ref b), (1, .ref (ad 0)), (2, .ref (ad 50)), (3, .ref (ad 45)), (4, .int (nI (4 * i)))] → W pr l e room_1 s m args below meth c H1 locs1 c1 s1 Q (F0 m 991 ls1 [])) : W pr l e room_1 s m args below meth c H locs cells slots Q (F0 m 396 ls []) := by
  obtain ⟨th, w, p, g, nw, n, T, str, S, B, F, fo, hT, hNW, hN6, hrv, hok, hrel, hXx, hMS, hO⟩ := hv
  have h8 : ∀ i, i < n → B i 8 = 0 ∨ B i 8 = 1 := fun q hq => by rw [hrel.1 q hq]; exact mb_in q
  have hce : cm_tar n S (xs (4 * i + 1)) = c_tar n B (xs (4 * i + 1)) := c_tar_eq hrel.1 hN6 _
  refine lv_aload_n hx hb dL_law_396 rfl (lv_at hl 1 rfl) ?_
  refine lv_aload_n hx hb dL_law_397 rfl (lv_at hl 0 rfl) ?_
  refine lv_iload hx hb dL_law_398 (lv_at hl 4 rfl) ?_
  refine lv_iconst (v := 1) hx hb dL_law_400 (by decide) ?_
  refine lv_iadd hx hb dL_law_401 ?_
  refine lv_topi (fun tv etv => ?_)
  have etv : tv = nI (4 * i + 1) := etv.trans (nI_add (4 * i) 1)
  subst etv
  refine va_sld hx hb hS0 hbl hbA hI.2.2 (vp_in_nI (by omega) (by omega)) dL_law_402 ?_
  rw [show (nI (4 * i + 1)).toNatClampNeg = (4 * i + 1) from nI_clamp (by omega)]
  refine lv_aload_n hx hb dL_law_403 rfl (lv_at hl 3 rfl) ?_
  refine f_calli1 (vx_runSW (As := [.ref (ad 0), .int (xs (4 * i + 1)), .ref (ad 45)]) (rest := []) ⟨hx, hb, hml, hown, hts⟩ (m_L_tar l hl9 hXx hNW hN6 (by omega) h8 hXm h45 hO (xs (4 * i + 1))) (vx_cwSW 3 hts gL_law_L_tar rfl rfl rfl (by decide +kernel) ⟨(Nat.le_of_ble_eq_true rfl), (Nat.le_of_ble_eq_true rfl)⟩) (fPre_of hG hI) rfl rfl hl.1 rfl (lv_room (Nat.le_of_ble_eq_true rfl)) dL_law_404 ⟨(by show _ ≤ 601024; omega), (by show _ ≤ 7293034; omega)⟩) hI (fun r1 E1 H locs hp hI => ?_)
  rcases hp with ⟨hc1, hr1, hO, hXx, hf1⟩ | ⟨hc1, hr1, hq1⟩
  · subst hr1
    have hMS := hMS.kept (fun q a b => hf1 q (by omega) (by omega))
    have hMS1 := hMS.1.1
    refine lv_istore (lv' := [(5, .int 0), (0, .ref b), (1, .ref (ad 0)), (2, .ref (ad 50)), (3, .ref (ad 45)), (4, .int (nI (4 * i)))]) hx hb dL_law_407 hl (by decide) rfl (fun ls hl => ?_)
    refine lv_aload_n hx hb dL_law_409 rfl (lv_at hl 3 rfl) ?_
    refine lv_aload_n hx hb dL_law_410 rfl (lv_at hl 1 rfl) ?_
    refine lv_iload hx hb dL_law_411 (lv_at hl 5 rfl) ?_
    refine lv_iconst (v := 1) hx hb dL_law_413 (by decide) ?_
    refine lv_iadd hx hb dL_law_414 ?_
    refine lv_topi (fun tv etv => ?_)
    have etv : tv = nI (4 * i + 1) := etv.trans (nI_add (4 * i) 1)
    subst etv
    refine va_sld hx hb hS0 hbl hbA hI.2.2 (vp_in_nI (by omega) (by omega)) dL_law_415 ?_
    rw [show (nI (4 * i + 1)).toNatClampNeg = (4 * i + 1) from nI_clamp (by omega)]
    refine f_calli1 (va_runV (As := [.int (xs (4 * i + 1))]) (rest := []) ⟨hx, hb, hml, hown, hts⟩ (m_X5_tar l hMS hMm hNW hN6 (by omega) hrv hok h99 (xs (4 * i + 1))) (cwV 1 hts gL_law_X5_tar rfl rfl rfl (by decide +kernel) ⟨(Nat.le_of_ble_eq_true rfl), (Nat.le_of_ble_eq_true rfl)⟩) (fPre_ofV hG hI rfl (hMm 50 (by decide)) hMS1 rfl rfl) rfl rfl hl.1 rfl (lv_room (Nat.le_of_ble_eq_true rfl)) dL_law_416 ⟨(by show _ ≤ 601024; omega), (by show _ ≤ 7293034; omega)⟩) hI (fun r2 E2 H locs hp hI => ?_)
    rcases hp with ⟨hc2, hr2, hMS, hf2⟩ | ⟨hc2, hr2, hMS, hf2⟩
    · subst hr2
      have g0 := ct_0 hc2
      have g1 := isb_u hN6 g0
      have hres : B (xs (4 * i + 1)).toNatClampNeg 6 = S 3 (xs (4 * i + 1)).toNatClampNeg := congrFun (hrel.1 _ g1) 6
      have hXx := hXx.kept (fun q hq => hf2 q (by omega))
      have hO : E2 45 = _ := (hf2 45 (by omega)).trans hO
      have hT2 : T ≤ 200 * (i + 1) := (by omega)
      have hNW2 : nw ≤ 6 := hNW
      have hN62 : n ≤ 6 := hN6
      have hrv2 : okr w p nw := hrv
      have hok2 : ∀ q, q < n → okb (mb (m_tar S (xs (4 * i + 1)).toNatClampNeg) str q) := okb_tar hok
      have hrel2 : rel n (va_up B (xs (4 * i + 1)).toNatClampNeg (va_up (va_up (B (xs (4 * i + 1)).toNatClampNeg) 6 0) 7 (B (xs (4 * i + 1)).toNatClampNeg 7 + 4))) F (m_tar S (xs (4 * i + 1)).toNatClampNeg) str := rel_tar hrel g1
      have hMS2 := hMS.1.1
      refine lv_istore (lv' := [(6, .int (S 3 (xs (4 * i + 1)).toNatClampNeg)), (5, .int 0), (0, .ref b), (1, .ref (ad 0)), (2, .ref (ad 50)), (3, .ref (ad 45)), (4, .int (nI (4 * i)))]) hx hb dL_law_419 hl (by decide) rfl (fun ls hl => ?_)
      refine lv_aload_n hx hb dL_law_421 rfl (lv_at hl 4 rfl) ?_
      refine f_calli1 (va_runV (As := []) (rest := []) ⟨hx, hb, hml, hown, hts⟩ (m_X5_thrown l hMS hMm hNW2 hN62 (by omega) hrv2 hok2 h99) (cwV 0 hts gL_law_X5_thrown rfl rfl rfl (by decide +kernel) ⟨(Nat.le_of_ble_eq_true rfl), (Nat.le_of_ble_eq_true rfl)⟩) (fPre_ofV hG hI rfl (hMm 50 (by decide)) hMS2 rfl rfl) rfl rfl hl.1 rfl (lv_room (Nat.le_of_ble_eq_true rfl)) dL_law_422 ⟨(by show _ ≤ 601024; omega), (by show _ ≤ 7293034; omega)⟩) hI (fun r3 E3 H locs hp hI => ?_)
      obtain ⟨hr3, hq3⟩ := hp
      rw [hq3] at hI
      subst hr3
      refine lv_iload hx hb dL_law_425 (lv_at hl 1 rfl) ?_
      refine lv_icmp_eq (tgt := 432) hx hb dL_law_427 (by decide) (fun c_427 => ?_) (fun c_427 => ?_)
      · refine lv_iload hx hb dL_law_432 (lv_at hl 1 rfl) ?_
        refine lv_if_ne (tgt := 449) hx hb dL_law_434 (by decide) (fun c_434 => ?_) (fun c_434 => ?_)
        · exact absurd c_434 (by decide)
        · refine lv_aload_n hx hb dL_law_437 rfl (lv_at hl 5 rfl) ?_
          refine lv_iconst (v := 0) hx hb dL_law_438 (by decide) ?_
          refine f_lald hx hb hG.1 hI rfl h45 hO (vp_in_iff.mpr ⟨by decide, by decide⟩) dL_law_439 ?_
          refine lv_iload hx hb dL_law_440 (lv_at hl 0 rfl) ?_
          refine lv_i2l hx hb dL_law_442 rfl ?_
          refine f_lcmp hx hb (congrArg Int32.toInt64 hres) dL_law_443 ?_
          refine lv_if_eq (tgt := 449) hx hb dL_law_444 (by decide) (fun c_444 => ?_) (fun c_444 => ?_)
          · refine lv_goto (tgt := 991) hx hb dL_law_449 (by decide) ?_
            exact kk _ H locs ls _ _ (by omega) (by omega) ⟨_, _, _, _, _, _, _, _, _, _, _, _, hT2, hNW2, hN62, hrv2, hok2, hrel2, hXx, hMS, hO⟩ hI (lv_sub hl [2, 3, 4, 5, 6] rfl)
          · exact absurd c_444 (by decide)
      · exact absurd c_427 (by decide)
    · exact absurd (hce.trans hc1) hc2
  · rw [hq1] at hI
    subst hr1
    have hMS1 := hMS.1.1
    refine lv_istore (lv' := [(5, .int (c_tar n B (xs (4 * i + 1)))), (0, .ref b), (1, .ref (ad 0)), (2, .ref (ad 50)), (3, .ref (ad 45)), (4, .int (nI (4 * i)))]) hx hb dL_law_407 hl (by decide) rfl (fun ls hl => ?_)
    refine lv_aload_n hx hb dL_law_409 rfl (lv_at hl 3 rfl) ?_
    refine lv_aload_n hx hb dL_law_410 rfl (lv_at hl 1 rfl) ?_
    refine lv_iload hx hb dL_law_411 (lv_at hl 5 rfl) ?_
    refine lv_iconst (v := 1) hx hb dL_law_413 (by decide) ?_
    refine lv_iadd hx hb dL_law_414 ?_
    refine lv_topi (fun tv etv => ?_)
    have etv : tv = nI (4 * i + 1) := etv.trans (nI_add (4 * i) 1)
    subst etv
    refine va_sld hx hb hS0 hbl hbA hI.2.2 (vp_in_nI (by omega) (by omega)) dL_law_415 ?_
    rw [show (nI (4 * i + 1)).toNatClampNeg = (4 * i + 1) from nI_clamp (by omega)]
    refine f_calli1 (va_runV (As := [.int (xs (4 * i + 1))]) (rest := []) ⟨hx, hb, hml, hown, hts⟩ (m_X5_tar l hMS hMm hNW hN6 (by omega) hrv hok h99 (xs (4 * i + 1))) (cwV 1 hts gL_law_X5_tar rfl rfl rfl (by decide +kernel) ⟨(Nat.le_of_ble_eq_true rfl), (Nat.le_of_ble_eq_true rfl)⟩) (fPre_ofV hG hI rfl (hMm 50 (by decide)) hMS1 rfl rfl) rfl rfl hl.1 rfl (lv_room (Nat.le_of_ble_eq_true rfl)) dL_law_416 ⟨(by show _ ≤ 601024; omega), (by show _ ≤ 7293034; omega)⟩) hI (fun r2 E2 H locs hp hI => ?_)
    rcases hp with ⟨hc2, hr2, hMS, hf2⟩ | ⟨hc2, hr2, hMS, hf2⟩
    · exact absurd (hce.symm.trans hc2) hc1
    · subst hr2
      have hXx := hXx.kept (fun q hq => hf2 q (by omega))
      have hO : E2 45 = _ := (hf2 45 (by omega)).trans hO
      have hT2 : T ≤ 200 * (i + 1) := by omega
      have hNW2 := hNW
      have hN62 := hN6
      have hrv2 := hrv
      have hok2 := hok
      have hrel2 := hrel
      have hMS2 := hMS.1.1
      refine lv_istore (lv' := [(6, .int 0), (5, .int (c_tar n B (xs (4 * i + 1)))), (0, .ref b), (1, .ref (ad 0)), (2, .ref (ad 50)), (3, .ref (ad 45)), (4, .int (nI (4 * i)))]) hx hb dL_law_419 hl (by decide) rfl (fun ls hl => ?_)
      refine lv_aload_n hx hb dL_law_421 rfl (lv_at hl 4 rfl) ?_
      refine f_calli1 (va_runV (As := []) (rest := []) ⟨hx, hb, hml, hown, hts⟩ (m_X5_thrown l hMS hMm hNW2 hN62 (by omega) hrv2 hok2 h99) (cwV 0 hts gL_law_X5_thrown rfl rfl rfl (by decide +kernel) ⟨(Nat.le_of_ble_eq_true rfl), (Nat.le_of_ble_eq_true rfl)⟩) (fPre_ofV hG hI rfl (hMm 50 (by decide)) hMS2 rfl rfl) rfl rfl hl.1 rfl (lv_room (Nat.le_of_ble_eq_true rfl)) dL_law_422 ⟨(by show _ ≤ 601024; omega), (by show _ ≤ 7293034; omega)⟩) hI (fun r3 E3 H locs hp hI => ?_)
      obtain ⟨hr3, hq3⟩ := hp
      rw [hq3] at hI
      subst hr3
      refine lv_iload hx hb dL_law_425 (lv_at hl 1 rfl) ?_
      refine lv_icmp_eq (tgt := 432) hx hb dL_law_427 (by decide) (fun c_427 => ?_) (fun c_427 => ?_)
      · refine lv_iload hx hb dL_law_432 (lv_at hl 1 rfl) ?_
        refine lv_if_ne (tgt := 449) hx hb dL_law_434 (by decide) (fun c_434 => ?_) (fun c_434 => ?_)
        · refine lv_goto (tgt := 991) hx hb dL_law_449 (by decide) ?_
          exact kk _ H locs ls _ _ (by omega) (by omega) ⟨_, _, _, _, _, _, _, _, _, _, _, _, hT2, hNW2, hN62, hrv2, hok2, hrel2, hXx, hMS, hO⟩ hI (lv_sub hl [2, 3, 4, 5, 6] rfl)
        · exact absurd c_434 hc1
      · exact absurd hce c_427

set_option maxHeartbeats 4000000 in
set_option maxRecDepth 100000 in
theorem op_boat (l : Launch) (hl9 : l.stackTraces = false) {pr : Program} {e : Env} {s : State} {m : MethodId} {args : Array Value} {below : List Frame} {meth : Method} {c : Code} {Q : State → Prop} (hx : pr.tables.exec = Jvm.exec) (hb : c.code = cL_law) (hml : c.maxLocals = 9) (hts : ∀ w ∈ wsL_law, w.before args s = true) (hown : s.vm.findClass RL = some m.cls) {D : va_G} {cI cJ cB : ClassId} {t0 z : Nat} {tx ad : Nat → Nat} {L : List Nat} (hG : fG D cI cJ cB t0 z tx s) (hXm : ∀ k, k < 5 ∨ (10 ≤ k ∧ k < 24) ∨ (30 ≤ k ∧ k < 44) → k ∈ L) (hMm : ∀ k, (50 ≤ k ∧ k < 55) ∨ (60 ≤ k ∧ k < 71) ∨ (80 ≤ k ∧ k < 91) → k ∈ L) (h45 : 45 ∈ L) (h99 : 99 ∉ L) {b Lx : Nat} {xs : Nat → Int32} (hL : Lx ≤ 2048) (hS0 : va_X b Lx xs s s.heap) (hbl : b < s.heap.size) (hbA : ¬ fA z b) {i : Nat} (hi : 4 * i + 4 ≤ Lx) {cells slots : Nat} (hc9 : cells ≤ 600000) (hs9 : slots ≤ 7000000) {E : Nat → va_E} {H : Heap} {locs : List Loc} {ls : Array Slot} (hv : law_inv cI cJ cB ad E i) (hI : fI D (fA z) s.heap ad L E H locs) (hl : lv_has ls 9 [(0, .ref b), (1, .ref (ad 0)), (2, .ref (ad 50)), (3, .ref (ad 45)), (4, .int (nI (4 * i)))]) (kk : ∀ (E1 : Nat → va_E) (H1 : Heap) (locs1 : List Loc) (ls1 : Array Slot) (c1 s1 : Nat), c1 ≤ cells + 70 → s1 ≤ slots + 600 → law_inv cI cJ cB ad E1 (i + 1) → fI D (fA z) s.heap ad L E1 H1 locs1 → lv_has ls1 9 [(0, .ref b), (1, .ref (ad 0)), (2, .ref (ad 50)), (3, .ref (ad 45)), (4, .int (nI (4 * i)))] → W pr l e room_1 s m args below meth c H1 locs1 c1 s1 Q (F0 m 991 ls1 [])) : W pr l e room_1 s m args below meth c H locs cells slots Q (F0 m 452 ls []) := by
  obtain ⟨th, w, p, g, nw, n, T, str, S, B, F, fo, hT, hNW, hN6, hrv, hok, hrel, hXx, hMS, hO⟩ := hv
  have h8 : ∀ i, i < n → B i 8 = 0 ∨ B i 8 = 1 := fun q hq => by rw [hrel.1 q hq]; exact mb_in q
  have hce : c_boat n (xs (4 * i + 1)) (xs (4 * i + 2)) = c_boat n (xs (4 * i + 1)) (xs (4 * i + 2)) := rfl
  refine lv_aload_n hx hb dL_law_452 rfl (lv_at hl 1 rfl) ?_
  refine lv_aload_n hx hb dL_law_453 rfl (lv_at hl 0 rfl) ?_
  refine lv_iload hx hb dL_law_454 (lv_at hl 4 rfl) ?_
  refine lv_iconst (v := 1) hx hb dL_law_456 (by decide) ?_
  refine lv_iadd hx hb dL_law_457 ?_
  refine lv_topi (fun tv etv => ?_)
  have etv : tv = nI (4 * i + 1) := etv.trans (nI_add (4 * i) 1)
  subst etv
  refine va_sld hx hb hS0 hbl hbA hI.2.2 (vp_in_nI (by omega) (by omega)) dL_law_458 ?_
  rw [show (nI (4 * i + 1)).toNatClampNeg = (4 * i + 1) from nI_clamp (by omega)]
  refine lv_aload_n hx hb dL_law_459 rfl (lv_at hl 0 rfl) ?_
  refine lv_iload hx hb dL_law_460 (lv_at hl 4 rfl) ?_
  refine lv_iconst (v := 2) hx hb dL_law_462 (by decide) ?_
  refine lv_iadd hx hb dL_law_463 ?_
  refine lv_topi (fun tv etv => ?_)
  have etv : tv = nI (4 * i + 2) := etv.trans (nI_add (4 * i) 2)
  subst etv
  refine va_sld hx hb hS0 hbl hbA hI.2.2 (vp_in_nI (by omega) (by omega)) dL_law_464 ?_
  rw [show (nI (4 * i + 2)).toNatClampNeg = (4 * i + 2) from nI_clamp (by omega)]
  refine lv_aload_n hx hb dL_law_465 rfl (lv_at hl 3 rfl) ?_
  refine f_calli1 (vx_runSW (As := [.ref (ad 0), .int (xs (4 * i + 1)), .int (xs (4 * i + 2)), .ref (ad 45)]) (rest := []) ⟨hx, hb, hml, hown, hts⟩ (m_L_boat l hl9 hXx hNW hN6 (by omega) h8 hXm h45 hO (xs (4 * i + 1)) (xs (4 * i + 2))) (vx_cwSW 4 hts gL_law_L_boat rfl rfl rfl (by decide +kernel) ⟨(Nat.le_of_ble_eq_true rfl), (Nat.le_of_ble_eq_true rfl)⟩) (fPre_of hG hI) rfl rfl hl.1 rfl (lv_room (Nat.le_of_ble_eq_true rfl)) dL_law_466 ⟨(by show _ ≤ 601024; omega), (by show _ ≤ 7293034; omega)⟩) hI (fun r1 E1 H locs hp hI => ?_)
  rcases hp with ⟨hc1, hr1, hO, hXx, hf1⟩ | ⟨hc1, hr1, hq1⟩
  · subst hr1
    have hMS := hMS.kept (fun q a b => hf1 q (by omega) (by omega))
    have hMS1 := hMS.1.1
    refine lv_istore (lv' := [(5, .int 0), (0, .ref b), (1, .ref (ad 0)), (2, .ref (ad 50)), (3, .ref (ad 45)), (4, .int (nI (4 * i)))]) hx hb dL_law_469 hl (by decide) rfl (fun ls hl => ?_)
    refine lv_aload_n hx hb dL_law_471 rfl (lv_at hl 3 rfl) ?_
    refine lv_aload_n hx hb dL_law_472 rfl (lv_at hl 1 rfl) ?_
    refine lv_iload hx hb dL_law_473 (lv_at hl 5 rfl) ?_
    refine lv_iconst (v := 1) hx hb dL_law_475 (by decide) ?_
    refine lv_iadd hx hb dL_law_476 ?_
    refine lv_topi (fun tv etv => ?_)
    have etv : tv = nI (4 * i + 1) := etv.trans (nI_add (4 * i) 1)
    subst etv
    refine va_sld hx hb hS0 hbl hbA hI.2.2 (vp_in_nI (by omega) (by omega)) dL_law_477 ?_
    rw [show (nI (4 * i + 1)).toNatClampNeg = (4 * i + 1) from nI_clamp (by omega)]
    refine lv_aload_n hx hb dL_law_478 rfl (lv_at hl 1 rfl) ?_
    refine lv_iload hx hb dL_law_479 (lv_at hl 5 rfl) ?_
    refine lv_iconst (v := 2) hx hb dL_law_481 (by decide) ?_
    refine lv_iadd hx hb dL_law_482 ?_
    refine lv_topi (fun tv etv => ?_)
    have etv : tv = nI (4 * i + 2) := etv.trans (nI_add (4 * i) 2)
    subst etv
    refine va_sld hx hb hS0 hbl hbA hI.2.2 (vp_in_nI (by omega) (by omega)) dL_law_483 ?_
    rw [show (nI (4 * i + 2)).toNatClampNeg = (4 * i + 2) from nI_clamp (by omega)]
    refine f_calli1 (va_runV (As := [.int (xs (4 * i + 1)), .int (xs (4 * i + 2))]) (rest := []) ⟨hx, hb, hml, hown, hts⟩ (m_X5_boat l hMS hMm hNW hN6 (by omega) hrv hok h99 (xs (4 * i + 1)) (xs (4 * i + 2))) (cwV 2 hts gL_law_X5_boat rfl rfl rfl (by decide +kernel) ⟨(Nat.le_of_ble_eq_true rfl), (Nat.le_of_ble_eq_true rfl)⟩) (fPre_ofV hG hI rfl (hMm 50 (by decide)) hMS1 rfl rfl) rfl rfl hl.1 rfl (lv_room (Nat.le_of_ble_eq_true rfl)) dL_law_484 ⟨(by show _ ≤ 601024; omega), (by show _ ≤ 7293034; omega)⟩) hI (fun r2 E2 H locs hp hI => ?_)
    rcases hp with ⟨hc2, hr2, hMS, hf2⟩ | ⟨hc2, hr2, hMS, hf2⟩
    · subst hr2
      have g1 := isb_u hN6 (cb_0 hc2)
      have hres : p_fact (B (xs (4 * i + 1)).toNatClampNeg) (xs (4 * i + 2)).toNatClampNeg = p_fact (mb S str (xs (4 * i + 1)).toNatClampNeg) (xs (4 * i + 2)).toNatClampNeg := by rw [hrel.1 _ g1]
      have hXx := hXx.kept (fun q hq => hf2 q (by omega))
      have hO : E2 45 = _ := (hf2 45 (by omega)).trans hO
      have hT2 : T ≤ 200 * (i + 1) := (by omega)
      have hNW2 : nw ≤ 6 := hNW
      have hN62 : n ≤ 6 := hN6
      have hrv2 : okr w p nw := hrv
      have hok2 : ∀ q, q < n → okb (mb S str q) := hok
      have hrel2 : rel n B F S str := hrel
      have hMS2 := hMS.1.1
      refine lv_istore (lv' := [(6, .int (p_fact (mb S str (xs (4 * i + 1)).toNatClampNeg) (xs (4 * i + 2)).toNatClampNeg)), (5, .int 0), (0, .ref b), (1, .ref (ad 0)), (2, .ref (ad 50)), (3, .ref (ad 45)), (4, .int (nI (4 * i)))]) hx hb dL_law_487 hl (by decide) rfl (fun ls hl => ?_)
      refine lv_aload_n hx hb dL_law_489 rfl (lv_at hl 4 rfl) ?_
      refine f_calli1 (va_runV (As := []) (rest := []) ⟨hx, hb, hml, hown, hts⟩ (m_X5_thrown l hMS hMm hNW2 hN62 (by omega) hrv2 hok2 h99) (cwV 0 hts gL_law_X5_thrown rfl rfl rfl (by decide +kernel) ⟨(Nat.le_of_ble_eq_true rfl), (Nat.le_of_ble_eq_true rfl)⟩) (fPre_ofV hG hI rfl (hMm 50 (by decide)) hMS2 rfl rfl) rfl rfl hl.1 rfl (lv_room (Nat.le_of_ble_eq_true rfl)) dL_law_490 ⟨(by show _ ≤ 601024; omega), (by show _ ≤ 7293034; omega)⟩) hI (fun r3 E3 H locs hp hI => ?_)
      obtain ⟨hr3, hq3⟩ := hp
      rw [hq3] at hI
      subst hr3
      refine lv_iload hx hb dL_law_493 (lv_at hl 1 rfl) ?_
      refine lv_icmp_eq (tgt := 500) hx hb dL_law_495 (by decide) (fun c_495 => ?_) (fun c_495 => ?_)
      · refine lv_iload hx hb dL_law_500 (lv_at hl 1 rfl) ?_
        refine lv_if_ne (tgt := 517) hx hb dL_law_502 (by decide) (fun c_502 => ?_) (fun c_502 => ?_)
        · exact absurd c_502 (by decide)
        · refine lv_aload_n hx hb dL_law_505 rfl (lv_at hl 5 rfl) ?_
          refine lv_iconst (v := 0) hx hb dL_law_506 (by decide) ?_
          refine f_lald hx hb hG.1 hI rfl h45 hO (vp_in_iff.mpr ⟨by decide, by decide⟩) dL_law_507 ?_
          refine lv_iload hx hb dL_law_508 (lv_at hl 0 rfl) ?_
          refine lv_i2l hx hb dL_law_510 rfl ?_
          refine f_lcmp hx hb (congrArg Int32.toInt64 hres) dL_law_511 ?_
          refine lv_if_eq (tgt := 517) hx hb dL_law_512 (by decide) (fun c_512 => ?_) (fun c_512 => ?_)
          · refine lv_goto (tgt := 991) hx hb dL_law_517 (by decide) ?_
            exact kk _ H locs ls _ _ (by omega) (by omega) ⟨_, _, _, _, _, _, _, _, _, _, _, _, hT2, hNW2, hN62, hrv2, hok2, hrel2, hXx, hMS, hO⟩ hI (lv_sub hl [2, 3, 4, 5, 6] rfl)
          · exact absurd c_512 (by decide)
      · exact absurd c_495 (by decide)
    · exact absurd (hce.trans hc1) hc2
  · rw [hq1] at hI
    subst hr1
    have hMS1 := hMS.1.1
    refine lv_istore (lv' := [(5, .int (c_boat n (xs (4 * i + 1)) (xs (4 * i + 2)))), (0, .ref b), (1, .ref (ad 0)), (2, .ref (ad 50)), (3, .ref (ad 45)), (4, .int (nI (4 * i)))]) hx hb dL_law_469 hl (by decide) rfl (fun ls hl => ?_)
    refine lv_aload_n hx hb dL_law_471 rfl (lv_at hl 3 rfl) ?_
    refine lv_aload_n hx hb dL_law_472 rfl (lv_at hl 1 rfl) ?_
    refine lv_iload hx hb dL_law_473 (lv_at hl 5 rfl) ?_
    refine lv_iconst (v := 1) hx hb dL_law_475 (by decide) ?_
    refine lv_iadd hx hb dL_law_476 ?_
    refine lv_topi (fun tv etv => ?_)
    have etv : tv = nI (4 * i + 1) := etv.trans (nI_add (4 * i) 1)
    subst etv
    refine va_sld hx hb hS0 hbl hbA hI.2.2 (vp_in_nI (by omega) (by omega)) dL_law_477 ?_
    rw [show (nI (4 * i + 1)).toNatClampNeg = (4 * i + 1) from nI_clamp (by omega)]
    refine lv_aload_n hx hb dL_law_478 rfl (lv_at hl 1 rfl) ?_
    refine lv_iload hx hb dL_law_479 (lv_at hl 5 rfl) ?_
    refine lv_iconst (v := 2) hx hb dL_law_481 (by decide) ?_
    refine lv_iadd hx hb dL_law_482 ?_
    refine lv_topi (fun tv etv => ?_)
    have etv : tv = nI (4 * i + 2) := etv.trans (nI_add (4 * i) 2)
    subst etv
    refine va_sld hx hb hS0 hbl hbA hI.2.2 (vp_in_nI (by omega) (by omega)) dL_law_483 ?_
    rw [show (nI (4 * i + 2)).toNatClampNeg = (4 * i + 2) from nI_clamp (by omega)]
    refine f_calli1 (va_runV (As := [.int (xs (4 * i + 1)), .int (xs (4 * i + 2))]) (rest := []) ⟨hx, hb, hml, hown, hts⟩ (m_X5_boat l hMS hMm hNW hN6 (by omega) hrv hok h99 (xs (4 * i + 1)) (xs (4 * i + 2))) (cwV 2 hts gL_law_X5_boat rfl rfl rfl (by decide +kernel) ⟨(Nat.le_of_ble_eq_true rfl), (Nat.le_of_ble_eq_true rfl)⟩) (fPre_ofV hG hI rfl (hMm 50 (by decide)) hMS1 rfl rfl) rfl rfl hl.1 rfl (lv_room (Nat.le_of_ble_eq_true rfl)) dL_law_484 ⟨(by show _ ≤ 601024; omega), (by show _ ≤ 7293034; omega)⟩) hI (fun r2 E2 H locs hp hI => ?_)
    rcases hp with ⟨hc2, hr2, hMS, hf2⟩ | ⟨hc2, hr2, hMS, hf2⟩
    · exact absurd (hce.symm.trans hc2) hc1
    · subst hr2
      have hXx := hXx.kept (fun q hq => hf2 q (by omega))
      have hO : E2 45 = _ := (hf2 45 (by omega)).trans hO
      have hT2 : T ≤ 200 * (i + 1) := by omega
      have hNW2 := hNW
      have hN62 := hN6
      have hrv2 := hrv
      have hok2 := hok
      have hrel2 := hrel
      have hMS2 := hMS.1.1
      refine lv_istore (lv' := [(6, .int 0), (5, .int (c_boat n (xs (4 * i + 1)) (xs (4 * i + 2)))), (0, .ref b), (1, .ref (ad 0)), (2, .ref (ad 50)), (3, .ref (ad 45)), (4, .int (nI (4 * i)))]) hx hb dL_law_487 hl (by decide) rfl (fun ls hl => ?_)
      refine lv_aload_n hx hb dL_law_489 rfl (lv_at hl 4 rfl) ?_
      refine f_calli1 (va_runV (As := []) (rest := []) ⟨hx, hb, hml, hown, hts⟩ (m_X5_thrown l hMS hMm hNW2 hN62 (by omega) hrv2 hok2 h99) (cwV 0 hts gL_law_X5_thrown rfl rfl rfl (by decide +kernel) ⟨(Nat.le_of_ble_eq_true rfl), (Nat.le_of_ble_eq_true rfl)⟩) (fPre_ofV hG hI rfl (hMm 50 (by decide)) hMS2 rfl rfl) rfl rfl hl.1 rfl (lv_room (Nat.le_of_ble_eq_true rfl)) dL_law_490 ⟨(by show _ ≤ 601024; omega), (by show _ ≤ 7293034; omega)⟩) hI (fun r3 E3 H locs hp hI => ?_)
      obtain ⟨hr3, hq3⟩ := hp
      rw [hq3] at hI
      subst hr3
      refine lv_iload hx hb dL_law_493 (lv_at hl 1 rfl) ?_
      refine lv_icmp_eq (tgt := 500) hx hb dL_law_495 (by decide) (fun c_495 => ?_) (fun c_495 => ?_)
      · refine lv_iload hx hb dL_law_500 (lv_at hl 1 rfl) ?_
        refine lv_if_ne (tgt := 517) hx hb dL_law_502 (by decide) (fun c_502 => ?_) (fun c_502 => ?_)
        · refine lv_goto (tgt := 991) hx hb dL_law_517 (by decide) ?_
          exact kk _ H locs ls _ _ (by omega) (by omega) ⟨_, _, _, _, _, _, _, _, _, _, _, _, hT2, hNW2, hN62, hrv2, hok2, hrel2, hXx, hMS, hO⟩ hI (lv_sub hl [2, 3, 4, 5, 6] rfl)
        · exact absurd c_502 hc1
      · exact absurd hce c_495

set_option maxHeartbeats 4000000 in
set_option maxRecDepth 100000 in
theorem op_count (l : Launch) (hl9 : l.stackTraces = false) {pr : Program} {e : Env} {s : State} {m : MethodId} {args : Array Value} {below : List Frame} {meth : Method} {c : Code} {Q : State → Prop} (hx : pr.tables.exec = Jvm.exec) (hb : c.code = cL_law) (hml : c.maxLocals = 9) (hts : ∀ w ∈ wsL_law, w.before args s = true) (hown : s.vm.findClass RL = some m.cls) {D : va_G} {cI cJ cB : ClassId} {t0 z : Nat} {tx ad : Nat → Nat} {L : List Nat} (hG : fG D cI cJ cB t0 z tx s) (hXm : ∀ k, k < 5 ∨ (10 ≤ k ∧ k < 24) ∨ (30 ≤ k ∧ k < 44) → k ∈ L) (hMm : ∀ k, (50 ≤ k ∧ k < 55) ∨ (60 ≤ k ∧ k < 71) ∨ (80 ≤ k ∧ k < 91) → k ∈ L) (h45 : 45 ∈ L) (h99 : 99 ∉ L) {b Lx : Nat} {xs : Nat → Int32} (hL : Lx ≤ 2048) (hS0 : va_X b Lx xs s s.heap) (hbl : b < s.heap.size) (hbA : ¬ fA z b) {i : Nat} (hi : 4 * i + 4 ≤ Lx) {cells slots : Nat} (hc9 : cells ≤ 600000) (hs9 : slots ≤ 7000000) {E : Nat → va_E} {H : Heap} {locs : List Loc} {ls : Array Slot} (hv : law_inv cI cJ cB ad E i) (hI : fI D (fA z) s.heap ad L E H locs) (hl : lv_has ls 9 [(0, .ref b), (1, .ref (ad 0)), (2, .ref (ad 50)), (3, .ref (ad 45)), (4, .int (nI (4 * i)))]) (kk : ∀ (E1 : Nat → va_E) (H1 : Heap) (locs1 : List Loc) (ls1 : Array Slot) (c1 s1 : Nat), c1 ≤ cells + 70 → s1 ≤ slots + 600 → law_inv cI cJ cB ad E1 (i + 1) → fI D (fA z) s.heap ad L E1 H1 locs1 → lv_has ls1 9 [(0, .ref b), (1, .ref (ad 0)), (2, .ref (ad 50)), (3, .ref (ad 45)), (4, .int (nI (4 * i)))] → W pr l e room_1 s m args below meth c H1 locs1 c1 s1 Q (F0 m 991 ls1 [])) : W pr l e room_1 s m args below meth c H locs cells slots Q (F0 m 520 ls []) := by
  obtain ⟨th, w, p, g, nw, n, T, str, S, B, F, fo, hT, hNW, hN6, hrv, hok, hrel, hXx, hMS, hO⟩ := hv
  have h8 : ∀ i, i < n → B i 8 = 0 ∨ B i 8 = 1 := fun q hq => by rw [hrel.1 q hq]; exact mb_in q
  have hce : c_count (xs (4 * i + 1)) = c_count (xs (4 * i + 1)) := rfl
  refine lv_aload_n hx hb dL_law_520 rfl (lv_at hl 1 rfl) ?_
  refine lv_aload_n hx hb dL_law_521 rfl (lv_at hl 0 rfl) ?_
  refine lv_iload hx hb dL_law_522 (lv_at hl 4 rfl) ?_
  refine lv_iconst (v := 1) hx hb dL_law_524 (by decide) ?_
  refine lv_iadd hx hb dL_law_525 ?_
  refine lv_topi (fun tv etv => ?_)
  have etv : tv = nI (4 * i + 1) := etv.trans (nI_add (4 * i) 1)
  subst etv
  refine va_sld hx hb hS0 hbl hbA hI.2.2 (vp_in_nI (by omega) (by omega)) dL_law_526 ?_
  rw [show (nI (4 * i + 1)).toNatClampNeg = (4 * i + 1) from nI_clamp (by omega)]
  refine lv_aload_n hx hb dL_law_527 rfl (lv_at hl 3 rfl) ?_
  refine f_calli1 (vx_runSW (As := [.ref (ad 0), .int (xs (4 * i + 1)), .ref (ad 45)]) (rest := []) ⟨hx, hb, hml, hown, hts⟩ (m_L_count l hl9 hXx hNW hN6 (by omega) h8 hXm h45 hO (xs (4 * i + 1))) (vx_cwSW 3 hts gL_law_L_count rfl rfl rfl (by decide +kernel) ⟨(Nat.le_of_ble_eq_true rfl), (Nat.le_of_ble_eq_true rfl)⟩) (fPre_of hG hI) rfl rfl hl.1 rfl (lv_room (Nat.le_of_ble_eq_true rfl)) dL_law_528 ⟨(by show _ ≤ 601024; omega), (by show _ ≤ 7293034; omega)⟩) hI (fun r1 E1 H locs hp hI => ?_)
  rcases hp with ⟨hc1, hr1, hO, hXx, hf1⟩ | ⟨hc1, hr1, hq1⟩
  · subst hr1
    have hMS := hMS.kept (fun q a b => hf1 q (by omega) (by omega))
    have hMS1 := hMS.1.1
    refine lv_istore (lv' := [(5, .int 0), (0, .ref b), (1, .ref (ad 0)), (2, .ref (ad 50)), (3, .ref (ad 45)), (4, .int (nI (4 * i)))]) hx hb dL_law_531 hl (by decide) rfl (fun ls hl => ?_)
    refine lv_aload_n hx hb dL_law_533 rfl (lv_at hl 3 rfl) ?_
    refine lv_aload_n hx hb dL_law_534 rfl (lv_at hl 1 rfl) ?_
    refine lv_iload hx hb dL_law_535 (lv_at hl 5 rfl) ?_
    refine lv_iconst (v := 1) hx hb dL_law_537 (by decide) ?_
    refine lv_iadd hx hb dL_law_538 ?_
    refine lv_topi (fun tv etv => ?_)
    have etv : tv = nI (4 * i + 1) := etv.trans (nI_add (4 * i) 1)
    subst etv
    refine va_sld hx hb hS0 hbl hbA hI.2.2 (vp_in_nI (by omega) (by omega)) dL_law_539 ?_
    rw [show (nI (4 * i + 1)).toNatClampNeg = (4 * i + 1) from nI_clamp (by omega)]
    refine f_calli1 (va_runV (As := [.int (xs (4 * i + 1))]) (rest := []) ⟨hx, hb, hml, hown, hts⟩ (m_X5_count l hMS hMm hNW hN6 (by omega) hrv hok h99 (xs (4 * i + 1))) (cwV 1 hts gL_law_X5_count rfl rfl rfl (by decide +kernel) ⟨(Nat.le_of_ble_eq_true rfl), (Nat.le_of_ble_eq_true rfl)⟩) (fPre_ofV hG hI rfl (hMm 50 (by decide)) hMS1 rfl rfl) rfl rfl hl.1 rfl (lv_room (Nat.le_of_ble_eq_true rfl)) dL_law_540 ⟨(by show _ ≤ 601024; omega), (by show _ ≤ 7293034; omega)⟩) hI (fun r2 E2 H locs hp hI => ?_)
    rcases hp with ⟨hc2, hr2, hMS, hf2⟩ | ⟨hc2, hr2, hMS, hf2⟩
    · subst hr2
      have hres : p_cnt nw n T B (xs (4 * i + 1)).toNatClampNeg = p_cnt nw n T (mb S str) (xs (4 * i + 1)).toNatClampNeg := p_cnt_congr hrel.1 _
      have hXx := hXx.kept (fun q hq => hf2 q (by omega))
      have hO : E2 45 = _ := (hf2 45 (by omega)).trans hO
      have hT2 : T ≤ 200 * (i + 1) := (by omega)
      have hNW2 : nw ≤ 6 := hNW
      have hN62 : n ≤ 6 := hN6
      have hrv2 : okr w p nw := hrv
      have hok2 : ∀ q, q < n → okb (mb S str q) := hok
      have hrel2 : rel n B F S str := hrel
      have hMS2 := hMS.1.1
      refine lv_istore (lv' := [(6, .int (p_cnt nw n T (mb S str) (xs (4 * i + 1)).toNatClampNeg)), (5, .int 0), (0, .ref b), (1, .ref (ad 0)), (2, .ref (ad 50)), (3, .ref (ad 45)), (4, .int (nI (4 * i)))]) hx hb dL_law_543 hl (by decide) rfl (fun ls hl => ?_)
      refine lv_aload_n hx hb dL_law_545 rfl (lv_at hl 4 rfl) ?_
      refine f_calli1 (va_runV (As := []) (rest := []) ⟨hx, hb, hml, hown, hts⟩ (m_X5_thrown l hMS hMm hNW2 hN62 (by omega) hrv2 hok2 h99) (cwV 0 hts gL_law_X5_thrown rfl rfl rfl (by decide +kernel) ⟨(Nat.le_of_ble_eq_true rfl), (Nat.le_of_ble_eq_true rfl)⟩) (fPre_ofV hG hI rfl (hMm 50 (by decide)) hMS2 rfl rfl) rfl rfl hl.1 rfl (lv_room (Nat.le_of_ble_eq_true rfl)) dL_law_546 ⟨(by show _ ≤ 601024; omega), (by show _ ≤ 7293034; omega)⟩) hI (fun r3 E3 H locs hp hI => ?_)
      obtain ⟨hr3, hq3⟩ := hp
      rw [hq3] at hI
      subst hr3
      refine lv_iload hx hb dL_law_549 (lv_at hl 1 rfl) ?_
      refine lv_icmp_eq (tgt := 556) hx hb dL_law_551 (by decide) (fun c_551 => ?_) (fun c_551 => ?_)
      · refine lv_iload hx hb dL_law_556 (lv_at hl 1 rfl) ?_
        refine lv_if_ne (tgt := 573) hx hb dL_law_558 (by decide) (fun c_558 => ?_) (fun c_558 => ?_)
        · exact absurd c_558 (by decide)
        · refine lv_aload_n hx hb dL_law_561 rfl (lv_at hl 5 rfl) ?_
          refine lv_iconst (v := 0) hx hb dL_law_562 (by decide) ?_
          refine f_lald hx hb hG.1 hI rfl h45 hO (vp_in_iff.mpr ⟨by decide, by decide⟩) dL_law_563 ?_
          refine lv_iload hx hb dL_law_564 (lv_at hl 0 rfl) ?_
          refine lv_i2l hx hb dL_law_566 rfl ?_
          refine f_lcmp hx hb (congrArg Int32.toInt64 hres) dL_law_567 ?_
          refine lv_if_eq (tgt := 573) hx hb dL_law_568 (by decide) (fun c_568 => ?_) (fun c_568 => ?_)
          · refine lv_goto (tgt := 991) hx hb dL_law_573 (by decide) ?_
            exact kk _ H locs ls _ _ (by omega) (by omega) ⟨_, _, _, _, _, _, _, _, _, _, _, _, hT2, hNW2, hN62, hrv2, hok2, hrel2, hXx, hMS, hO⟩ hI (lv_sub hl [2, 3, 4, 5, 6] rfl)
          · exact absurd c_568 (by decide)
      · exact absurd c_551 (by decide)
    · exact absurd (hce.trans hc1) hc2
  · rw [hq1] at hI
    subst hr1
    have hMS1 := hMS.1.1
    refine lv_istore (lv' := [(5, .int (c_count (xs (4 * i + 1)))), (0, .ref b), (1, .ref (ad 0)), (2, .ref (ad 50)), (3, .ref (ad 45)), (4, .int (nI (4 * i)))]) hx hb dL_law_531 hl (by decide) rfl (fun ls hl => ?_)
    refine lv_aload_n hx hb dL_law_533 rfl (lv_at hl 3 rfl) ?_
    refine lv_aload_n hx hb dL_law_534 rfl (lv_at hl 1 rfl) ?_
    refine lv_iload hx hb dL_law_535 (lv_at hl 5 rfl) ?_
    refine lv_iconst (v := 1) hx hb dL_law_537 (by decide) ?_
    refine lv_iadd hx hb dL_law_538 ?_
    refine lv_topi (fun tv etv => ?_)
    have etv : tv = nI (4 * i + 1) := etv.trans (nI_add (4 * i) 1)
    subst etv
    refine va_sld hx hb hS0 hbl hbA hI.2.2 (vp_in_nI (by omega) (by omega)) dL_law_539 ?_
    rw [show (nI (4 * i + 1)).toNatClampNeg = (4 * i + 1) from nI_clamp (by omega)]
    refine f_calli1 (va_runV (As := [.int (xs (4 * i + 1))]) (rest := []) ⟨hx, hb, hml, hown, hts⟩ (m_X5_count l hMS hMm hNW hN6 (by omega) hrv hok h99 (xs (4 * i + 1))) (cwV 1 hts gL_law_X5_count rfl rfl rfl (by decide +kernel) ⟨(Nat.le_of_ble_eq_true rfl), (Nat.le_of_ble_eq_true rfl)⟩) (fPre_ofV hG hI rfl (hMm 50 (by decide)) hMS1 rfl rfl) rfl rfl hl.1 rfl (lv_room (Nat.le_of_ble_eq_true rfl)) dL_law_540 ⟨(by show _ ≤ 601024; omega), (by show _ ≤ 7293034; omega)⟩) hI (fun r2 E2 H locs hp hI => ?_)
    rcases hp with ⟨hc2, hr2, hMS, hf2⟩ | ⟨hc2, hr2, hMS, hf2⟩
    · exact absurd (hce.symm.trans hc2) hc1
    · subst hr2
      have hXx := hXx.kept (fun q hq => hf2 q (by omega))
      have hO : E2 45 = _ := (hf2 45 (by omega)).trans hO
      have hT2 : T ≤ 200 * (i + 1) := by omega
      have hNW2 := hNW
      have hN62 := hN6
      have hrv2 := hrv
      have hok2 := hok
      have hrel2 := hrel
      have hMS2 := hMS.1.1
      refine lv_istore (lv' := [(6, .int 0), (5, .int (c_count (xs (4 * i + 1)))), (0, .ref b), (1, .ref (ad 0)), (2, .ref (ad 50)), (3, .ref (ad 45)), (4, .int (nI (4 * i)))]) hx hb dL_law_543 hl (by decide) rfl (fun ls hl => ?_)
      refine lv_aload_n hx hb dL_law_545 rfl (lv_at hl 4 rfl) ?_
      refine f_calli1 (va_runV (As := []) (rest := []) ⟨hx, hb, hml, hown, hts⟩ (m_X5_thrown l hMS hMm hNW2 hN62 (by omega) hrv2 hok2 h99) (cwV 0 hts gL_law_X5_thrown rfl rfl rfl (by decide +kernel) ⟨(Nat.le_of_ble_eq_true rfl), (Nat.le_of_ble_eq_true rfl)⟩) (fPre_ofV hG hI rfl (hMm 50 (by decide)) hMS2 rfl rfl) rfl rfl hl.1 rfl (lv_room (Nat.le_of_ble_eq_true rfl)) dL_law_546 ⟨(by show _ ≤ 601024; omega), (by show _ ≤ 7293034; omega)⟩) hI (fun r3 E3 H locs hp hI => ?_)
      obtain ⟨hr3, hq3⟩ := hp
      rw [hq3] at hI
      subst hr3
      refine lv_iload hx hb dL_law_549 (lv_at hl 1 rfl) ?_
      refine lv_icmp_eq (tgt := 556) hx hb dL_law_551 (by decide) (fun c_551 => ?_) (fun c_551 => ?_)
      · refine lv_iload hx hb dL_law_556 (lv_at hl 1 rfl) ?_
        refine lv_if_ne (tgt := 573) hx hb dL_law_558 (by decide) (fun c_558 => ?_) (fun c_558 => ?_)
        · refine lv_goto (tgt := 991) hx hb dL_law_573 (by decide) ?_
          exact kk _ H locs ls _ _ (by omega) (by omega) ⟨_, _, _, _, _, _, _, _, _, _, _, _, hT2, hNW2, hN62, hrv2, hok2, hrel2, hXx, hMS, hO⟩ hI (lv_sub hl [2, 3, 4, 5, 6] rfl)
        · exact absurd c_558 hc1
      · exact absurd hce c_551

set_option maxHeartbeats 4000000 in
set_option maxRecDepth 100000 in
theorem op_next (l : Launch) (hl9 : l.stackTraces = false) {pr : Program} {e : Env} {s : State} {m : MethodId} {args : Array Value} {below : List Frame} {meth : Method} {c : Code} {Q : State → Prop} (hx : pr.tables.exec = Jvm.exec) (hb : c.code = cL_law) (hml : c.maxLocals = 9) (hts : ∀ w ∈ wsL_law, w.before args s = true) (hown : s.vm.findClass RL = some m.cls) {D : va_G} {cI cJ cB : ClassId} {t0 z : Nat} {tx ad : Nat → Nat} {L : List Nat} (hG : fG D cI cJ cB t0 z tx s) (hXm : ∀ k, k < 5 ∨ (10 ≤ k ∧ k < 24) ∨ (30 ≤ k ∧ k < 44) → k ∈ L) (hMm : ∀ k, (50 ≤ k ∧ k < 55) ∨ (60 ≤ k ∧ k < 71) ∨ (80 ≤ k ∧ k < 91) → k ∈ L) (h45 : 45 ∈ L) (h99 : 99 ∉ L) {b Lx : Nat} {xs : Nat → Int32} (hL : Lx ≤ 2048) (hS0 : va_X b Lx xs s s.heap) (hbl : b < s.heap.size) (hbA : ¬ fA z b) {i : Nat} (hi : 4 * i + 4 ≤ Lx) {cells slots : Nat} (hc9 : cells ≤ 600000) (hs9 : slots ≤ 7000000) {E : Nat → va_E} {H : Heap} {locs : List Loc} {ls : Array Slot} (hv : law_inv cI cJ cB ad E i) (hI : fI D (fA z) s.heap ad L E H locs) (hl : lv_has ls 9 [(0, .ref b), (1, .ref (ad 0)), (2, .ref (ad 50)), (3, .ref (ad 45)), (4, .int (nI (4 * i)))]) (kk : ∀ (E1 : Nat → va_E) (H1 : Heap) (locs1 : List Loc) (ls1 : Array Slot) (c1 s1 : Nat), c1 ≤ cells + 70 → s1 ≤ slots + 600 → law_inv cI cJ cB ad E1 (i + 1) → fI D (fA z) s.heap ad L E1 H1 locs1 → lv_has ls1 9 [(0, .ref b), (1, .ref (ad 0)), (2, .ref (ad 50)), (3, .ref (ad 45)), (4, .int (nI (4 * i)))] → W pr l e room_1 s m args below meth c H1 locs1 c1 s1 Q (F0 m 991 ls1 [])) : W pr l e room_1 s m args below meth c H locs cells slots Q (F0 m 576 ls []) := by
  obtain ⟨th, w, p, g, nw, n, T, str, S, B, F, fo, hT, hNW, hN6, hrv, hok, hrel, hXx, hMS, hO⟩ := hv
  have h8 : ∀ i, i < n → B i 8 = 0 ∨ B i 8 = 1 := fun q hq => by rw [hrel.1 q hq]; exact mb_in q
  have hce : c_next (xs (4 * i + 1)) = c_next (xs (4 * i + 1)) := rfl
  refine lv_aload_n hx hb dL_law_576 rfl (lv_at hl 1 rfl) ?_
  refine lv_aload_n hx hb dL_law_577 rfl (lv_at hl 0 rfl) ?_
  refine lv_iload hx hb dL_law_578 (lv_at hl 4 rfl) ?_
  refine lv_iconst (v := 1) hx hb dL_law_580 (by decide) ?_
  refine lv_iadd hx hb dL_law_581 ?_
  refine lv_topi (fun tv etv => ?_)
  have etv : tv = nI (4 * i + 1) := etv.trans (nI_add (4 * i) 1)
  subst etv
  refine va_sld hx hb hS0 hbl hbA hI.2.2 (vp_in_nI (by omega) (by omega)) dL_law_582 ?_
  rw [show (nI (4 * i + 1)).toNatClampNeg = (4 * i + 1) from nI_clamp (by omega)]
  refine lv_aload_n hx hb dL_law_583 rfl (lv_at hl 3 rfl) ?_
  refine f_calli1 (vx_runSW (As := [.ref (ad 0), .int (xs (4 * i + 1)), .ref (ad 45)]) (rest := []) ⟨hx, hb, hml, hown, hts⟩ (m_L_next l hl9 hXx hNW hN6 (by omega) h8 hXm h45 hO (xs (4 * i + 1))) (vx_cwSW 3 hts gL_law_L_next rfl rfl rfl (by decide +kernel) ⟨(Nat.le_of_ble_eq_true rfl), (Nat.le_of_ble_eq_true rfl)⟩) (fPre_of hG hI) rfl rfl hl.1 rfl (lv_room (Nat.le_of_ble_eq_true rfl)) dL_law_584 ⟨(by show _ ≤ 601024; omega), (by show _ ≤ 7293034; omega)⟩) hI (fun r1 E1 H locs hp hI => ?_)
  rcases hp with ⟨hc1, hr1, hO, hXx, hf1⟩ | ⟨hc1, hr1, hq1⟩
  · subst hr1
    have hMS := hMS.kept (fun q a b => hf1 q (by omega) (by omega))
    have hMS1 := hMS.1.1
    refine lv_istore (lv' := [(5, .int 0), (0, .ref b), (1, .ref (ad 0)), (2, .ref (ad 50)), (3, .ref (ad 45)), (4, .int (nI (4 * i)))]) hx hb dL_law_587 hl (by decide) rfl (fun ls hl => ?_)
    refine lv_aload_n hx hb dL_law_589 rfl (lv_at hl 3 rfl) ?_
    refine lv_aload_n hx hb dL_law_590 rfl (lv_at hl 1 rfl) ?_
    refine lv_iload hx hb dL_law_591 (lv_at hl 5 rfl) ?_
    refine lv_iconst (v := 1) hx hb dL_law_593 (by decide) ?_
    refine lv_iadd hx hb dL_law_594 ?_
    refine lv_topi (fun tv etv => ?_)
    have etv : tv = nI (4 * i + 1) := etv.trans (nI_add (4 * i) 1)
    subst etv
    refine va_sld hx hb hS0 hbl hbA hI.2.2 (vp_in_nI (by omega) (by omega)) dL_law_595 ?_
    rw [show (nI (4 * i + 1)).toNatClampNeg = (4 * i + 1) from nI_clamp (by omega)]
    refine f_calli1 (va_runV (As := [.int (xs (4 * i + 1))]) (rest := []) ⟨hx, hb, hml, hown, hts⟩ (m_X5_next l hMS hMm hNW hN6 (by omega) hrv hok h99 (xs (4 * i + 1))) (cwV 1 hts gL_law_X5_next rfl rfl rfl (by decide +kernel) ⟨(Nat.le_of_ble_eq_true rfl), (Nat.le_of_ble_eq_true rfl)⟩) (fPre_ofV hG hI rfl (hMm 50 (by decide)) hMS1 rfl rfl) rfl rfl hl.1 rfl (lv_room (Nat.le_of_ble_eq_true rfl)) dL_law_596 ⟨(by show _ ≤ 601024; omega), (by show _ ≤ 7293034; omega)⟩) hI (fun r2 E2 H locs hp hI => ?_)
    rcases hp with ⟨hc2, hr2, hMS, hf2⟩ | ⟨hc2, hr2, hMS, hf2⟩
    · subst hr2
      have hres : p_next p (xs (4 * i + 1)) nw = p_next p (xs (4 * i + 1)) nw := rfl
      have hXx := hXx.kept (fun q hq => hf2 q (by omega))
      have hO : E2 45 = _ := (hf2 45 (by omega)).trans hO
      have hT2 : T ≤ 200 * (i + 1) := (by omega)
      have hNW2 : nw ≤ 6 := hNW
      have hN62 : n ≤ 6 := hN6
      have hrv2 : okr w p nw := hrv
      have hok2 : ∀ q, q < n → okb (mb S str q) := hok
      have hrel2 : rel n B F S str := hrel
      have hMS2 := hMS.1.1
      refine lv_istore (lv' := [(6, .int (p_next p (xs (4 * i + 1)) nw)), (5, .int 0), (0, .ref b), (1, .ref (ad 0)), (2, .ref (ad 50)), (3, .ref (ad 45)), (4, .int (nI (4 * i)))]) hx hb dL_law_599 hl (by decide) rfl (fun ls hl => ?_)
      refine lv_aload_n hx hb dL_law_601 rfl (lv_at hl 4 rfl) ?_
      refine f_calli1 (va_runV (As := []) (rest := []) ⟨hx, hb, hml, hown, hts⟩ (m_X5_thrown l hMS hMm hNW2 hN62 (by omega) hrv2 hok2 h99) (cwV 0 hts gL_law_X5_thrown rfl rfl rfl (by decide +kernel) ⟨(Nat.le_of_ble_eq_true rfl), (Nat.le_of_ble_eq_true rfl)⟩) (fPre_ofV hG hI rfl (hMm 50 (by decide)) hMS2 rfl rfl) rfl rfl hl.1 rfl (lv_room (Nat.le_of_ble_eq_true rfl)) dL_law_602 ⟨(by show _ ≤ 601024; omega), (by show _ ≤ 7293034; omega)⟩) hI (fun r3 E3 H locs hp hI => ?_)
      obtain ⟨hr3, hq3⟩ := hp
      rw [hq3] at hI
      subst hr3
      refine lv_iload hx hb dL_law_605 (lv_at hl 1 rfl) ?_
      refine lv_icmp_eq (tgt := 612) hx hb dL_law_607 (by decide) (fun c_607 => ?_) (fun c_607 => ?_)
      · refine lv_iload hx hb dL_law_612 (lv_at hl 1 rfl) ?_
        refine lv_if_ne (tgt := 629) hx hb dL_law_614 (by decide) (fun c_614 => ?_) (fun c_614 => ?_)
        · exact absurd c_614 (by decide)
        · refine lv_aload_n hx hb dL_law_617 rfl (lv_at hl 5 rfl) ?_
          refine lv_iconst (v := 0) hx hb dL_law_618 (by decide) ?_
          refine f_lald hx hb hG.1 hI rfl h45 hO (vp_in_iff.mpr ⟨by decide, by decide⟩) dL_law_619 ?_
          refine lv_iload hx hb dL_law_620 (lv_at hl 0 rfl) ?_
          refine lv_i2l hx hb dL_law_622 rfl ?_
          refine f_lcmp hx hb (congrArg Int32.toInt64 hres) dL_law_623 ?_
          refine lv_if_eq (tgt := 629) hx hb dL_law_624 (by decide) (fun c_624 => ?_) (fun c_624 => ?_)
          · refine lv_goto (tgt := 991) hx hb dL_law_629 (by decide) ?_
            exact kk _ H locs ls _ _ (by omega) (by omega) ⟨_, _, _, _, _, _, _, _, _, _, _, _, hT2, hNW2, hN62, hrv2, hok2, hrel2, hXx, hMS, hO⟩ hI (lv_sub hl [2, 3, 4, 5, 6] rfl)
          · exact absurd c_624 (by decide)
      · exact absurd c_607 (by decide)
    · exact absurd (hce.trans hc1) hc2
  · rw [hq1] at hI
    subst hr1
    have hMS1 := hMS.1.1
    refine lv_istore (lv' := [(5, .int (c_next (xs (4 * i + 1)))), (0, .ref b), (1, .ref (ad 0)), (2, .ref (ad 50)), (3, .ref (ad 45)), (4, .int (nI (4 * i)))]) hx hb dL_law_587 hl (by decide) rfl (fun ls hl => ?_)
    refine lv_aload_n hx hb dL_law_589 rfl (lv_at hl 3 rfl) ?_
    refine lv_aload_n hx hb dL_law_590 rfl (lv_at hl 1 rfl) ?_
    refine lv_iload hx hb dL_law_591 (lv_at hl 5 rfl) ?_
    refine lv_iconst (v := 1) hx hb dL_law_593 (by decide) ?_
    refine lv_iadd hx hb dL_law_594 ?_
    refine lv_topi (fun tv etv => ?_)
    have etv : tv = nI (4 * i + 1) := etv.trans (nI_add (4 * i) 1)
    subst etv
    refine va_sld hx hb hS0 hbl hbA hI.2.2 (vp_in_nI (by omega) (by omega)) dL_law_595 ?_
    rw [show (nI (4 * i + 1)).toNatClampNeg = (4 * i + 1) from nI_clamp (by omega)]
    refine f_calli1 (va_runV (As := [.int (xs (4 * i + 1))]) (rest := []) ⟨hx, hb, hml, hown, hts⟩ (m_X5_next l hMS hMm hNW hN6 (by omega) hrv hok h99 (xs (4 * i + 1))) (cwV 1 hts gL_law_X5_next rfl rfl rfl (by decide +kernel) ⟨(Nat.le_of_ble_eq_true rfl), (Nat.le_of_ble_eq_true rfl)⟩) (fPre_ofV hG hI rfl (hMm 50 (by decide)) hMS1 rfl rfl) rfl rfl hl.1 rfl (lv_room (Nat.le_of_ble_eq_true rfl)) dL_law_596 ⟨(by show _ ≤ 601024; omega), (by show _ ≤ 7293034; omega)⟩) hI (fun r2 E2 H locs hp hI => ?_)
    rcases hp with ⟨hc2, hr2, hMS, hf2⟩ | ⟨hc2, hr2, hMS, hf2⟩
    · exact absurd (hce.symm.trans hc2) hc1
    · subst hr2
      have hXx := hXx.kept (fun q hq => hf2 q (by omega))
      have hO : E2 45 = _ := (hf2 45 (by omega)).trans hO
      have hT2 : T ≤ 200 * (i + 1) := by omega
      have hNW2 := hNW
      have hN62 := hN6
      have hrv2 := hrv
      have hok2 := hok
      have hrel2 := hrel
      have hMS2 := hMS.1.1
      refine lv_istore (lv' := [(6, .int 0), (5, .int (c_next (xs (4 * i + 1)))), (0, .ref b), (1, .ref (ad 0)), (2, .ref (ad 50)), (3, .ref (ad 45)), (4, .int (nI (4 * i)))]) hx hb dL_law_599 hl (by decide) rfl (fun ls hl => ?_)
      refine lv_aload_n hx hb dL_law_601 rfl (lv_at hl 4 rfl) ?_
      refine f_calli1 (va_runV (As := []) (rest := []) ⟨hx, hb, hml, hown, hts⟩ (m_X5_thrown l hMS hMm hNW2 hN62 (by omega) hrv2 hok2 h99) (cwV 0 hts gL_law_X5_thrown rfl rfl rfl (by decide +kernel) ⟨(Nat.le_of_ble_eq_true rfl), (Nat.le_of_ble_eq_true rfl)⟩) (fPre_ofV hG hI rfl (hMm 50 (by decide)) hMS2 rfl rfl) rfl rfl hl.1 rfl (lv_room (Nat.le_of_ble_eq_true rfl)) dL_law_602 ⟨(by show _ ≤ 601024; omega), (by show _ ≤ 7293034; omega)⟩) hI (fun r3 E3 H locs hp hI => ?_)
      obtain ⟨hr3, hq3⟩ := hp
      rw [hq3] at hI
      subst hr3
      refine lv_iload hx hb dL_law_605 (lv_at hl 1 rfl) ?_
      refine lv_icmp_eq (tgt := 612) hx hb dL_law_607 (by decide) (fun c_607 => ?_) (fun c_607 => ?_)
      · refine lv_iload hx hb dL_law_612 (lv_at hl 1 rfl) ?_
        refine lv_if_ne (tgt := 629) hx hb dL_law_614 (by decide) (fun c_614 => ?_) (fun c_614 => ?_)
        · refine lv_goto (tgt := 991) hx hb dL_law_629 (by decide) ?_
          exact kk _ H locs ls _ _ (by omega) (by omega) ⟨_, _, _, _, _, _, _, _, _, _, _, _, hT2, hNW2, hN62, hrv2, hok2, hrel2, hXx, hMS, hO⟩ hI (lv_sub hl [2, 3, 4, 5, 6] rfl)
        · exact absurd c_614 hc1
      · exact absurd hce c_607

set_option maxHeartbeats 4000000 in
set_option maxRecDepth 100000 in
theorem op_rank (l : Launch) (hl9 : l.stackTraces = false) {pr : Program} {e : Env} {s : State} {m : MethodId} {args : Array Value} {below : List Frame} {meth : Method} {c : Code} {Q : State → Prop} (hx : pr.tables.exec = Jvm.exec) (hb : c.code = cL_law) (hml : c.maxLocals = 9) (hts : ∀ w ∈ wsL_law, w.before args s = true) (hown : s.vm.findClass RL = some m.cls) {D : va_G} {cI cJ cB : ClassId} {t0 z : Nat} {tx ad : Nat → Nat} {L : List Nat} (hG : fG D cI cJ cB t0 z tx s) (hXm : ∀ k, k < 5 ∨ (10 ≤ k ∧ k < 24) ∨ (30 ≤ k ∧ k < 44) → k ∈ L) (hMm : ∀ k, (50 ≤ k ∧ k < 55) ∨ (60 ≤ k ∧ k < 71) ∨ (80 ≤ k ∧ k < 91) → k ∈ L) (h45 : 45 ∈ L) (h99 : 99 ∉ L) {b Lx : Nat} {xs : Nat → Int32} (hL : Lx ≤ 2048) (hS0 : va_X b Lx xs s s.heap) (hbl : b < s.heap.size) (hbA : ¬ fA z b) {i : Nat} (hi : 4 * i + 4 ≤ Lx) {cells slots : Nat} (hc9 : cells ≤ 600000) (hs9 : slots ≤ 7000000) {E : Nat → va_E} {H : Heap} {locs : List Loc} {ls : Array Slot} (hv : law_inv cI cJ cB ad E i) (hI : fI D (fA z) s.heap ad L E H locs) (hl : lv_has ls 9 [(0, .ref b), (1, .ref (ad 0)), (2, .ref (ad 50)), (3, .ref (ad 45)), (4, .int (nI (4 * i)))]) (kk : ∀ (E1 : Nat → va_E) (H1 : Heap) (locs1 : List Loc) (ls1 : Array Slot) (c1 s1 : Nat), c1 ≤ cells + 70 → s1 ≤ slots + 600 → law_inv cI cJ cB ad E1 (i + 1) → fI D (fA z) s.heap ad L E1 H1 locs1 → lv_has ls1 9 [(0, .ref b), (1, .ref (ad 0)), (2, .ref (ad 50)), (3, .ref (ad 45)), (4, .int (nI (4 * i)))] → W pr l e room_1 s m args below meth c H1 locs1 c1 s1 Q (F0 m 991 ls1 [])) : W pr l e room_1 s m args below meth c H locs cells slots Q (F0 m 632 ls []) := by
  obtain ⟨th, w, p, g, nw, n, T, str, S, B, F, fo, hT, hNW, hN6, hrv, hok, hrel, hXx, hMS, hO⟩ := hv
  have h8 : ∀ i, i < n → B i 8 = 0 ∨ B i 8 = 1 := fun q hq => by rw [hrel.1 q hq]; exact mb_in q
  have hce : c_rank n (xs (4 * i + 1)) = c_rank n (xs (4 * i + 1)) := rfl
  refine lv_aload_n hx hb dL_law_632 rfl (lv_at hl 1 rfl) ?_
  refine lv_aload_n hx hb dL_law_633 rfl (lv_at hl 0 rfl) ?_
  refine lv_iload hx hb dL_law_634 (lv_at hl 4 rfl) ?_
  refine lv_iconst (v := 1) hx hb dL_law_636 (by decide) ?_
  refine lv_iadd hx hb dL_law_637 ?_
  refine lv_topi (fun tv etv => ?_)
  have etv : tv = nI (4 * i + 1) := etv.trans (nI_add (4 * i) 1)
  subst etv
  refine va_sld hx hb hS0 hbl hbA hI.2.2 (vp_in_nI (by omega) (by omega)) dL_law_638 ?_
  rw [show (nI (4 * i + 1)).toNatClampNeg = (4 * i + 1) from nI_clamp (by omega)]
  refine lv_aload_n hx hb dL_law_639 rfl (lv_at hl 3 rfl) ?_
  refine f_calli1 (vx_runSW (As := [.ref (ad 0), .int (xs (4 * i + 1)), .ref (ad 45)]) (rest := []) ⟨hx, hb, hml, hown, hts⟩ (m_L_rank l hl9 hXx hNW hN6 (by omega) h8 hXm h45 hO (xs (4 * i + 1))) (vx_cwSW 3 hts gL_law_L_rank rfl rfl rfl (by decide +kernel) ⟨(Nat.le_of_ble_eq_true rfl), (Nat.le_of_ble_eq_true rfl)⟩) (fPre_of hG hI) rfl rfl hl.1 rfl (lv_room (Nat.le_of_ble_eq_true rfl)) dL_law_640 ⟨(by show _ ≤ 601024; omega), (by show _ ≤ 7293034; omega)⟩) hI (fun r1 E1 H locs hp hI => ?_)
  rcases hp with ⟨hc1, hr1, hO, hXx, hf1⟩ | ⟨hc1, hr1, hq1⟩
  · subst hr1
    have hMS := hMS.kept (fun q a b => hf1 q (by omega) (by omega))
    have hMS1 := hMS.1.1
    refine lv_istore (lv' := [(5, .int 0), (0, .ref b), (1, .ref (ad 0)), (2, .ref (ad 50)), (3, .ref (ad 45)), (4, .int (nI (4 * i)))]) hx hb dL_law_643 hl (by decide) rfl (fun ls hl => ?_)
    refine lv_aload_n hx hb dL_law_645 rfl (lv_at hl 3 rfl) ?_
    refine lv_aload_n hx hb dL_law_646 rfl (lv_at hl 1 rfl) ?_
    refine lv_iload hx hb dL_law_647 (lv_at hl 5 rfl) ?_
    refine lv_iconst (v := 1) hx hb dL_law_649 (by decide) ?_
    refine lv_iadd hx hb dL_law_650 ?_
    refine lv_topi (fun tv etv => ?_)
    have etv : tv = nI (4 * i + 1) := etv.trans (nI_add (4 * i) 1)
    subst etv
    refine va_sld hx hb hS0 hbl hbA hI.2.2 (vp_in_nI (by omega) (by omega)) dL_law_651 ?_
    rw [show (nI (4 * i + 1)).toNatClampNeg = (4 * i + 1) from nI_clamp (by omega)]
    refine f_calli1 (va_runV (As := [.int (xs (4 * i + 1))]) (rest := []) ⟨hx, hb, hml, hown, hts⟩ (m_X5_rank l hMS hMm hNW hN6 (by omega) hrv hok h99 (xs (4 * i + 1))) (cwV 1 hts gL_law_X5_rank rfl rfl rfl (by decide +kernel) ⟨(Nat.le_of_ble_eq_true rfl), (Nat.le_of_ble_eq_true rfl)⟩) (fPre_ofV hG hI rfl (hMm 50 (by decide)) hMS1 rfl rfl) rfl rfl hl.1 rfl (lv_room (Nat.le_of_ble_eq_true rfl)) dL_law_652 ⟨(by show _ ≤ 601024; omega), (by show _ ≤ 7293034; omega)⟩) hI (fun r2 E2 H locs hp hI => ?_)
    rcases hp with ⟨hc2, hr2, hMS, hf2⟩ | ⟨hc2, hr2, hMS, hf2⟩
    · subst hr2
      have g1 := isb_u hN6 (cr_0 hc2)
      have hres : 1 + p_rk B (B (xs (4 * i + 1)).toNatClampNeg) n = 1 + p_rk (mb S str) (mb S str (xs (4 * i + 1)).toNatClampNeg) n := by rw [hrel.1 _ g1, p_rk_congr hrel.1]
      have hXx := hXx.kept (fun q hq => hf2 q (by omega))
      have hO : E2 45 = _ := (hf2 45 (by omega)).trans hO
      have hT2 : T ≤ 200 * (i + 1) := (by omega)
      have hNW2 : nw ≤ 6 := hNW
      have hN62 : n ≤ 6 := hN6
      have hrv2 : okr w p nw := hrv
      have hok2 : ∀ q, q < n → okb (mb S str q) := hok
      have hrel2 : rel n B F S str := hrel
      have hMS2 := hMS.1.1
      refine lv_istore (lv' := [(6, .int (1 + p_rk (mb S str) (mb S str (xs (4 * i + 1)).toNatClampNeg) n)), (5, .int 0), (0, .ref b), (1, .ref (ad 0)), (2, .ref (ad 50)), (3, .ref (ad 45)), (4, .int (nI (4 * i)))]) hx hb dL_law_655 hl (by decide) rfl (fun ls hl => ?_)
      refine lv_aload_n hx hb dL_law_657 rfl (lv_at hl 4 rfl) ?_
      refine f_calli1 (va_runV (As := []) (rest := []) ⟨hx, hb, hml, hown, hts⟩ (m_X5_thrown l hMS hMm hNW2 hN62 (by omega) hrv2 hok2 h99) (cwV 0 hts gL_law_X5_thrown rfl rfl rfl (by decide +kernel) ⟨(Nat.le_of_ble_eq_true rfl), (Nat.le_of_ble_eq_true rfl)⟩) (fPre_ofV hG hI rfl (hMm 50 (by decide)) hMS2 rfl rfl) rfl rfl hl.1 rfl (lv_room (Nat.le_of_ble_eq_true rfl)) dL_law_658 ⟨(by show _ ≤ 601024; omega), (by show _ ≤ 7293034; omega)⟩) hI (fun r3 E3 H locs hp hI => ?_)
      obtain ⟨hr3, hq3⟩ := hp
      rw [hq3] at hI
      subst hr3
      refine lv_iload hx hb dL_law_661 (lv_at hl 1 rfl) ?_
      refine lv_icmp_eq (tgt := 668) hx hb dL_law_663 (by decide) (fun c_663 => ?_) (fun c_663 => ?_)
      · refine lv_iload hx hb dL_law_668 (lv_at hl 1 rfl) ?_
        refine lv_if_ne (tgt := 685) hx hb dL_law_670 (by decide) (fun c_670 => ?_) (fun c_670 => ?_)
        · exact absurd c_670 (by decide)
        · refine lv_aload_n hx hb dL_law_673 rfl (lv_at hl 5 rfl) ?_
          refine lv_iconst (v := 0) hx hb dL_law_674 (by decide) ?_
          refine f_lald hx hb hG.1 hI rfl h45 hO (vp_in_iff.mpr ⟨by decide, by decide⟩) dL_law_675 ?_
          refine lv_iload hx hb dL_law_676 (lv_at hl 0 rfl) ?_
          refine lv_i2l hx hb dL_law_678 rfl ?_
          refine f_lcmp hx hb (congrArg Int32.toInt64 hres) dL_law_679 ?_
          refine lv_if_eq (tgt := 685) hx hb dL_law_680 (by decide) (fun c_680 => ?_) (fun c_680 => ?_)
          · refine lv_goto (tgt := 991) hx hb dL_law_685 (by decide) ?_
            exact kk _ H locs ls _ _ (by omega) (by omega) ⟨_, _, _, _, _, _, _, _, _, _, _, _, hT2, hNW2, hN62, hrv2, hok2, hrel2, hXx, hMS, hO⟩ hI (lv_sub hl [2, 3, 4, 5, 6] rfl)
          · exact absurd c_680 (by decide)
      · exact absurd c_663 (by decide)
    · exact absurd (hce.trans hc1) hc2
  · rw [hq1] at hI
    subst hr1
    have hMS1 := hMS.1.1
    refine lv_istore (lv' := [(5, .int (c_rank n (xs (4 * i + 1)))), (0, .ref b), (1, .ref (ad 0)), (2, .ref (ad 50)), (3, .ref (ad 45)), (4, .int (nI (4 * i)))]) hx hb dL_law_643 hl (by decide) rfl (fun ls hl => ?_)
    refine lv_aload_n hx hb dL_law_645 rfl (lv_at hl 3 rfl) ?_
    refine lv_aload_n hx hb dL_law_646 rfl (lv_at hl 1 rfl) ?_
    refine lv_iload hx hb dL_law_647 (lv_at hl 5 rfl) ?_
    refine lv_iconst (v := 1) hx hb dL_law_649 (by decide) ?_
    refine lv_iadd hx hb dL_law_650 ?_
    refine lv_topi (fun tv etv => ?_)
    have etv : tv = nI (4 * i + 1) := etv.trans (nI_add (4 * i) 1)
    subst etv
    refine va_sld hx hb hS0 hbl hbA hI.2.2 (vp_in_nI (by omega) (by omega)) dL_law_651 ?_
    rw [show (nI (4 * i + 1)).toNatClampNeg = (4 * i + 1) from nI_clamp (by omega)]
    refine f_calli1 (va_runV (As := [.int (xs (4 * i + 1))]) (rest := []) ⟨hx, hb, hml, hown, hts⟩ (m_X5_rank l hMS hMm hNW hN6 (by omega) hrv hok h99 (xs (4 * i + 1))) (cwV 1 hts gL_law_X5_rank rfl rfl rfl (by decide +kernel) ⟨(Nat.le_of_ble_eq_true rfl), (Nat.le_of_ble_eq_true rfl)⟩) (fPre_ofV hG hI rfl (hMm 50 (by decide)) hMS1 rfl rfl) rfl rfl hl.1 rfl (lv_room (Nat.le_of_ble_eq_true rfl)) dL_law_652 ⟨(by show _ ≤ 601024; omega), (by show _ ≤ 7293034; omega)⟩) hI (fun r2 E2 H locs hp hI => ?_)
    rcases hp with ⟨hc2, hr2, hMS, hf2⟩ | ⟨hc2, hr2, hMS, hf2⟩
    · exact absurd (hce.symm.trans hc2) hc1
    · subst hr2
      have hXx := hXx.kept (fun q hq => hf2 q (by omega))
      have hO : E2 45 = _ := (hf2 45 (by omega)).trans hO
      have hT2 : T ≤ 200 * (i + 1) := by omega
      have hNW2 := hNW
      have hN62 := hN6
      have hrv2 := hrv
      have hok2 := hok
      have hrel2 := hrel
      have hMS2 := hMS.1.1
      refine lv_istore (lv' := [(6, .int 0), (5, .int (c_rank n (xs (4 * i + 1)))), (0, .ref b), (1, .ref (ad 0)), (2, .ref (ad 50)), (3, .ref (ad 45)), (4, .int (nI (4 * i)))]) hx hb dL_law_655 hl (by decide) rfl (fun ls hl => ?_)
      refine lv_aload_n hx hb dL_law_657 rfl (lv_at hl 4 rfl) ?_
      refine f_calli1 (va_runV (As := []) (rest := []) ⟨hx, hb, hml, hown, hts⟩ (m_X5_thrown l hMS hMm hNW2 hN62 (by omega) hrv2 hok2 h99) (cwV 0 hts gL_law_X5_thrown rfl rfl rfl (by decide +kernel) ⟨(Nat.le_of_ble_eq_true rfl), (Nat.le_of_ble_eq_true rfl)⟩) (fPre_ofV hG hI rfl (hMm 50 (by decide)) hMS2 rfl rfl) rfl rfl hl.1 rfl (lv_room (Nat.le_of_ble_eq_true rfl)) dL_law_658 ⟨(by show _ ≤ 601024; omega), (by show _ ≤ 7293034; omega)⟩) hI (fun r3 E3 H locs hp hI => ?_)
      obtain ⟨hr3, hq3⟩ := hp
      rw [hq3] at hI
      subst hr3
      refine lv_iload hx hb dL_law_661 (lv_at hl 1 rfl) ?_
      refine lv_icmp_eq (tgt := 668) hx hb dL_law_663 (by decide) (fun c_663 => ?_) (fun c_663 => ?_)
      · refine lv_iload hx hb dL_law_668 (lv_at hl 1 rfl) ?_
        refine lv_if_ne (tgt := 685) hx hb dL_law_670 (by decide) (fun c_670 => ?_) (fun c_670 => ?_)
        · refine lv_goto (tgt := 991) hx hb dL_law_685 (by decide) ?_
          exact kk _ H locs ls _ _ (by omega) (by omega) ⟨_, _, _, _, _, _, _, _, _, _, _, _, hT2, hNW2, hN62, hrv2, hok2, hrel2, hXx, hMS, hO⟩ hI (lv_sub hl [2, 3, 4, 5, 6] rfl)
        · exact absurd c_670 hc1
      · exact absurd hce c_663

set_option maxHeartbeats 4000000 in
set_option maxRecDepth 100000 in
theorem op_go (l : Launch) (hl9 : l.stackTraces = false) {pr : Program} {e : Env} {s : State} {m : MethodId} {args : Array Value} {below : List Frame} {meth : Method} {c : Code} {Q : State → Prop} (hx : pr.tables.exec = Jvm.exec) (hb : c.code = cL_law) (hml : c.maxLocals = 9) (hts : ∀ w ∈ wsL_law, w.before args s = true) (hown : s.vm.findClass RL = some m.cls) {D : va_G} {cI cJ cB : ClassId} {t0 z : Nat} {tx ad : Nat → Nat} {L : List Nat} (hG : fG D cI cJ cB t0 z tx s) (hXm : ∀ k, k < 5 ∨ (10 ≤ k ∧ k < 24) ∨ (30 ≤ k ∧ k < 44) → k ∈ L) (hMm : ∀ k, (50 ≤ k ∧ k < 55) ∨ (60 ≤ k ∧ k < 71) ∨ (80 ≤ k ∧ k < 91) → k ∈ L) (h45 : 45 ∈ L) (h99 : 99 ∉ L) {b Lx : Nat} {xs : Nat → Int32} (hL : Lx ≤ 2048) (hS0 : va_X b Lx xs s s.heap) (hbl : b < s.heap.size) (hbA : ¬ fA z b) {i : Nat} (hi : 4 * i + 4 ≤ Lx) {cells slots : Nat} (hc9 : cells ≤ 600000) (hs9 : slots ≤ 7000000) {E : Nat → va_E} {H : Heap} {locs : List Loc} {ls : Array Slot} (hv : law_inv cI cJ cB ad E i) (hI : fI D (fA z) s.heap ad L E H locs) (hl : lv_has ls 9 [(0, .ref b), (1, .ref (ad 0)), (2, .ref (ad 50)), (3, .ref (ad 45)), (4, .int (nI (4 * i)))]) (kk : ∀ (E1 : Nat → va_E) (H1 : Heap) (locs1 : List Loc) (ls1 : Array Slot) (c1 s1 : Nat), c1 ≤ cells + 70 → s1 ≤ slots + 600 → law_inv cI cJ cB ad E1 (i + 1) → fI D (fA z) s.heap ad L E1 H1 locs1 → lv_has ls1 9 [(0, .ref b), (1, .ref (ad 0)), (2, .ref (ad 50)), (3, .ref (ad 45)), (4, .int (nI (4 * i)))] → W pr l e room_1 s m args below meth c H1 locs1 c1 s1 Q (F0 m 991 ls1 [])) : W pr l e room_1 s m args below meth c H locs cells slots Q (F0 m 688 ls []) := by
  obtain ⟨th, w, p, g, nw, n, T, str, S, B, F, fo, hT, hNW, hN6, hrv, hok, hrel, hXx, hMS, hO⟩ := hv
  have h8 : ∀ i, i < n → B i 8 = 0 ∨ B i 8 = 1 := fun q hq => by rw [hrel.1 q hq]; exact mb_in q
  have hce : c_go (xs (4 * i + 1)) = c_go (xs (4 * i + 1)) := rfl
  refine lv_aload_n hx hb dL_law_688 rfl (lv_at hl 1 rfl) ?_
  refine lv_aload_n hx hb dL_law_689 rfl (lv_at hl 0 rfl) ?_
  refine lv_iload hx hb dL_law_690 (lv_at hl 4 rfl) ?_
  refine lv_iconst (v := 1) hx hb dL_law_692 (by decide) ?_
  refine lv_iadd hx hb dL_law_693 ?_
  refine lv_topi (fun tv etv => ?_)
  have etv : tv = nI (4 * i + 1) := etv.trans (nI_add (4 * i) 1)
  subst etv
  refine va_sld hx hb hS0 hbl hbA hI.2.2 (vp_in_nI (by omega) (by omega)) dL_law_694 ?_
  rw [show (nI (4 * i + 1)).toNatClampNeg = (4 * i + 1) from nI_clamp (by omega)]
  refine lv_aload_n hx hb dL_law_695 rfl (lv_at hl 3 rfl) ?_
  refine f_calli1 (vx_runSW (As := [.ref (ad 0), .int (xs (4 * i + 1)), .ref (ad 45)]) (rest := []) ⟨hx, hb, hml, hown, hts⟩ (m_L_go l hl9 hXx hNW hN6 (by omega) h8 hXm h45 hO (xs (4 * i + 1))) (vx_cwSW 3 hts gL_law_L_go rfl rfl rfl (by decide +kernel) ⟨(Nat.le_of_ble_eq_true rfl), (Nat.le_of_ble_eq_true rfl)⟩) (fPre_of hG hI) rfl rfl hl.1 rfl (lv_room (Nat.le_of_ble_eq_true rfl)) dL_law_696 ⟨(by show _ ≤ 601024; omega), (by show _ ≤ 7293034; omega)⟩) hI (fun r1 E1 H locs hp hI => ?_)
  rcases hp with ⟨hc1, hr1, hO, hXx, hf1⟩ | ⟨hc1, hr1, hq1⟩
  · subst hr1
    have hMS := hMS.kept (fun q a b => hf1 q (by omega) (by omega))
    have hMS1 := hMS.1.1
    refine lv_istore (lv' := [(5, .int 0), (0, .ref b), (1, .ref (ad 0)), (2, .ref (ad 50)), (3, .ref (ad 45)), (4, .int (nI (4 * i)))]) hx hb dL_law_699 hl (by decide) rfl (fun ls hl => ?_)
    refine lv_aload_n hx hb dL_law_701 rfl (lv_at hl 3 rfl) ?_
    refine lv_aload_n hx hb dL_law_702 rfl (lv_at hl 1 rfl) ?_
    refine lv_iload hx hb dL_law_703 (lv_at hl 5 rfl) ?_
    refine lv_iconst (v := 1) hx hb dL_law_705 (by decide) ?_
    refine lv_iadd hx hb dL_law_706 ?_
    refine lv_topi (fun tv etv => ?_)
    have etv : tv = nI (4 * i + 1) := etv.trans (nI_add (4 * i) 1)
    subst etv
    refine va_sld hx hb hS0 hbl hbA hI.2.2 (vp_in_nI (by omega) (by omega)) dL_law_707 ?_
    rw [show (nI (4 * i + 1)).toNatClampNeg = (4 * i + 1) from nI_clamp (by omega)]
    refine f_calli1 (va_runV (As := [.int (xs (4 * i + 1))]) (rest := []) ⟨hx, hb, hml, hown, hts⟩ (m_X5_go l hMS hMm hNW hN6 (by omega) hrv hok h99 (xs (4 * i + 1))) (cwV 1 hts gL_law_X5_go rfl rfl rfl (by decide +kernel) ⟨(Nat.le_of_ble_eq_true rfl), (Nat.le_of_ble_eq_true rfl)⟩) (fPre_ofV hG hI rfl (hMm 50 (by decide)) hMS1 rfl rfl) rfl rfl hl.1 rfl (lv_room (Nat.le_of_ble_eq_true rfl)) dL_law_708 ⟨(by show _ ≤ 601024; omega), (by show _ ≤ 7293034; omega)⟩) hI (fun r2 E2 H locs hp hI => ?_)
    rcases hp with ⟨hc2, hr2, hMS, hf2⟩ | ⟨hc2, hr2, hMS, hf2⟩
    · subst hr2
      have g1 := cg_0 hc2
      have hres : p_in (p_run w p g nw T n F B (xs (4 * i + 1)).toNatClampNeg) n - p_in B n = p_in (mb (m_run w p g nw T n str S (xs (4 * i + 1)).toNatClampNeg) str) n - p_in (mb S str) n := by rw [p_in_congr (p_run_eq hrv hok hrel.1 hrel.2.1 (by omega)), p_in_congr hrel.1]
      have hXx := hXx.kept (fun q hq => hf2 q (by omega))
      have hO : E2 45 = _ := (hf2 45 (by omega)).trans hO
      have hT2 : (T + (xs (4 * i + 1)).toNatClampNeg) ≤ 200 * (i + 1) := (by omega)
      have hNW2 : nw ≤ 6 := hNW
      have hN62 : n ≤ 6 := hN6
      have hrv2 : okr w p nw := hrv
      have hok2 : ∀ q, q < n → okb (mb (m_run w p g nw T n str S (xs (4 * i + 1)).toNatClampNeg) str q) := okb_run hrv hok (by omega)
      have hrel2 : rel n (p_run w p g nw T n F B (xs (4 * i + 1)).toNatClampNeg) F (m_run w p g nw T n str S (xs (4 * i + 1)).toNatClampNeg) str := rel_go hrv hok hrel (by omega)
      have hMS2 := hMS.1.1
      refine lv_istore (lv' := [(6, .int (p_in (mb (m_run w p g nw T n str S (xs (4 * i + 1)).toNatClampNeg) str) n - p_in (mb S str) n)), (5, .int 0), (0, .ref b), (1, .ref (ad 0)), (2, .ref (ad 50)), (3, .ref (ad 45)), (4, .int (nI (4 * i)))]) hx hb dL_law_711 hl (by decide) rfl (fun ls hl => ?_)
      refine lv_aload_n hx hb dL_law_713 rfl (lv_at hl 4 rfl) ?_
      refine f_calli1 (va_runV (As := []) (rest := []) ⟨hx, hb, hml, hown, hts⟩ (m_X5_thrown l hMS hMm hNW2 hN62 (by omega) hrv2 hok2 h99) (cwV 0 hts gL_law_X5_thrown rfl rfl rfl (by decide +kernel) ⟨(Nat.le_of_ble_eq_true rfl), (Nat.le_of_ble_eq_true rfl)⟩) (fPre_ofV hG hI rfl (hMm 50 (by decide)) hMS2 rfl rfl) rfl rfl hl.1 rfl (lv_room (Nat.le_of_ble_eq_true rfl)) dL_law_714 ⟨(by show _ ≤ 601024; omega), (by show _ ≤ 7293034; omega)⟩) hI (fun r3 E3 H locs hp hI => ?_)
      obtain ⟨hr3, hq3⟩ := hp
      rw [hq3] at hI
      subst hr3
      refine lv_iload hx hb dL_law_717 (lv_at hl 1 rfl) ?_
      refine lv_icmp_eq (tgt := 724) hx hb dL_law_719 (by decide) (fun c_719 => ?_) (fun c_719 => ?_)
      · refine lv_iload hx hb dL_law_724 (lv_at hl 1 rfl) ?_
        refine lv_if_ne (tgt := 741) hx hb dL_law_726 (by decide) (fun c_726 => ?_) (fun c_726 => ?_)
        · exact absurd c_726 (by decide)
        · refine lv_aload_n hx hb dL_law_729 rfl (lv_at hl 5 rfl) ?_
          refine lv_iconst (v := 0) hx hb dL_law_730 (by decide) ?_
          refine f_lald hx hb hG.1 hI rfl h45 hO (vp_in_iff.mpr ⟨by decide, by decide⟩) dL_law_731 ?_
          refine lv_iload hx hb dL_law_732 (lv_at hl 0 rfl) ?_
          refine lv_i2l hx hb dL_law_734 rfl ?_
          refine f_lcmp hx hb (congrArg Int32.toInt64 hres) dL_law_735 ?_
          refine lv_if_eq (tgt := 741) hx hb dL_law_736 (by decide) (fun c_736 => ?_) (fun c_736 => ?_)
          · refine lv_goto (tgt := 991) hx hb dL_law_741 (by decide) ?_
            exact kk _ H locs ls _ _ (by omega) (by omega) ⟨_, _, _, _, _, _, _, _, _, _, _, _, hT2, hNW2, hN62, hrv2, hok2, hrel2, hXx, hMS, hO⟩ hI (lv_sub hl [2, 3, 4, 5, 6] rfl)
          · exact absurd c_736 (by decide)
      · exact absurd c_719 (by decide)
    · exact absurd (hce.trans hc1) hc2
  · rw [hq1] at hI
    subst hr1
    have hMS1 := hMS.1.1
    refine lv_istore (lv' := [(5, .int (c_go (xs (4 * i + 1)))), (0, .ref b), (1, .ref (ad 0)), (2, .ref (ad 50)), (3, .ref (ad 45)), (4, .int (nI (4 * i)))]) hx hb dL_law_699 hl (by decide) rfl (fun ls hl => ?_)
    refine lv_aload_n hx hb dL_law_701 rfl (lv_at hl 3 rfl) ?_
    refine lv_aload_n hx hb dL_law_702 rfl (lv_at hl 1 rfl) ?_
    refine lv_iload hx hb dL_law_703 (lv_at hl 5 rfl) ?_
    refine lv_iconst (v := 1) hx hb dL_law_705 (by decide) ?_
    refine lv_iadd hx hb dL_law_706 ?_
    refine lv_topi (fun tv etv => ?_)
    have etv : tv = nI (4 * i + 1) := etv.trans (nI_add (4 * i) 1)
    subst etv
    refine va_sld hx hb hS0 hbl hbA hI.2.2 (vp_in_nI (by omega) (by omega)) dL_law_707 ?_
    rw [show (nI (4 * i + 1)).toNatClampNeg = (4 * i + 1) from nI_clamp (by omega)]
    refine f_calli1 (va_runV (As := [.int (xs (4 * i + 1))]) (rest := []) ⟨hx, hb, hml, hown, hts⟩ (m_X5_go l hMS hMm hNW hN6 (by omega) hrv hok h99 (xs (4 * i + 1))) (cwV 1 hts gL_law_X5_go rfl rfl rfl (by decide +kernel) ⟨(Nat.le_of_ble_eq_true rfl), (Nat.le_of_ble_eq_true rfl)⟩) (fPre_ofV hG hI rfl (hMm 50 (by decide)) hMS1 rfl rfl) rfl rfl hl.1 rfl (lv_room (Nat.le_of_ble_eq_true rfl)) dL_law_708 ⟨(by show _ ≤ 601024; omega), (by show _ ≤ 7293034; omega)⟩) hI (fun r2 E2 H locs hp hI => ?_)
    rcases hp with ⟨hc2, hr2, hMS, hf2⟩ | ⟨hc2, hr2, hMS, hf2⟩
    · exact absurd (hce.symm.trans hc2) hc1
    · subst hr2
      have hXx := hXx.kept (fun q hq => hf2 q (by omega))
      have hO : E2 45 = _ := (hf2 45 (by omega)).trans hO
      have hT2 : T ≤ 200 * (i + 1) := by omega
      have hNW2 := hNW
      have hN62 := hN6
      have hrv2 := hrv
      have hok2 := hok
      have hrel2 := hrel
      have hMS2 := hMS.1.1
      refine lv_istore (lv' := [(6, .int 0), (5, .int (c_go (xs (4 * i + 1)))), (0, .ref b), (1, .ref (ad 0)), (2, .ref (ad 50)), (3, .ref (ad 45)), (4, .int (nI (4 * i)))]) hx hb dL_law_711 hl (by decide) rfl (fun ls hl => ?_)
      refine lv_aload_n hx hb dL_law_713 rfl (lv_at hl 4 rfl) ?_
      refine f_calli1 (va_runV (As := []) (rest := []) ⟨hx, hb, hml, hown, hts⟩ (m_X5_thrown l hMS hMm hNW2 hN62 (by omega) hrv2 hok2 h99) (cwV 0 hts gL_law_X5_thrown rfl rfl rfl (by decide +kernel) ⟨(Nat.le_of_ble_eq_true rfl), (Nat.le_of_ble_eq_true rfl)⟩) (fPre_ofV hG hI rfl (hMm 50 (by decide)) hMS2 rfl rfl) rfl rfl hl.1 rfl (lv_room (Nat.le_of_ble_eq_true rfl)) dL_law_714 ⟨(by show _ ≤ 601024; omega), (by show _ ≤ 7293034; omega)⟩) hI (fun r3 E3 H locs hp hI => ?_)
      obtain ⟨hr3, hq3⟩ := hp
      rw [hq3] at hI
      subst hr3
      refine lv_iload hx hb dL_law_717 (lv_at hl 1 rfl) ?_
      refine lv_icmp_eq (tgt := 724) hx hb dL_law_719 (by decide) (fun c_719 => ?_) (fun c_719 => ?_)
      · refine lv_iload hx hb dL_law_724 (lv_at hl 1 rfl) ?_
        refine lv_if_ne (tgt := 741) hx hb dL_law_726 (by decide) (fun c_726 => ?_) (fun c_726 => ?_)
        · refine lv_goto (tgt := 991) hx hb dL_law_741 (by decide) ?_
          exact kk _ H locs ls _ _ (by omega) (by omega) ⟨_, _, _, _, _, _, _, _, _, _, _, _, hT2, hNW2, hN62, hrv2, hok2, hrel2, hXx, hMS, hO⟩ hI (lv_sub hl [2, 3, 4, 5, 6] rfl)
        · exact absurd c_726 hc1
      · exact absurd hce c_719

set_option maxHeartbeats 4000000 in
set_option maxRecDepth 100000 in
theorem op_arrives (l : Launch) (hl9 : l.stackTraces = false) {pr : Program} {e : Env} {s : State} {m : MethodId} {args : Array Value} {below : List Frame} {meth : Method} {c : Code} {Q : State → Prop} (hx : pr.tables.exec = Jvm.exec) (hb : c.code = cL_law) (hml : c.maxLocals = 9) (hts : ∀ w ∈ wsL_law, w.before args s = true) (hown : s.vm.findClass RL = some m.cls) {D : va_G} {cI cJ cB : ClassId} {t0 z : Nat} {tx ad : Nat → Nat} {L : List Nat} (hG : fG D cI cJ cB t0 z tx s) (hXm : ∀ k, k < 5 ∨ (10 ≤ k ∧ k < 24) ∨ (30 ≤ k ∧ k < 44) → k ∈ L) (hMm : ∀ k, (50 ≤ k ∧ k < 55) ∨ (60 ≤ k ∧ k < 71) ∨ (80 ≤ k ∧ k < 91) → k ∈ L) (h45 : 45 ∈ L) (h99 : 99 ∉ L) {b Lx : Nat} {xs : Nat → Int32} (hL : Lx ≤ 2048) (hS0 : va_X b Lx xs s s.heap) (hbl : b < s.heap.size) (hbA : ¬ fA z b) {i : Nat} (hi : 4 * i + 4 ≤ Lx) {cells slots : Nat} (hc9 : cells ≤ 600000) (hs9 : slots ≤ 7000000) {E : Nat → va_E} {H : Heap} {locs : List Loc} {ls : Array Slot} (hv : law_inv cI cJ cB ad E i) (hI : fI D (fA z) s.heap ad L E H locs) (hl : lv_has ls 9 [(0, .ref b), (1, .ref (ad 0)), (2, .ref (ad 50)), (3, .ref (ad 45)), (4, .int (nI (4 * i)))]) (kk : ∀ (E1 : Nat → va_E) (H1 : Heap) (locs1 : List Loc) (ls1 : Array Slot) (c1 s1 : Nat), c1 ≤ cells + 70 → s1 ≤ slots + 600 → law_inv cI cJ cB ad E1 (i + 1) → fI D (fA z) s.heap ad L E1 H1 locs1 → lv_has ls1 9 [(0, .ref b), (1, .ref (ad 0)), (2, .ref (ad 50)), (3, .ref (ad 45)), (4, .int (nI (4 * i)))] → W pr l e room_1 s m args below meth c H1 locs1 c1 s1 Q (F0 m 991 ls1 [])) : W pr l e room_1 s m args below meth c H locs cells slots Q (F0 m 744 ls []) := by
  obtain ⟨th, w, p, g, nw, n, T, str, S, B, F, fo, hT, hNW, hN6, hrv, hok, hrel, hXx, hMS, hO⟩ := hv
  have h8 : ∀ i, i < n → B i 8 = 0 ∨ B i 8 = 1 := fun q hq => by rw [hrel.1 q hq]; exact mb_in q
  have hce : c_rank n (xs (4 * i + 1)) = c_rank n (xs (4 * i + 1)) := rfl
  refine lv_aload_n hx hb dL_law_744 rfl (lv_at hl 1 rfl) ?_
  refine lv_aload_n hx hb dL_law_745 rfl (lv_at hl 0 rfl) ?_
  refine lv_iload hx hb dL_law_746 (lv_at hl 4 rfl) ?_
  refine lv_iconst (v := 1) hx hb dL_law_748 (by decide) ?_
  refine lv_iadd hx hb dL_law_749 ?_
  refine lv_topi (fun tv etv => ?_)
  have etv : tv = nI (4 * i + 1) := etv.trans (nI_add (4 * i) 1)
  subst etv
  refine va_sld hx hb hS0 hbl hbA hI.2.2 (vp_in_nI (by omega) (by omega)) dL_law_750 ?_
  rw [show (nI (4 * i + 1)).toNatClampNeg = (4 * i + 1) from nI_clamp (by omega)]
  refine lv_aload_n hx hb dL_law_751 rfl (lv_at hl 3 rfl) ?_
  refine f_calli1 (vx_runSW (As := [.ref (ad 0), .int (xs (4 * i + 1)), .ref (ad 45)]) (rest := []) ⟨hx, hb, hml, hown, hts⟩ (m_L_arrives l hl9 hXx hNW hN6 (by omega) h8 hXm h45 hO (xs (4 * i + 1))) (vx_cwSW 3 hts gL_law_L_arrives rfl rfl rfl (by decide +kernel) ⟨(Nat.le_of_ble_eq_true rfl), (Nat.le_of_ble_eq_true rfl)⟩) (fPre_of hG hI) rfl rfl hl.1 rfl (lv_room (Nat.le_of_ble_eq_true rfl)) dL_law_752 ⟨(by show _ ≤ 601024; omega), (by show _ ≤ 7293034; omega)⟩) hI (fun r1 E1 H locs hp hI => ?_)
  rcases hp with ⟨hc1, hr1, hO, hXx, hf1⟩ | ⟨hc1, hr1, hq1⟩
  · subst hr1
    have hMS := hMS.kept (fun q a b => hf1 q (by omega) (by omega))
    have hMS1 := hMS.1.1
    refine lv_istore (lv' := [(5, .int 0), (0, .ref b), (1, .ref (ad 0)), (2, .ref (ad 50)), (3, .ref (ad 45)), (4, .int (nI (4 * i)))]) hx hb dL_law_755 hl (by decide) rfl (fun ls hl => ?_)
    refine lv_aload_n hx hb dL_law_757 rfl (lv_at hl 3 rfl) ?_
    refine lv_aload_n hx hb dL_law_758 rfl (lv_at hl 1 rfl) ?_
    refine lv_iload hx hb dL_law_759 (lv_at hl 5 rfl) ?_
    refine lv_iconst (v := 1) hx hb dL_law_761 (by decide) ?_
    refine lv_iadd hx hb dL_law_762 ?_
    refine lv_topi (fun tv etv => ?_)
    have etv : tv = nI (4 * i + 1) := etv.trans (nI_add (4 * i) 1)
    subst etv
    refine va_sld hx hb hS0 hbl hbA hI.2.2 (vp_in_nI (by omega) (by omega)) dL_law_763 ?_
    rw [show (nI (4 * i + 1)).toNatClampNeg = (4 * i + 1) from nI_clamp (by omega)]
    refine f_calli1 (va_runV (As := [.int (xs (4 * i + 1))]) (rest := []) ⟨hx, hb, hml, hown, hts⟩ (m_X5_arrives l hMS hMm hNW hN6 (by omega) hrv hok h99 (xs (4 * i + 1))) (cwV 1 hts gL_law_X5_arrives rfl rfl rfl (by decide +kernel) ⟨(Nat.le_of_ble_eq_true rfl), (Nat.le_of_ble_eq_true rfl)⟩) (fPre_ofV hG hI rfl (hMm 50 (by decide)) hMS1 rfl rfl) rfl rfl hl.1 rfl (lv_room (Nat.le_of_ble_eq_true rfl)) dL_law_764 ⟨(by show _ ≤ 601024; omega), (by show _ ≤ 7293034; omega)⟩) hI (fun r2 E2 H locs hp hI => ?_)
    rcases hp with ⟨hc2, hr2, hMS, hf2⟩ | ⟨hc2, hr2, hMS, hf2⟩
    · subst hr2
      have g1 := isb_u hN6 (cr_0 hc2)
      have hres : p_arr w p g nw T (F (xs (4 * i + 1)).toNatClampNeg) (B (xs (4 * i + 1)).toNatClampNeg) 0 401 = p_arr w p g nw T (m_row (S 9 (xs (4 * i + 1)).toNatClampNeg) (S 8 (xs (4 * i + 1)).toNatClampNeg)) (mb S str (xs (4 * i + 1)).toNatClampNeg) 0 401 := by rw [hrel.1 _ g1]; exact p_arr_congr (hok _ g1).1 (hrel.2.1 _ g1) (by omega)
      have hXx := hXx.kept (fun q hq => hf2 q (by omega))
      have hO : E2 45 = _ := (hf2 45 (by omega)).trans hO
      have hT2 : T ≤ 200 * (i + 1) := (by omega)
      have hNW2 : nw ≤ 6 := hNW
      have hN62 : n ≤ 6 := hN6
      have hrv2 : okr w p nw := hrv
      have hok2 : ∀ q, q < n → okb (mb S str q) := hok
      have hrel2 : rel n B F S str := hrel
      have hMS2 := hMS.1.1
      refine lv_istore (lv' := [(6, .int (p_arr w p g nw T (m_row (S 9 (xs (4 * i + 1)).toNatClampNeg) (S 8 (xs (4 * i + 1)).toNatClampNeg)) (mb S str (xs (4 * i + 1)).toNatClampNeg) 0 401)), (5, .int 0), (0, .ref b), (1, .ref (ad 0)), (2, .ref (ad 50)), (3, .ref (ad 45)), (4, .int (nI (4 * i)))]) hx hb dL_law_767 hl (by decide) rfl (fun ls hl => ?_)
      refine lv_aload_n hx hb dL_law_769 rfl (lv_at hl 4 rfl) ?_
      refine f_calli1 (va_runV (As := []) (rest := []) ⟨hx, hb, hml, hown, hts⟩ (m_X5_thrown l hMS hMm hNW2 hN62 (by omega) hrv2 hok2 h99) (cwV 0 hts gL_law_X5_thrown rfl rfl rfl (by decide +kernel) ⟨(Nat.le_of_ble_eq_true rfl), (Nat.le_of_ble_eq_true rfl)⟩) (fPre_ofV hG hI rfl (hMm 50 (by decide)) hMS2 rfl rfl) rfl rfl hl.1 rfl (lv_room (Nat.le_of_ble_eq_true rfl)) dL_law_770 ⟨(by show _ ≤ 601024; omega), (by show _ ≤ 7293034; omega)⟩) hI (fun r3 E3 H locs hp hI => ?_)
      obtain ⟨hr3, hq3⟩ := hp
      rw [hq3] at hI
      subst hr3
      refine lv_iload hx hb dL_law_773 (lv_at hl 1 rfl) ?_
      refine lv_icmp_eq (tgt := 780) hx hb dL_law_775 (by decide) (fun c_775 => ?_) (fun c_775 => ?_)
      · refine lv_iload hx hb dL_law_780 (lv_at hl 1 rfl) ?_
        refine lv_if_ne (tgt := 797) hx hb dL_law_782 (by decide) (fun c_782 => ?_) (fun c_782 => ?_)
        · exact absurd c_782 (by decide)
        · refine lv_aload_n hx hb dL_law_785 rfl (lv_at hl 5 rfl) ?_
          refine lv_iconst (v := 0) hx hb dL_law_786 (by decide) ?_
          refine f_lald hx hb hG.1 hI rfl h45 hO (vp_in_iff.mpr ⟨by decide, by decide⟩) dL_law_787 ?_
          refine lv_iload hx hb dL_law_788 (lv_at hl 0 rfl) ?_
          refine lv_i2l hx hb dL_law_790 rfl ?_
          refine f_lcmp hx hb (congrArg Int32.toInt64 hres) dL_law_791 ?_
          refine lv_if_eq (tgt := 797) hx hb dL_law_792 (by decide) (fun c_792 => ?_) (fun c_792 => ?_)
          · refine lv_goto (tgt := 991) hx hb dL_law_797 (by decide) ?_
            exact kk _ H locs ls _ _ (by omega) (by omega) ⟨_, _, _, _, _, _, _, _, _, _, _, _, hT2, hNW2, hN62, hrv2, hok2, hrel2, hXx, hMS, hO⟩ hI (lv_sub hl [2, 3, 4, 5, 6] rfl)
          · exact absurd c_792 (by decide)
      · exact absurd c_775 (by decide)
    · exact absurd (hce.trans hc1) hc2
  · rw [hq1] at hI
    subst hr1
    have hMS1 := hMS.1.1
    refine lv_istore (lv' := [(5, .int (c_rank n (xs (4 * i + 1)))), (0, .ref b), (1, .ref (ad 0)), (2, .ref (ad 50)), (3, .ref (ad 45)), (4, .int (nI (4 * i)))]) hx hb dL_law_755 hl (by decide) rfl (fun ls hl => ?_)
    refine lv_aload_n hx hb dL_law_757 rfl (lv_at hl 3 rfl) ?_
    refine lv_aload_n hx hb dL_law_758 rfl (lv_at hl 1 rfl) ?_
    refine lv_iload hx hb dL_law_759 (lv_at hl 5 rfl) ?_
    refine lv_iconst (v := 1) hx hb dL_law_761 (by decide) ?_
    refine lv_iadd hx hb dL_law_762 ?_
    refine lv_topi (fun tv etv => ?_)
    have etv : tv = nI (4 * i + 1) := etv.trans (nI_add (4 * i) 1)
    subst etv
    refine va_sld hx hb hS0 hbl hbA hI.2.2 (vp_in_nI (by omega) (by omega)) dL_law_763 ?_
    rw [show (nI (4 * i + 1)).toNatClampNeg = (4 * i + 1) from nI_clamp (by omega)]
    refine f_calli1 (va_runV (As := [.int (xs (4 * i + 1))]) (rest := []) ⟨hx, hb, hml, hown, hts⟩ (m_X5_arrives l hMS hMm hNW hN6 (by omega) hrv hok h99 (xs (4 * i + 1))) (cwV 1 hts gL_law_X5_arrives rfl rfl rfl (by decide +kernel) ⟨(Nat.le_of_ble_eq_true rfl), (Nat.le_of_ble_eq_true rfl)⟩) (fPre_ofV hG hI rfl (hMm 50 (by decide)) hMS1 rfl rfl) rfl rfl hl.1 rfl (lv_room (Nat.le_of_ble_eq_true rfl)) dL_law_764 ⟨(by show _ ≤ 601024; omega), (by show _ ≤ 7293034; omega)⟩) hI (fun r2 E2 H locs hp hI => ?_)
    rcases hp with ⟨hc2, hr2, hMS, hf2⟩ | ⟨hc2, hr2, hMS, hf2⟩
    · exact absurd (hce.symm.trans hc2) hc1
    · subst hr2
      have hXx := hXx.kept (fun q hq => hf2 q (by omega))
      have hO : E2 45 = _ := (hf2 45 (by omega)).trans hO
      have hT2 : T ≤ 200 * (i + 1) := by omega
      have hNW2 := hNW
      have hN62 := hN6
      have hrv2 := hrv
      have hok2 := hok
      have hrel2 := hrel
      have hMS2 := hMS.1.1
      refine lv_istore (lv' := [(6, .int 0), (5, .int (c_rank n (xs (4 * i + 1)))), (0, .ref b), (1, .ref (ad 0)), (2, .ref (ad 50)), (3, .ref (ad 45)), (4, .int (nI (4 * i)))]) hx hb dL_law_767 hl (by decide) rfl (fun ls hl => ?_)
      refine lv_aload_n hx hb dL_law_769 rfl (lv_at hl 4 rfl) ?_
      refine f_calli1 (va_runV (As := []) (rest := []) ⟨hx, hb, hml, hown, hts⟩ (m_X5_thrown l hMS hMm hNW2 hN62 (by omega) hrv2 hok2 h99) (cwV 0 hts gL_law_X5_thrown rfl rfl rfl (by decide +kernel) ⟨(Nat.le_of_ble_eq_true rfl), (Nat.le_of_ble_eq_true rfl)⟩) (fPre_ofV hG hI rfl (hMm 50 (by decide)) hMS2 rfl rfl) rfl rfl hl.1 rfl (lv_room (Nat.le_of_ble_eq_true rfl)) dL_law_770 ⟨(by show _ ≤ 601024; omega), (by show _ ≤ 7293034; omega)⟩) hI (fun r3 E3 H locs hp hI => ?_)
      obtain ⟨hr3, hq3⟩ := hp
      rw [hq3] at hI
      subst hr3
      refine lv_iload hx hb dL_law_773 (lv_at hl 1 rfl) ?_
      refine lv_icmp_eq (tgt := 780) hx hb dL_law_775 (by decide) (fun c_775 => ?_) (fun c_775 => ?_)
      · refine lv_iload hx hb dL_law_780 (lv_at hl 1 rfl) ?_
        refine lv_if_ne (tgt := 797) hx hb dL_law_782 (by decide) (fun c_782 => ?_) (fun c_782 => ?_)
        · refine lv_goto (tgt := 991) hx hb dL_law_797 (by decide) ?_
          exact kk _ H locs ls _ _ (by omega) (by omega) ⟨_, _, _, _, _, _, _, _, _, _, _, _, hT2, hNW2, hN62, hrv2, hok2, hrel2, hXx, hMS, hO⟩ hI (lv_sub hl [2, 3, 4, 5, 6] rfl)
        · exact absurd c_782 hc1
      · exact absurd hce c_775

set_option maxHeartbeats 4000000 in
set_option maxRecDepth 100000 in
theorem op_foresee (l : Launch) (hl9 : l.stackTraces = false) {pr : Program} {e : Env} {s : State} {m : MethodId} {args : Array Value} {below : List Frame} {meth : Method} {c : Code} {Q : State → Prop} (hx : pr.tables.exec = Jvm.exec) (hb : c.code = cL_law) (hml : c.maxLocals = 9) (hts : ∀ w ∈ wsL_law, w.before args s = true) (hown : s.vm.findClass RL = some m.cls) {D : va_G} {cI cJ cB : ClassId} {t0 z : Nat} {tx ad : Nat → Nat} {L : List Nat} (hG : fG D cI cJ cB t0 z tx s) (hXm : ∀ k, k < 5 ∨ (10 ≤ k ∧ k < 24) ∨ (30 ≤ k ∧ k < 44) → k ∈ L) (hMm : ∀ k, (50 ≤ k ∧ k < 55) ∨ (60 ≤ k ∧ k < 71) ∨ (80 ≤ k ∧ k < 91) → k ∈ L) (h45 : 45 ∈ L) (h99 : 99 ∉ L) {b Lx : Nat} {xs : Nat → Int32} (hL : Lx ≤ 2048) (hS0 : va_X b Lx xs s s.heap) (hbl : b < s.heap.size) (hbA : ¬ fA z b) {i : Nat} (hi : 4 * i + 4 ≤ Lx) {cells slots : Nat} (hc9 : cells ≤ 600000) (hs9 : slots ≤ 7000000) {E : Nat → va_E} {H : Heap} {locs : List Loc} {ls : Array Slot} (hv : law_inv cI cJ cB ad E i) (hI : fI D (fA z) s.heap ad L E H locs) (hl : lv_has ls 9 [(0, .ref b), (1, .ref (ad 0)), (2, .ref (ad 50)), (3, .ref (ad 45)), (4, .int (nI (4 * i)))]) (kk : ∀ (E1 : Nat → va_E) (H1 : Heap) (locs1 : List Loc) (ls1 : Array Slot) (c1 s1 : Nat), c1 ≤ cells + 70 → s1 ≤ slots + 600 → law_inv cI cJ cB ad E1 (i + 1) → fI D (fA z) s.heap ad L E1 H1 locs1 → lv_has ls1 9 [(0, .ref b), (1, .ref (ad 0)), (2, .ref (ad 50)), (3, .ref (ad 45)), (4, .int (nI (4 * i)))] → W pr l e room_1 s m args below meth c H1 locs1 c1 s1 Q (F0 m 991 ls1 [])) : W pr l e room_1 s m args below meth c H locs cells slots Q (F0 m 800 ls []) := by
  obtain ⟨th, w, p, g, nw, n, T, str, S, B, F, fo, hT, hNW, hN6, hrv, hok, hrel, hXx, hMS, hO⟩ := hv
  have h8 : ∀ i, i < n → B i 8 = 0 ∨ B i 8 = 1 := fun q hq => by rw [hrel.1 q hq]; exact mb_in q
  have hce : c_foresee (xs (4 * i + 1)) (xs (4 * i + 2)) = c_foresee (xs (4 * i + 1)) (xs (4 * i + 2)) := rfl
  refine lv_aload_n hx hb dL_law_800 rfl (lv_at hl 1 rfl) ?_
  refine lv_aload_n hx hb dL_law_801 rfl (lv_at hl 0 rfl) ?_
  refine lv_iload hx hb dL_law_802 (lv_at hl 4 rfl) ?_
  refine lv_iconst (v := 1) hx hb dL_law_804 (by decide) ?_
  refine lv_iadd hx hb dL_law_805 ?_
  refine lv_topi (fun tv etv => ?_)
  have etv : tv = nI (4 * i + 1) := etv.trans (nI_add (4 * i) 1)
  subst etv
  refine va_sld hx hb hS0 hbl hbA hI.2.2 (vp_in_nI (by omega) (by omega)) dL_law_806 ?_
  rw [show (nI (4 * i + 1)).toNatClampNeg = (4 * i + 1) from nI_clamp (by omega)]
  refine lv_aload_n hx hb dL_law_807 rfl (lv_at hl 0 rfl) ?_
  refine lv_iload hx hb dL_law_808 (lv_at hl 4 rfl) ?_
  refine lv_iconst (v := 2) hx hb dL_law_810 (by decide) ?_
  refine lv_iadd hx hb dL_law_811 ?_
  refine lv_topi (fun tv etv => ?_)
  have etv : tv = nI (4 * i + 2) := etv.trans (nI_add (4 * i) 2)
  subst etv
  refine va_sld hx hb hS0 hbl hbA hI.2.2 (vp_in_nI (by omega) (by omega)) dL_law_812 ?_
  rw [show (nI (4 * i + 2)).toNatClampNeg = (4 * i + 2) from nI_clamp (by omega)]
  refine lv_aload_n hx hb dL_law_813 rfl (lv_at hl 3 rfl) ?_
  refine f_calli1 (vx_runSW (As := [.ref (ad 0), .int (xs (4 * i + 1)), .int (xs (4 * i + 2)), .ref (ad 45)]) (rest := []) ⟨hx, hb, hml, hown, hts⟩ (m_L_foresee l hl9 hXx hNW hN6 (by omega) h8 hXm h45 hO (xs (4 * i + 1)) (xs (4 * i + 2))) (vx_cwSW 4 hts gL_law_L_foresee rfl rfl rfl (by decide +kernel) ⟨(Nat.le_of_ble_eq_true rfl), (Nat.le_of_ble_eq_true rfl)⟩) (fPre_of hG hI) rfl rfl hl.1 rfl (lv_room (Nat.le_of_ble_eq_true rfl)) dL_law_814 ⟨(by show _ ≤ 601024; omega), (by show _ ≤ 7293034; omega)⟩) hI (fun r1 E1 H locs hp hI => ?_)
  rcases hp with ⟨hc1, hr1, hO, hXx, hf1⟩ | ⟨hc1, hr1, hq1⟩
  · subst hr1
    have hMS := hMS.kept (fun q a b => hf1 q (by omega) (by omega))
    have hMS1 := hMS.1.1
    refine lv_istore (lv' := [(5, .int 0), (0, .ref b), (1, .ref (ad 0)), (2, .ref (ad 50)), (3, .ref (ad 45)), (4, .int (nI (4 * i)))]) hx hb dL_law_817 hl (by decide) rfl (fun ls hl => ?_)
    refine lv_aload_n hx hb dL_law_819 rfl (lv_at hl 3 rfl) ?_
    refine lv_aload_n hx hb dL_law_820 rfl (lv_at hl 1 rfl) ?_
    refine lv_iload hx hb dL_law_821 (lv_at hl 5 rfl) ?_
    refine lv_iconst (v := 1) hx hb dL_law_823 (by decide) ?_
    refine lv_iadd hx hb dL_law_824 ?_
    refine lv_topi (fun tv etv => ?_)
    have etv : tv = nI (4 * i + 1) := etv.trans (nI_add (4 * i) 1)
    subst etv
    refine va_sld hx hb hS0 hbl hbA hI.2.2 (vp_in_nI (by omega) (by omega)) dL_law_825 ?_
    rw [show (nI (4 * i + 1)).toNatClampNeg = (4 * i + 1) from nI_clamp (by omega)]
    refine lv_aload_n hx hb dL_law_826 rfl (lv_at hl 1 rfl) ?_
    refine lv_iload hx hb dL_law_827 (lv_at hl 5 rfl) ?_
    refine lv_iconst (v := 2) hx hb dL_law_829 (by decide) ?_
    refine lv_iadd hx hb dL_law_830 ?_
    refine lv_topi (fun tv etv => ?_)
    have etv : tv = nI (4 * i + 2) := etv.trans (nI_add (4 * i) 2)
    subst etv
    refine va_sld hx hb hS0 hbl hbA hI.2.2 (vp_in_nI (by omega) (by omega)) dL_law_831 ?_
    rw [show (nI (4 * i + 2)).toNatClampNeg = (4 * i + 2) from nI_clamp (by omega)]
    refine f_calli1 (va_runV (As := [.int (xs (4 * i + 1)), .int (xs (4 * i + 2))]) (rest := []) ⟨hx, hb, hml, hown, hts⟩ (m_X5_foresee l hMS hMm hNW hN6 (by omega) hrv hok h99 (xs (4 * i + 1)) (xs (4 * i + 2))) (cwV 2 hts gL_law_X5_foresee rfl rfl rfl (by decide +kernel) ⟨(Nat.le_of_ble_eq_true rfl), (Nat.le_of_ble_eq_true rfl)⟩) (fPre_ofV hG hI rfl (hMm 50 (by decide)) hMS1 rfl rfl) rfl rfl hl.1 rfl (lv_room (Nat.le_of_ble_eq_true rfl)) dL_law_832 ⟨(by show _ ≤ 601024; omega), (by show _ ≤ 7293034; omega)⟩) hI (fun r2 E2 H locs hp hI => ?_)
    rcases hp with ⟨hc2, hr2, hMS, hf2⟩ | ⟨hc2, hr2, hMS, hf2⟩
    · subst hr2
      have g1 := cf_0 hc2
      have hres : p_cnt nw n (T + (xs (4 * i + 1)).toNatClampNeg) (p_run w p g nw T n F B (xs (4 * i + 1)).toNatClampNeg) (xs (4 * i + 2)).toNatClampNeg = p_cnt nw n (T + (xs (4 * i + 1)).toNatClampNeg) (mb (m_run w p g nw T n str S (xs (4 * i + 1)).toNatClampNeg) str) (xs (4 * i + 2)).toNatClampNeg := p_cnt_congr (p_run_eq hrv hok hrel.1 hrel.2.1 (by omega)) _
      have hXx := hXx.kept (fun q hq => hf2 q (by omega))
      have hO : E2 45 = _ := (hf2 45 (by omega)).trans hO
      have hT2 : T ≤ 200 * (i + 1) := (by omega)
      have hNW2 : nw ≤ 6 := hNW
      have hN62 : n ≤ 6 := hN6
      have hrv2 : okr w p nw := hrv
      have hok2 : ∀ q, q < n → okb (mb S str q) := hok
      have hrel2 : rel n B F S str := hrel
      have hMS2 := hMS.1.1
      refine lv_istore (lv' := [(6, .int (p_cnt nw n (T + (xs (4 * i + 1)).toNatClampNeg) (mb (m_run w p g nw T n str S (xs (4 * i + 1)).toNatClampNeg) str) (xs (4 * i + 2)).toNatClampNeg)), (5, .int 0), (0, .ref b), (1, .ref (ad 0)), (2, .ref (ad 50)), (3, .ref (ad 45)), (4, .int (nI (4 * i)))]) hx hb dL_law_835 hl (by decide) rfl (fun ls hl => ?_)
      refine lv_aload_n hx hb dL_law_837 rfl (lv_at hl 4 rfl) ?_
      refine f_calli1 (va_runV (As := []) (rest := []) ⟨hx, hb, hml, hown, hts⟩ (m_X5_thrown l hMS hMm hNW2 hN62 (by omega) hrv2 hok2 h99) (cwV 0 hts gL_law_X5_thrown rfl rfl rfl (by decide +kernel) ⟨(Nat.le_of_ble_eq_true rfl), (Nat.le_of_ble_eq_true rfl)⟩) (fPre_ofV hG hI rfl (hMm 50 (by decide)) hMS2 rfl rfl) rfl rfl hl.1 rfl (lv_room (Nat.le_of_ble_eq_true rfl)) dL_law_838 ⟨(by show _ ≤ 601024; omega), (by show _ ≤ 7293034; omega)⟩) hI (fun r3 E3 H locs hp hI => ?_)
      obtain ⟨hr3, hq3⟩ := hp
      rw [hq3] at hI
      subst hr3
      refine lv_iload hx hb dL_law_841 (lv_at hl 1 rfl) ?_
      refine lv_icmp_eq (tgt := 848) hx hb dL_law_843 (by decide) (fun c_843 => ?_) (fun c_843 => ?_)
      · refine lv_iload hx hb dL_law_848 (lv_at hl 1 rfl) ?_
        refine lv_if_ne (tgt := 865) hx hb dL_law_850 (by decide) (fun c_850 => ?_) (fun c_850 => ?_)
        · exact absurd c_850 (by decide)
        · refine lv_aload_n hx hb dL_law_853 rfl (lv_at hl 5 rfl) ?_
          refine lv_iconst (v := 0) hx hb dL_law_854 (by decide) ?_
          refine f_lald hx hb hG.1 hI rfl h45 hO (vp_in_iff.mpr ⟨by decide, by decide⟩) dL_law_855 ?_
          refine lv_iload hx hb dL_law_856 (lv_at hl 0 rfl) ?_
          refine lv_i2l hx hb dL_law_858 rfl ?_
          refine f_lcmp hx hb (congrArg Int32.toInt64 hres) dL_law_859 ?_
          refine lv_if_eq (tgt := 865) hx hb dL_law_860 (by decide) (fun c_860 => ?_) (fun c_860 => ?_)
          · refine lv_goto (tgt := 991) hx hb dL_law_865 (by decide) ?_
            exact kk _ H locs ls _ _ (by omega) (by omega) ⟨_, _, _, _, _, _, _, _, _, _, _, _, hT2, hNW2, hN62, hrv2, hok2, hrel2, hXx, hMS, hO⟩ hI (lv_sub hl [2, 3, 4, 5, 6] rfl)
          · exact absurd c_860 (by decide)
      · exact absurd c_843 (by decide)
    · exact absurd (hce.trans hc1) hc2
  · rw [hq1] at hI
    subst hr1
    have hMS1 := hMS.1.1
    refine lv_istore (lv' := [(5, .int (c_foresee (xs (4 * i + 1)) (xs (4 * i + 2)))), (0, .ref b), (1, .ref (ad 0)), (2, .ref (ad 50)), (3, .ref (ad 45)), (4, .int (nI (4 * i)))]) hx hb dL_law_817 hl (by decide) rfl (fun ls hl => ?_)
    refine lv_aload_n hx hb dL_law_819 rfl (lv_at hl 3 rfl) ?_
    refine lv_aload_n hx hb dL_law_820 rfl (lv_at hl 1 rfl) ?_
    refine lv_iload hx hb dL_law_821 (lv_at hl 5 rfl) ?_
    refine lv_iconst (v := 1) hx hb dL_law_823 (by decide) ?_
    refine lv_iadd hx hb dL_law_824 ?_
    refine lv_topi (fun tv etv => ?_)
    have etv : tv = nI (4 * i + 1) := etv.trans (nI_add (4 * i) 1)
    subst etv
    refine va_sld hx hb hS0 hbl hbA hI.2.2 (vp_in_nI (by omega) (by omega)) dL_law_825 ?_
    rw [show (nI (4 * i + 1)).toNatClampNeg = (4 * i + 1) from nI_clamp (by omega)]
    refine lv_aload_n hx hb dL_law_826 rfl (lv_at hl 1 rfl) ?_
    refine lv_iload hx hb dL_law_827 (lv_at hl 5 rfl) ?_
    refine lv_iconst (v := 2) hx hb dL_law_829 (by decide) ?_
    refine lv_iadd hx hb dL_law_830 ?_
    refine lv_topi (fun tv etv => ?_)
    have etv : tv = nI (4 * i + 2) := etv.trans (nI_add (4 * i) 2)
    subst etv
    refine va_sld hx hb hS0 hbl hbA hI.2.2 (vp_in_nI (by omega) (by omega)) dL_law_831 ?_
    rw [show (nI (4 * i + 2)).toNatClampNeg = (4 * i + 2) from nI_clamp (by omega)]
    refine f_calli1 (va_runV (As := [.int (xs (4 * i + 1)), .int (xs (4 * i + 2))]) (rest := []) ⟨hx, hb, hml, hown, hts⟩ (m_X5_foresee l hMS hMm hNW hN6 (by omega) hrv hok h99 (xs (4 * i + 1)) (xs (4 * i + 2))) (cwV 2 hts gL_law_X5_foresee rfl rfl rfl (by decide +kernel) ⟨(Nat.le_of_ble_eq_true rfl), (Nat.le_of_ble_eq_true rfl)⟩) (fPre_ofV hG hI rfl (hMm 50 (by decide)) hMS1 rfl rfl) rfl rfl hl.1 rfl (lv_room (Nat.le_of_ble_eq_true rfl)) dL_law_832 ⟨(by show _ ≤ 601024; omega), (by show _ ≤ 7293034; omega)⟩) hI (fun r2 E2 H locs hp hI => ?_)
    rcases hp with ⟨hc2, hr2, hMS, hf2⟩ | ⟨hc2, hr2, hMS, hf2⟩
    · exact absurd (hce.symm.trans hc2) hc1
    · subst hr2
      have hXx := hXx.kept (fun q hq => hf2 q (by omega))
      have hO : E2 45 = _ := (hf2 45 (by omega)).trans hO
      have hT2 : T ≤ 200 * (i + 1) := by omega
      have hNW2 := hNW
      have hN62 := hN6
      have hrv2 := hrv
      have hok2 := hok
      have hrel2 := hrel
      have hMS2 := hMS.1.1
      refine lv_istore (lv' := [(6, .int 0), (5, .int (c_foresee (xs (4 * i + 1)) (xs (4 * i + 2)))), (0, .ref b), (1, .ref (ad 0)), (2, .ref (ad 50)), (3, .ref (ad 45)), (4, .int (nI (4 * i)))]) hx hb dL_law_835 hl (by decide) rfl (fun ls hl => ?_)
      refine lv_aload_n hx hb dL_law_837 rfl (lv_at hl 4 rfl) ?_
      refine f_calli1 (va_runV (As := []) (rest := []) ⟨hx, hb, hml, hown, hts⟩ (m_X5_thrown l hMS hMm hNW2 hN62 (by omega) hrv2 hok2 h99) (cwV 0 hts gL_law_X5_thrown rfl rfl rfl (by decide +kernel) ⟨(Nat.le_of_ble_eq_true rfl), (Nat.le_of_ble_eq_true rfl)⟩) (fPre_ofV hG hI rfl (hMm 50 (by decide)) hMS2 rfl rfl) rfl rfl hl.1 rfl (lv_room (Nat.le_of_ble_eq_true rfl)) dL_law_838 ⟨(by show _ ≤ 601024; omega), (by show _ ≤ 7293034; omega)⟩) hI (fun r3 E3 H locs hp hI => ?_)
      obtain ⟨hr3, hq3⟩ := hp
      rw [hq3] at hI
      subst hr3
      refine lv_iload hx hb dL_law_841 (lv_at hl 1 rfl) ?_
      refine lv_icmp_eq (tgt := 848) hx hb dL_law_843 (by decide) (fun c_843 => ?_) (fun c_843 => ?_)
      · refine lv_iload hx hb dL_law_848 (lv_at hl 1 rfl) ?_
        refine lv_if_ne (tgt := 865) hx hb dL_law_850 (by decide) (fun c_850 => ?_) (fun c_850 => ?_)
        · refine lv_goto (tgt := 991) hx hb dL_law_865 (by decide) ?_
          exact kk _ H locs ls _ _ (by omega) (by omega) ⟨_, _, _, _, _, _, _, _, _, _, _, _, hT2, hNW2, hN62, hrv2, hok2, hrel2, hXx, hMS, hO⟩ hI (lv_sub hl [2, 3, 4, 5, 6] rfl)
        · exact absurd c_850 hc1
      · exact absurd hce c_843

set_option maxHeartbeats 4000000 in
set_option maxRecDepth 100000 in
theorem op_advise (l : Launch) (hl9 : l.stackTraces = false) {pr : Program} {e : Env} {s : State} {m : MethodId} {args : Array Value} {below : List Frame} {meth : Method} {c : Code} {Q : State → Prop} (hx : pr.tables.exec = Jvm.exec) (hb : c.code = cL_law) (hml : c.maxLocals = 9) (hts : ∀ w ∈ wsL_law, w.before args s = true) (hown : s.vm.findClass RL = some m.cls) {D : va_G} {cI cJ cB : ClassId} {t0 z : Nat} {tx ad : Nat → Nat} {L : List Nat} (hG : fG D cI cJ cB t0 z tx s) (hXm : ∀ k, k < 5 ∨ (10 ≤ k ∧ k < 24) ∨ (30 ≤ k ∧ k < 44) → k ∈ L) (hMm : ∀ k, (50 ≤ k ∧ k < 55) ∨ (60 ≤ k ∧ k < 71) ∨ (80 ≤ k ∧ k < 91) → k ∈ L) (h45 : 45 ∈ L) (h99 : 99 ∉ L) {b Lx : Nat} {xs : Nat → Int32} (hL : Lx ≤ 2048) (hS0 : va_X b Lx xs s s.heap) (hbl : b < s.heap.size) (hbA : ¬ fA z b) {i : Nat} (hi : 4 * i + 4 ≤ Lx) {cells slots : Nat} (hc9 : cells ≤ 600000) (hs9 : slots ≤ 7000000) {E : Nat → va_E} {H : Heap} {locs : List Loc} {ls : Array Slot} (hv : law_inv cI cJ cB ad E i) (hI : fI D (fA z) s.heap ad L E H locs) (hl : lv_has ls 9 [(0, .ref b), (1, .ref (ad 0)), (2, .ref (ad 50)), (3, .ref (ad 45)), (4, .int (nI (4 * i)))]) (kk : ∀ (E1 : Nat → va_E) (H1 : Heap) (locs1 : List Loc) (ls1 : Array Slot) (c1 s1 : Nat), c1 ≤ cells + 70 → s1 ≤ slots + 600 → law_inv cI cJ cB ad E1 (i + 1) → fI D (fA z) s.heap ad L E1 H1 locs1 → lv_has ls1 9 [(0, .ref b), (1, .ref (ad 0)), (2, .ref (ad 50)), (3, .ref (ad 45)), (4, .int (nI (4 * i)))] → W pr l e room_1 s m args below meth c H1 locs1 c1 s1 Q (F0 m 991 ls1 [])) : W pr l e room_1 s m args below meth c H locs cells slots Q (F0 m 868 ls []) := by
  obtain ⟨th, w, p, g, nw, n, T, str, S, B, F, fo, hT, hNW, hN6, hrv, hok, hrel, hXx, hMS, hO⟩ := hv
  have h8 : ∀ i, i < n → B i 8 = 0 ∨ B i 8 = 1 := fun q hq => by rw [hrel.1 q hq]; exact mb_in q
  have hce : c_advise n (xs (4 * i + 1)) (xs (4 * i + 2)) = c_advise n (xs (4 * i + 1)) (xs (4 * i + 2)) := rfl
  refine lv_aload_n hx hb dL_law_868 rfl (lv_at hl 1 rfl) ?_
  refine lv_aload_n hx hb dL_law_869 rfl (lv_at hl 0 rfl) ?_
  refine lv_iload hx hb dL_law_870 (lv_at hl 4 rfl) ?_
  refine lv_iconst (v := 1) hx hb dL_law_872 (by decide) ?_
  refine lv_iadd hx hb dL_law_873 ?_
  refine lv_topi (fun tv etv => ?_)
  have etv : tv = nI (4 * i + 1) := etv.trans (nI_add (4 * i) 1)
  subst etv
  refine va_sld hx hb hS0 hbl hbA hI.2.2 (vp_in_nI (by omega) (by omega)) dL_law_874 ?_
  rw [show (nI (4 * i + 1)).toNatClampNeg = (4 * i + 1) from nI_clamp (by omega)]
  refine lv_aload_n hx hb dL_law_875 rfl (lv_at hl 0 rfl) ?_
  refine lv_iload hx hb dL_law_876 (lv_at hl 4 rfl) ?_
  refine lv_iconst (v := 2) hx hb dL_law_878 (by decide) ?_
  refine lv_iadd hx hb dL_law_879 ?_
  refine lv_topi (fun tv etv => ?_)
  have etv : tv = nI (4 * i + 2) := etv.trans (nI_add (4 * i) 2)
  subst etv
  refine va_sld hx hb hS0 hbl hbA hI.2.2 (vp_in_nI (by omega) (by omega)) dL_law_880 ?_
  rw [show (nI (4 * i + 2)).toNatClampNeg = (4 * i + 2) from nI_clamp (by omega)]
  refine lv_aload_n hx hb dL_law_881 rfl (lv_at hl 3 rfl) ?_
  refine f_calli1 (vx_runSW (As := [.ref (ad 0), .int (xs (4 * i + 1)), .int (xs (4 * i + 2)), .ref (ad 45)]) (rest := []) ⟨hx, hb, hml, hown, hts⟩ (m_L_advise l hl9 hXx hNW hN6 (by omega) h8 hXm h45 hO (xs (4 * i + 1)) (xs (4 * i + 2))) (vx_cwSW 4 hts gL_law_L_advise rfl rfl rfl (by decide +kernel) ⟨(Nat.le_of_ble_eq_true rfl), (Nat.le_of_ble_eq_true rfl)⟩) (fPre_of hG hI) rfl rfl hl.1 rfl (lv_room (Nat.le_of_ble_eq_true rfl)) dL_law_882 ⟨(by show _ ≤ 601024; omega), (by show _ ≤ 7293034; omega)⟩) hI (fun r1 E1 H locs hp hI => ?_)
  rcases hp with ⟨hc1, hr1, hO, hXx, hf1⟩ | ⟨hc1, hr1, hq1⟩
  · subst hr1
    have hMS := hMS.kept (fun q a b => hf1 q (by omega) (by omega))
    have hMS1 := hMS.1.1
    refine lv_istore (lv' := [(5, .int 0), (0, .ref b), (1, .ref (ad 0)), (2, .ref (ad 50)), (3, .ref (ad 45)), (4, .int (nI (4 * i)))]) hx hb dL_law_885 hl (by decide) rfl (fun ls hl => ?_)
    refine lv_aload_n hx hb dL_law_887 rfl (lv_at hl 3 rfl) ?_
    refine lv_aload_n hx hb dL_law_888 rfl (lv_at hl 1 rfl) ?_
    refine lv_iload hx hb dL_law_889 (lv_at hl 5 rfl) ?_
    refine lv_iconst (v := 1) hx hb dL_law_891 (by decide) ?_
    refine lv_iadd hx hb dL_law_892 ?_
    refine lv_topi (fun tv etv => ?_)
    have etv : tv = nI (4 * i + 1) := etv.trans (nI_add (4 * i) 1)
    subst etv
    refine va_sld hx hb hS0 hbl hbA hI.2.2 (vp_in_nI (by omega) (by omega)) dL_law_893 ?_
    rw [show (nI (4 * i + 1)).toNatClampNeg = (4 * i + 1) from nI_clamp (by omega)]
    refine lv_aload_n hx hb dL_law_894 rfl (lv_at hl 1 rfl) ?_
    refine lv_iload hx hb dL_law_895 (lv_at hl 5 rfl) ?_
    refine lv_iconst (v := 2) hx hb dL_law_897 (by decide) ?_
    refine lv_iadd hx hb dL_law_898 ?_
    refine lv_topi (fun tv etv => ?_)
    have etv : tv = nI (4 * i + 2) := etv.trans (nI_add (4 * i) 2)
    subst etv
    refine va_sld hx hb hS0 hbl hbA hI.2.2 (vp_in_nI (by omega) (by omega)) dL_law_899 ?_
    rw [show (nI (4 * i + 2)).toNatClampNeg = (4 * i + 2) from nI_clamp (by omega)]
    refine f_calli1 (va_runV (As := [.int (xs (4 * i + 1)), .int (xs (4 * i + 2))]) (rest := []) ⟨hx, hb, hml, hown, hts⟩ (m_X5_advise l hMS hMm hNW hN6 (by omega) hrv hok h99 (xs (4 * i + 1)) (xs (4 * i + 2))) (cwV 2 hts gL_law_X5_advise rfl rfl rfl (by decide +kernel) ⟨(Nat.le_of_ble_eq_true rfl), (Nat.le_of_ble_eq_true rfl)⟩) (fPre_ofV hG hI rfl (hMm 50 (by decide)) hMS1 rfl rfl) rfl rfl hl.1 rfl (lv_room (Nat.le_of_ble_eq_true rfl)) dL_law_900 ⟨(by show _ ≤ 601024; omega), (by show _ ≤ 7293034; omega)⟩) hI (fun r2 E2 H locs hp hI => ?_)
    rcases hp with ⟨hc2, hr2, hMS, hf2⟩ | ⟨hc2, hr2, hMS, hf2⟩
    · subst hr2
      have g1 := ca_0 hc2
      have g2 := isb_u hN6 g1.1
      have hres : (p_advi w p g nw T (F (xs (4 * i + 1)).toNatClampNeg) (B (xs (4 * i + 1)).toNatClampNeg) (xs (4 * i + 2)).toNatClampNeg 16).1 = (m_adv w p g nw T n str S (xs (4 * i + 1)).toNatClampNeg (xs (4 * i + 2)).toNatClampNeg 34).1 := by rw [adv_eq hrv hok hrel g2 (by omega)]
      have hXx := hXx.kept (fun q hq => hf2 q (by omega))
      have hO : E2 45 = _ := (hf2 45 (by omega)).trans hO
      have hT2 : T ≤ 200 * (i + 1) := (by omega)
      have hNW2 : nw ≤ 6 := hNW
      have hN62 : n ≤ 6 := hN6
      have hrv2 : okr w p nw := hrv
      have hok2 : ∀ q, q < n → okb (mb S str q) := hok
      have hrel2 : rel n B F S str := hrel
      have hMS2 := hMS.1.1
      refine lv_istore (lv' := [(6, .int ((m_adv w p g nw T n str S (xs (4 * i + 1)).toNatClampNeg (xs (4 * i + 2)).toNatClampNeg 34).1)), (5, .int 0), (0, .ref b), (1, .ref (ad 0)), (2, .ref (ad 50)), (3, .ref (ad 45)), (4, .int (nI (4 * i)))]) hx hb dL_law_903 hl (by decide) rfl (fun ls hl => ?_)
      refine lv_aload_n hx hb dL_law_905 rfl (lv_at hl 4 rfl) ?_
      refine f_calli1 (va_runV (As := []) (rest := []) ⟨hx, hb, hml, hown, hts⟩ (m_X5_thrown l hMS hMm hNW2 hN62 (by omega) hrv2 hok2 h99) (cwV 0 hts gL_law_X5_thrown rfl rfl rfl (by decide +kernel) ⟨(Nat.le_of_ble_eq_true rfl), (Nat.le_of_ble_eq_true rfl)⟩) (fPre_ofV hG hI rfl (hMm 50 (by decide)) hMS2 rfl rfl) rfl rfl hl.1 rfl (lv_room (Nat.le_of_ble_eq_true rfl)) dL_law_906 ⟨(by show _ ≤ 601024; omega), (by show _ ≤ 7293034; omega)⟩) hI (fun r3 E3 H locs hp hI => ?_)
      obtain ⟨hr3, hq3⟩ := hp
      rw [hq3] at hI
      subst hr3
      refine lv_iload hx hb dL_law_909 (lv_at hl 1 rfl) ?_
      refine lv_icmp_eq (tgt := 916) hx hb dL_law_911 (by decide) (fun c_911 => ?_) (fun c_911 => ?_)
      · refine lv_iload hx hb dL_law_916 (lv_at hl 1 rfl) ?_
        refine lv_if_ne (tgt := 933) hx hb dL_law_918 (by decide) (fun c_918 => ?_) (fun c_918 => ?_)
        · exact absurd c_918 (by decide)
        · refine lv_aload_n hx hb dL_law_921 rfl (lv_at hl 5 rfl) ?_
          refine lv_iconst (v := 0) hx hb dL_law_922 (by decide) ?_
          refine f_lald hx hb hG.1 hI rfl h45 hO (vp_in_iff.mpr ⟨by decide, by decide⟩) dL_law_923 ?_
          refine lv_iload hx hb dL_law_924 (lv_at hl 0 rfl) ?_
          refine lv_i2l hx hb dL_law_926 rfl ?_
          refine f_lcmp hx hb (congrArg Int32.toInt64 hres) dL_law_927 ?_
          refine lv_if_eq (tgt := 933) hx hb dL_law_928 (by decide) (fun c_928 => ?_) (fun c_928 => ?_)
          · refine lv_goto (tgt := 991) hx hb dL_law_933 (by decide) ?_
            exact kk _ H locs ls _ _ (by omega) (by omega) ⟨_, _, _, _, _, _, _, _, _, _, _, _, hT2, hNW2, hN62, hrv2, hok2, hrel2, hXx, hMS, hO⟩ hI (lv_sub hl [2, 3, 4, 5, 6] rfl)
          · exact absurd c_928 (by decide)
      · exact absurd c_911 (by decide)
    · exact absurd (hce.trans hc1) hc2
  · rw [hq1] at hI
    subst hr1
    have hMS1 := hMS.1.1
    refine lv_istore (lv' := [(5, .int (c_advise n (xs (4 * i + 1)) (xs (4 * i + 2)))), (0, .ref b), (1, .ref (ad 0)), (2, .ref (ad 50)), (3, .ref (ad 45)), (4, .int (nI (4 * i)))]) hx hb dL_law_885 hl (by decide) rfl (fun ls hl => ?_)
    refine lv_aload_n hx hb dL_law_887 rfl (lv_at hl 3 rfl) ?_
    refine lv_aload_n hx hb dL_law_888 rfl (lv_at hl 1 rfl) ?_
    refine lv_iload hx hb dL_law_889 (lv_at hl 5 rfl) ?_
    refine lv_iconst (v := 1) hx hb dL_law_891 (by decide) ?_
    refine lv_iadd hx hb dL_law_892 ?_
    refine lv_topi (fun tv etv => ?_)
    have etv : tv = nI (4 * i + 1) := etv.trans (nI_add (4 * i) 1)
    subst etv
    refine va_sld hx hb hS0 hbl hbA hI.2.2 (vp_in_nI (by omega) (by omega)) dL_law_893 ?_
    rw [show (nI (4 * i + 1)).toNatClampNeg = (4 * i + 1) from nI_clamp (by omega)]
    refine lv_aload_n hx hb dL_law_894 rfl (lv_at hl 1 rfl) ?_
    refine lv_iload hx hb dL_law_895 (lv_at hl 5 rfl) ?_
    refine lv_iconst (v := 2) hx hb dL_law_897 (by decide) ?_
    refine lv_iadd hx hb dL_law_898 ?_
    refine lv_topi (fun tv etv => ?_)
    have etv : tv = nI (4 * i + 2) := etv.trans (nI_add (4 * i) 2)
    subst etv
    refine va_sld hx hb hS0 hbl hbA hI.2.2 (vp_in_nI (by omega) (by omega)) dL_law_899 ?_
    rw [show (nI (4 * i + 2)).toNatClampNeg = (4 * i + 2) from nI_clamp (by omega)]
    refine f_calli1 (va_runV (As := [.int (xs (4 * i + 1)), .int (xs (4 * i + 2))]) (rest := []) ⟨hx, hb, hml, hown, hts⟩ (m_X5_advise l hMS hMm hNW hN6 (by omega) hrv hok h99 (xs (4 * i + 1)) (xs (4 * i + 2))) (cwV 2 hts gL_law_X5_advise rfl rfl rfl (by decide +kernel) ⟨(Nat.le_of_ble_eq_true rfl), (Nat.le_of_ble_eq_true rfl)⟩) (fPre_ofV hG hI rfl (hMm 50 (by decide)) hMS1 rfl rfl) rfl rfl hl.1 rfl (lv_room (Nat.le_of_ble_eq_true rfl)) dL_law_900 ⟨(by show _ ≤ 601024; omega), (by show _ ≤ 7293034; omega)⟩) hI (fun r2 E2 H locs hp hI => ?_)
    rcases hp with ⟨hc2, hr2, hMS, hf2⟩ | ⟨hc2, hr2, hMS, hf2⟩
    · exact absurd (hce.symm.trans hc2) hc1
    · subst hr2
      have hXx := hXx.kept (fun q hq => hf2 q (by omega))
      have hO : E2 45 = _ := (hf2 45 (by omega)).trans hO
      have hT2 : T ≤ 200 * (i + 1) := by omega
      have hNW2 := hNW
      have hN62 := hN6
      have hrv2 := hrv
      have hok2 := hok
      have hrel2 := hrel
      have hMS2 := hMS.1.1
      refine lv_istore (lv' := [(6, .int 0), (5, .int (c_advise n (xs (4 * i + 1)) (xs (4 * i + 2)))), (0, .ref b), (1, .ref (ad 0)), (2, .ref (ad 50)), (3, .ref (ad 45)), (4, .int (nI (4 * i)))]) hx hb dL_law_903 hl (by decide) rfl (fun ls hl => ?_)
      refine lv_aload_n hx hb dL_law_905 rfl (lv_at hl 4 rfl) ?_
      refine f_calli1 (va_runV (As := []) (rest := []) ⟨hx, hb, hml, hown, hts⟩ (m_X5_thrown l hMS hMm hNW2 hN62 (by omega) hrv2 hok2 h99) (cwV 0 hts gL_law_X5_thrown rfl rfl rfl (by decide +kernel) ⟨(Nat.le_of_ble_eq_true rfl), (Nat.le_of_ble_eq_true rfl)⟩) (fPre_ofV hG hI rfl (hMm 50 (by decide)) hMS2 rfl rfl) rfl rfl hl.1 rfl (lv_room (Nat.le_of_ble_eq_true rfl)) dL_law_906 ⟨(by show _ ≤ 601024; omega), (by show _ ≤ 7293034; omega)⟩) hI (fun r3 E3 H locs hp hI => ?_)
      obtain ⟨hr3, hq3⟩ := hp
      rw [hq3] at hI
      subst hr3
      refine lv_iload hx hb dL_law_909 (lv_at hl 1 rfl) ?_
      refine lv_icmp_eq (tgt := 916) hx hb dL_law_911 (by decide) (fun c_911 => ?_) (fun c_911 => ?_)
      · refine lv_iload hx hb dL_law_916 (lv_at hl 1 rfl) ?_
        refine lv_if_ne (tgt := 933) hx hb dL_law_918 (by decide) (fun c_918 => ?_) (fun c_918 => ?_)
        · refine lv_goto (tgt := 991) hx hb dL_law_933 (by decide) ?_
          exact kk _ H locs ls _ _ (by omega) (by omega) ⟨_, _, _, _, _, _, _, _, _, _, _, _, hT2, hNW2, hN62, hrv2, hok2, hrel2, hXx, hMS, hO⟩ hI (lv_sub hl [2, 3, 4, 5, 6] rfl)
        · exact absurd c_918 hc1
      · exact absurd hce c_911
