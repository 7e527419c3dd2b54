set_option maxHeartbeats 4000000 in
set_option maxRecDepth 100000 in
theorem act_water (l : Launch) {pr : Program} {e : Env} {s : State} {m : MethodId} {args : Array Value} {below : List Frame} {meth : Method} {c : Code} {Q : State → Prop} (hx : pr.tables.exec = Jvm.exec) (hb : c.code = cL_act) (hml : c.maxLocals = 9) (hts : ∀ w ∈ wsL_act, w.before args s = true) (hown : s.vm.findClass RL = some m.cls) {D : va_G} {cI cJ cB : ClassId} {t0 z : Nat} {tx ad : Nat → Nat} {L : List Nat} (hG : fG D cI cJ cB t0 z tx s) {E : Nat → va_E} {H : Heap} {locs : List Loc} {ls : Array Slot} (hl9 : l.stackTraces = false) (hTT : c.exceptionTable.toList = tableOf [(194, 204, 207, 40), (328, 343, 346, 40), (603, 610, 613, 40)]) {w p g : Nat → Int32} {nw n T : Nat} {B F : Nat → Nat → Int32} (hL0 : okL w p g nw n T B) (hT : T < 2 ^ 30) (hLe : L = fLS n) (hX : x_at cI cB ad E w p g nw n T B F) (hS : s_at cI cJ ad E w p g nw n T B F) {x bv : Int32} (hI : fI D (fA z) s.heap ad L E H locs) (hl : lv_has ls 9 [(0, .ref (ad 0)), (1, .ref (ad 50)), (2, .int x), (3, .int bv)]) (kk : ∀ (n1 : Nat) (ad1 : Nat → Nat) (E1 : Nat → va_E) (H1 : Heap) (locs1 : List Loc) (ls1 : Array Slot) (c1 s1 pc1 : Nat), c1 ≤ 10 → s1 ≤ 60 → (ad1 0 = ad 0 ∧ ad1 50 = ad 50) → law_st cI cJ cB T n1 ad1 E1 → fI D (fA z) s.heap ad1 (fLS n1) E1 H1 locs1 → decode cL_act pc1 = .ok (.ireturn, 1) → W pr l e ({ frames := 7, cells := 20, slots := 120, locals := 130 } : Room) s m args below meth c H1 locs1 c1 s1 Q (F0 m pc1 ls1 [.int 1])) : W pr l e ({ frames := 7, cells := 20, slots := 120, locals := 130 } : Room) s m args below meth c H locs 0 0 Q (F0 m 72 ls []) := by
  have hnw := hL0.1
  have hn6 := hL0.2.1
  have h8 := hL0.h8
  have hok := hL0.2.2.2.1
  have hv := hL0.2.2.1
  have hLt : ∀ k, k ∈ L → k < 80 := fun k hk => by rw [hLe] at hk; exact (fLS_mem.mp hk).1
  have hXm : ∀ k, k < 5 ∨ (10 ≤ k ∧ k < 24) ∨ (30 ≤ k ∧ k < 44) → k ∈ L := fun k hk => by rw [hLe]; exact fLS_x k hk
  have hSm : ∀ k, (50 ≤ k ∧ k < 55) ∨ (60 ≤ k ∧ k < 60 + n) ∨ (70 ≤ k ∧ k < 70 + n) → k ∈ L := fun k hk => by rw [hLe]; exact fLS_s hn6 k hk
  refine lv_iload_n hx hb dL_act_72 rfl (lv_at hl 2 rfl) ?_
  refine lv_iconst (v := 4) hx hb dL_act_73 (by decide) ?_
  refine lv_ishr hx hb dL_act_74 ?_
  refine lv_topi (fun sv74 _ => ?_)
  refine lv_iconst (v := 5) hx hb dL_act_75 (by decide) ?_
  refine f_calli1 (va_runS (As := [.int sv74, .int 5]) (rest := []) ⟨hx, hb, hml, hown, hts⟩ (m_L_below l sv74 5 (by decide)) (va_cwS 2 hts gL_act_L_below rfl rfl rfl (by decide +kernel) ⟨(Nat.le_of_ble_eq_true rfl), (Nat.le_of_ble_eq_true rfl)⟩) (fPre_of hG hI) rfl rfl hl.1 rfl (lv_room (Nat.le_of_ble_eq_true rfl)) dL_act_76 ⟨(by show _ ≤ 20; omega), (by show _ ≤ 120; omega)⟩) hI (fun r1 E2 H locs hp hI => ?_)
  obtain ⟨he, hq9⟩ := hp
  rw [hq9] at hI
  obtain ⟨q76, hq76, e76⟩ := below_nat sv74 (m := 5) (by omega) (by omega)
  have he : r1 = nI q76 := he.trans e76
  subst he
  refine lv_istore (lv' := [(5, .int (nI q76)), (0, .ref (ad 0)), (1, .ref (ad 50)), (2, .int x), (3, .int bv)]) hx hb dL_act_79 hl (by decide) rfl (fun ls hl => ?_)
  refine lv_aload_n hx hb dL_act_81 rfl (lv_at hl 2 rfl) ?_
  have hS50 : E 50 = .inr (4, [.int (nI T), .ref (ad 51), .ref (ad 52), .int (nI nw), .ref (ad 53), .ref (ad 54)]) := hS.1
  refine f_get (ci := 4) (v := .ref (ad 51)) (C := RX4) (T := TX4) (N := 6) hx hb hts (by decide +kernel) hown hG.1 hI rfl (hSm _ (by omega)) hS50 rfl 1 (by decide) (hts (.fieldLink RL 21 "CoracleRaceLaw$Sim" "water" "[I") (by decide +kernel)) rfl dL_act_82 ?_
  refine lv_iload hx hb dL_act_85 (lv_at hl 0 rfl) ?_
  have hS51 : E 51 = .inl (cI, 5, .inl w) := hS.2.1
  refine f_iald hx hb hG.1 hI rfl (hSm _ (by omega)) hS51 (vp_in_nI (by omega) (by omega)) dL_act_87 ?_
  rw [show (nI q76).toNatClampNeg = q76 from nI_clamp (by omega)]
  refine lv_istore (lv' := [(6, .int (w q76)), (5, .int (nI q76)), (0, .ref (ad 0)), (1, .ref (ad 50)), (2, .int x), (3, .int bv)]) hx hb dL_act_88 hl (by decide) rfl (fun ls hl => ?_)
  refine lv_aload_n hx hb dL_act_90 rfl (lv_at hl 3 rfl) ?_
  refine f_get (ci := 4) (v := .ref (ad 51)) (C := RX4) (T := TX4) (N := 6) hx hb hts (by decide +kernel) hown hG.1 hI rfl (hSm _ (by omega)) hS50 rfl 1 (by decide) (hts (.fieldLink RL 21 "CoracleRaceLaw$Sim" "water" "[I") (by decide +kernel)) rfl dL_act_91 ?_
  refine lv_iload hx hb dL_act_94 (lv_at hl 1 rfl) ?_
  refine lv_iload_n hx hb dL_act_96 rfl (lv_at hl 4 rfl) ?_
  refine lv_bipush (v := 6) hx hb dL_act_97 (by decide) ?_
  refine lv_ishr hx hb dL_act_99 ?_
  refine lv_topi (fun sv99 _ => ?_)
  refine lv_bipush (v := 7) hx hb dL_act_100 (by decide) ?_
  refine f_calli1 (va_runS (As := [.int sv99, .int 7]) (rest := [.int (nI q76), .ref (ad 51)]) ⟨hx, hb, hml, hown, hts⟩ (m_L_below l sv99 7 (by decide)) (va_cwS 2 hts gL_act_L_below rfl rfl rfl (by decide +kernel) ⟨(Nat.le_of_ble_eq_true rfl), (Nat.le_of_ble_eq_true rfl)⟩) (fPre_of hG hI) rfl rfl hl.1 rfl (lv_room (Nat.le_of_ble_eq_true rfl)) dL_act_102 ⟨(by show _ ≤ 20; omega), (by show _ ≤ 120; omega)⟩) hI (fun r3 E4 H locs hp hI => ?_)
  obtain ⟨he, hq9⟩ := hp
  rw [hq9] at hI
  obtain ⟨q102, hq102, e102⟩ := below_nat sv99 (m := 7) (by omega) (by omega)
  have he : r3 = nI q102 := he.trans e102
  subst he
  refine f_iast hx hb hG.1 hI rfl (hSm _ (by omega)) hS51 (vp_in_nI (by omega) (by omega)) dL_act_105 (fun E5 H locs hE6 hz7 hI => ?_)
  have hX := hX.kept (fun q h1 => hz7 q (by omega))
  have hS := hS.water hn6 (by rw [show (nI q76).toNatClampNeg = q76 from nI_clamp (by omega)] at hE6; exact hE6) (fun q h1 h2 => hz7 q h2)
  refine lv_aload_n hx hb dL_act_106 rfl (lv_at hl 2 rfl) ?_
  refine lv_iload hx hb dL_act_107 (lv_at hl 1 rfl) ?_
  refine lv_aload_n hx hb dL_act_109 rfl (lv_at hl 3 rfl) ?_
  have hS50 : E5 50 = .inr (4, [.int (nI T), .ref (ad 51), .ref (ad 52), .int (nI nw), .ref (ad 53), .ref (ad 54)]) := hS.1
  refine f_get (ci := 4) (v := .ref (ad 51)) (C := RX4) (T := TX4) (N := 6) hx hb hts (by decide +kernel) hown hG.1 hI rfl (hSm _ (by omega)) hS50 rfl 1 (by decide) (hts (.fieldLink RL 21 "CoracleRaceLaw$Sim" "water" "[I") (by decide +kernel)) rfl dL_act_110 ?_
  refine lv_iload hx hb dL_act_113 (lv_at hl 1 rfl) ?_
  have hS51 : E5 51 = .inl (cI, 5, .inl (upd w q76 (nI q102))) := hS.2.1
  refine f_iald hx hb hG.1 hI rfl (hSm _ (by omega)) hS51 (vp_in_nI (by omega) (by omega)) dL_act_115 ?_
  refine lv_topi (fun tv etv => ?_)
  have etv : tv = (nI q102) := etv.trans (by rw [show (nI q76).toNatClampNeg = q76 from nI_clamp (by omega)]; exact pk_us)
  subst etv
  refine f_xcalli (vx_runV (As := [.int (nI q76), .int (nI q102)]) (rest := []) ⟨hx, hb, hml, hown, hts⟩ (m_X3_setWater l hl9 hX hnw hn6 hT h8 hXm (nI q76) (nI q102)) (cwV 2 hts gL_act_X3_setWater rfl rfl rfl (by decide +kernel) ⟨(Nat.le_of_ble_eq_true rfl), (Nat.le_of_ble_eq_true rfl)⟩) (fPre_ofV hG hI rfl (hXm 0 (by omega)) hX.1 rfl rfl) rfl rfl hl.1 rfl (lv_room (Nat.le_of_ble_eq_true rfl)) dL_act_116 ⟨(by show _ ≤ 20; omega), (by show _ ≤ 120; omega)⟩) hI (fun En ce q9 H locs hok hI hq1 hq2 hq3 => ?_) (fun r8 E9 H locs hp hI => ?_)
  · exact hok.elim (fun q9 => absurd q9.1 (by rw [dec_cw q76 (by omega) q102 (by omega)]; decide)) (fun q9 => absurd q9.1 (by rw [dec_cw q76 (by omega) q102 (by omega)]; decide))
  obtain ⟨-, hr9, hX, hn9⟩ := hp
  rw [show (nI q76).toNatClampNeg = q76 from nI_clamp (by omega)] at hr9 hX
  subst hr9
  have hS := hS.kept hn6 (fun q h1 h2 => hn9 q (by omega))
  refine lv_iload hx hb dL_act_119 (lv_at hl 0 rfl) ?_
  refine lv_icmp_ne (tgt := 128) hx hb dL_act_121 (by decide) (fun c_121 => ?_) (fun c_121 => ?_)
  · exact absurd rfl c_121
  · refine lv_iconst (v := 1) hx hb dL_act_124 (by decide) ?_
    refine lv_goto (tgt := 129) hx hb dL_act_125 (by decide) ?_
    exact kk n ad E9 H locs ls _ _ _ (by omega) (by omega) ⟨rfl, rfl⟩ ⟨upd w q76 (nI q102), p, g, nw, B, F, hL0.water (by omega), hX, hS⟩ (hLe ▸ hI) dL_act_129

set_option maxHeartbeats 4000000 in
set_option maxRecDepth 100000 in
theorem act_weirA (l : Launch) {pr : Program} {e : Env} {s : State} {m : MethodId} {args : Array Value} {below : List Frame} {meth : Method} {c : Code} {Q : State → Prop} (hx : pr.tables.exec = Jvm.exec) (hb : c.code = cL_act) (hml : c.maxLocals = 9) (hts : ∀ w ∈ wsL_act, w.before args s = true) (hown : s.vm.findClass RL = some m.cls) {D : va_G} {cI cJ cB : ClassId} {t0 z : Nat} {tx ad : Nat → Nat} {L : List Nat} (hG : fG D cI cJ cB t0 z tx s) {E : Nat → va_E} {H : Heap} {locs : List Loc} {ls : Array Slot} (hl9 : l.stackTraces = false) (hTT : c.exceptionTable.toList = tableOf [(194, 204, 207, 40), (328, 343, 346, 40), (603, 610, 613, 40)]) {w p g : Nat → Int32} {nw n T : Nat} {B F : Nat → Nat → Int32} (hL0 : okL w p g nw n T B) (hT : T < 2 ^ 30) (hLe : L = fLS n) (hX : x_at cI cB ad E w p g nw n T B F) (hS : s_at cI cJ ad E w p g nw n T B F) {x bv : Int32} (hI : fI D (fA z) s.heap ad L E H locs) (hl : lv_has ls 9 [(0, .ref (ad 0)), (1, .ref (ad 50)), (2, .int x), (3, .int bv)]) (kk : ∀ (pl : Nat) (ls1 : Array Slot) (H1 : Heap) (locs1 : List Loc), 1 ≤ pl → pl ≤ 199 → fI D (fA z) s.heap ad L E H1 locs1 → lv_has ls1 9 [(0, .ref (ad 0)), (1, .ref (ad 50)), (2, .int x), (3, .int bv), (5, .int (nI pl))] → W pr l e ({ frames := 7, cells := 20, slots := 120, locals := 130 } : Room) s m args below meth c H1 locs1 0 0 Q (F0 m 159 ls1 [])) : W pr l e ({ frames := 7, cells := 20, slots := 120, locals := 130 } : Room) s m args below meth c H locs 0 0 Q (F0 m 130 ls []) := by
  have hnw := hL0.1
  have hn6 := hL0.2.1
  have h8 := hL0.h8
  have hok := hL0.2.2.2.1
  have hv := hL0.2.2.1
  have hLt : ∀ k, k ∈ L → k < 80 := fun k hk => by rw [hLe] at hk; exact (fLS_mem.mp hk).1
  have hXm : ∀ k, k < 5 ∨ (10 ≤ k ∧ k < 24) ∨ (30 ≤ k ∧ k < 44) → k ∈ L := fun k hk => by rw [hLe]; exact fLS_x k hk
  have hSm : ∀ k, (50 ≤ k ∧ k < 55) ∨ (60 ≤ k ∧ k < 60 + n) ∨ (70 ≤ k ∧ k < 70 + n) → k ∈ L := fun k hk => by rw [hLe]; exact fLS_s hn6 k hk
  refine lv_iconst (v := 1) hx hb dL_act_130 (by decide) ?_
  refine lv_iload_n hx hb dL_act_131 rfl (lv_at hl 2 rfl) ?_
  refine lv_iconst (v := 5) hx hb dL_act_132 (by decide) ?_
  refine lv_ishr hx hb dL_act_133 ?_
  refine lv_topi (fun sv133 _ => ?_)
  refine lv_iload_n hx hb dL_act_134 rfl (lv_at hl 2 rfl) ?_
  refine lv_bipush (v := 8) hx hb dL_act_135 (by decide) ?_
  refine lv_ishr hx hb dL_act_137 ?_
  refine lv_topi (fun sv137 _ => ?_)
  refine lv_iconst (v := 2) hx hb dL_act_138 (by decide) ?_
  refine f_calli1 (va_runS (As := [.int sv137, .int 2]) (rest := [.int sv133, .int 1]) ⟨hx, hb, hml, hown, hts⟩ (m_L_below l sv137 2 (by decide)) (va_cwS 2 hts gL_act_L_below rfl rfl rfl (by decide +kernel) ⟨(Nat.le_of_ble_eq_true rfl), (Nat.le_of_ble_eq_true rfl)⟩) (fPre_of hG hI) rfl rfl hl.1 rfl (lv_room (Nat.le_of_ble_eq_true rfl)) dL_act_139 ⟨(by show _ ≤ 20; omega), (by show _ ≤ 120; omega)⟩) hI (fun r1 E2 H locs hp hI => ?_)
  obtain ⟨he, hq9⟩ := hp
  rw [hq9] at hI
  obtain ⟨q139, hq139, e139⟩ := below_nat sv137 (m := 2) (by omega) (by omega)
  have he : r1 = nI q139 := he.trans e139
  subst he
  refine lv_if_ne (tgt := 151) hx hb dL_act_142 (by decide) (fun c_142 => ?_) (fun c_142 => ?_)
  · refine lv_bipush (v := 60) hx hb dL_act_151 (by decide) ?_
    refine f_calli1 (va_runS (As := [.int sv133, .int 60]) (rest := [.int 1]) ⟨hx, hb, hml, hown, hts⟩ (m_L_below l sv133 60 (by decide)) (va_cwS 2 hts gL_act_L_below rfl rfl rfl (by decide +kernel) ⟨(Nat.le_of_ble_eq_true rfl), (Nat.le_of_ble_eq_true rfl)⟩) (fPre_of hG hI) rfl rfl hl.1 rfl (lv_room (Nat.le_of_ble_eq_true rfl)) dL_act_153 ⟨(by show _ ≤ 20; omega), (by show _ ≤ 120; omega)⟩) hI (fun r3 E4 H locs hp hI => ?_)
    obtain ⟨he, hq9⟩ := hp
    rw [hq9] at hI
    obtain ⟨q153, hq153, e153⟩ := below_nat sv133 (m := 60) (by omega) (by omega)
    have he : r3 = nI q153 := he.trans e153
    subst he
    refine lv_iadd hx hb dL_act_156 ?_
    refine lv_topi (fun tv etv => ?_)
    have etv : tv = (nI (q153 + 1)) := etv.trans (one_add q153)
    subst etv
    refine lv_istore (lv' := [(5, .int (nI (q153 + 1))), (0, .ref (ad 0)), (1, .ref (ad 50)), (2, .int x), (3, .int bv)]) hx hb dL_act_157 hl (by decide) rfl (fun ls hl => ?_)
    exact kk (q153 + 1) ls H locs (by omega) (by omega) hI (lv_sub hl [1, 2, 3, 4, 0] rfl)
  · refine lv_sipush (v := 199) hx hb dL_act_145 (by decide) ?_
    refine lv_goto (tgt := 153) hx hb dL_act_148 (by decide) ?_
    refine f_calli1 (va_runS (As := [.int sv133, .int 199]) (rest := [.int 1]) ⟨hx, hb, hml, hown, hts⟩ (m_L_below l sv133 199 (by decide)) (va_cwS 2 hts gL_act_L_below rfl rfl rfl (by decide +kernel) ⟨(Nat.le_of_ble_eq_true rfl), (Nat.le_of_ble_eq_true rfl)⟩) (fPre_of hG hI) rfl rfl hl.1 rfl (lv_room (Nat.le_of_ble_eq_true rfl)) dL_act_153 ⟨(by show _ ≤ 20; omega), (by show _ ≤ 120; omega)⟩) hI (fun r5 E6 H locs hp hI => ?_)
    obtain ⟨he, hq9⟩ := hp
    rw [hq9] at hI
    obtain ⟨q153, hq153, e153⟩ := below_nat sv133 (m := 199) (by omega) (by omega)
    have he : r5 = nI q153 := he.trans e153
    subst he
    refine lv_iadd hx hb dL_act_156 ?_
    refine lv_topi (fun tv etv => ?_)
    have etv : tv = (nI (q153 + 1)) := etv.trans (one_add q153)
    subst etv
    refine lv_istore (lv' := [(5, .int (nI (q153 + 1))), (0, .ref (ad 0)), (1, .ref (ad 50)), (2, .int x), (3, .int bv)]) hx hb dL_act_157 hl (by decide) rfl (fun ls hl => ?_)
    exact kk (q153 + 1) ls H locs (by omega) (by omega) hI (lv_sub hl [1, 2, 3, 4, 0] rfl)

set_option maxHeartbeats 4000000 in
set_option maxRecDepth 100000 in
theorem act_weirB (l : Launch) {pr : Program} {e : Env} {s : State} {m : MethodId} {args : Array Value} {below : List Frame} {meth : Method} {c : Code} {Q : State → Prop} (hx : pr.tables.exec = Jvm.exec) (hb : c.code = cL_act) (hml : c.maxLocals = 9) (hts : ∀ w ∈ wsL_act, w.before args s = true) (hown : s.vm.findClass RL = some m.cls) {D : va_G} {cI cJ cB : ClassId} {t0 z : Nat} {tx ad : Nat → Nat} {L : List Nat} (hG : fG D cI cJ cB t0 z tx s) {E : Nat → va_E} {H : Heap} {locs : List Loc} {ls : Array Slot} (hl9 : l.stackTraces = false) (hTT : c.exceptionTable.toList = tableOf [(194, 204, 207, 40), (328, 343, 346, 40), (603, 610, 613, 40)]) {w p g : Nat → Int32} {nw n T : Nat} {B F : Nat → Nat → Int32} (hL0 : okL w p g nw n T B) (hT : T < 2 ^ 30) (hLe : L = fLS n) (hX : x_at cI cB ad E w p g nw n T B F) (hS : s_at cI cJ ad E w p g nw n T B F) {x bv : Int32} {pl : Nat} (hpl1 : 1 ≤ pl) (hpl2 : pl ≤ 199) (hI : fI D (fA z) s.heap ad L E H locs) (hl : lv_has ls 9 [(0, .ref (ad 0)), (1, .ref (ad 50)), (2, .int x), (3, .int bv), (5, .int (nI pl))]) (kk : ∀ (n1 : Nat) (ad1 : Nat → Nat) (E1 : Nat → va_E) (H1 : Heap) (locs1 : List Loc) (ls1 : Array Slot) (c1 s1 pc1 : Nat), c1 ≤ 10 → s1 ≤ 60 → (ad1 0 = ad 0 ∧ ad1 50 = ad 50) → law_st cI cJ cB T n1 ad1 E1 → fI D (fA z) s.heap ad1 (fLS n1) E1 H1 locs1 → decode cL_act pc1 = .ok (.ireturn, 1) → W pr l e ({ frames := 7, cells := 20, slots := 120, locals := 130 } : Room) s m args below meth c H1 locs1 c1 s1 Q (F0 m pc1 ls1 [.int 1])) : W pr l e ({ frames := 7, cells := 20, slots := 120, locals := 130 } : Room) s m args below meth c H locs 0 0 Q (F0 m 159 ls []) := by
  have hnw := hL0.1
  have hn6 := hL0.2.1
  have h8 := hL0.h8
  have hok := hL0.2.2.2.1
  have hv := hL0.2.2.1
  have hLt : ∀ k, k ∈ L → k < 80 := fun k hk => by rw [hLe] at hk; exact (fLS_mem.mp hk).1
  have hXm : ∀ k, k < 5 ∨ (10 ≤ k ∧ k < 24) ∨ (30 ≤ k ∧ k < 44) → k ∈ L := fun k hk => by rw [hLe]; exact fLS_x k hk
  have hSm : ∀ k, (50 ≤ k ∧ k < 55) ∨ (60 ≤ k ∧ k < 60 + n) ∨ (70 ≤ k ∧ k < 70 + n) → k ∈ L := fun k hk => by rw [hLe]; exact fLS_s hn6 k hk
  refine lv_iload_n hx hb dL_act_159 rfl (lv_at hl 2 rfl) ?_
  refine lv_iconst (v := 3) hx hb dL_act_160 (by decide) ?_
  refine lv_ishr hx hb dL_act_161 ?_
  refine lv_topi (fun sv161 _ => ?_)
  refine lv_iconst (v := 5) hx hb dL_act_162 (by decide) ?_
  refine f_calli1 (va_runS (As := [.int sv161, .int 5]) (rest := []) ⟨hx, hb, hml, hown, hts⟩ (m_L_below l sv161 5 (by decide)) (va_cwS 2 hts gL_act_L_below rfl rfl rfl (by decide +kernel) ⟨(Nat.le_of_ble_eq_true rfl), (Nat.le_of_ble_eq_true rfl)⟩) (fPre_of hG hI) rfl rfl hl.1 rfl (lv_room (Nat.le_of_ble_eq_true rfl)) dL_act_163 ⟨(by show _ ≤ 20; omega), (by show _ ≤ 120; omega)⟩) hI (fun r1 E2 H locs hp hI => ?_)
  obtain ⟨he, hq9⟩ := hp
  rw [hq9] at hI
  obtain ⟨q163, hq163, e163⟩ := below_nat sv161 (m := 5) (by omega) (by omega)
  have he : r1 = nI q163 := he.trans e163
  subst he
  refine lv_istore (lv' := [(6, .int (nI q163)), (0, .ref (ad 0)), (1, .ref (ad 50)), (2, .int x), (3, .int bv), (5, .int (nI pl))]) hx hb dL_act_166 hl (by decide) rfl (fun ls hl => ?_)
  refine lv_aload_n hx hb dL_act_168 rfl (lv_at hl 2 rfl) ?_
  have hS50 : E 50 = .inr (4, [.int (nI T), .ref (ad 51), .ref (ad 52), .int (nI nw), .ref (ad 53), .ref (ad 54)]) := hS.1
  refine f_get (ci := 4) (v := .int (nI nw)) (C := RX4) (T := TX4) (N := 6) hx hb hts (by decide +kernel) hown hG.1 hI rfl (hSm _ (by omega)) hS50 rfl 3 (by decide) (hts (.fieldLink RL 30 "CoracleRaceLaw$Sim" "many" "I") (by decide +kernel)) rfl dL_act_169 ?_
  refine lv_bipush (v := 6) hx hb dL_act_172 (by decide) ?_
  refine lv_icmp_ge (tgt := 191) hx hb dL_act_174 (by decide) (fun c_174 => ?_) (fun c_174 => ?_)
  · have n_174 := i_nlt.mpr c_174
    have hnot : nw = 6 ∨ ¬ p_has p (nI pl) nw = 0 := Or.inl (by have := (nI_leI (by omega) (by omega) (a := 6)).mp c_174; omega)
    refine lv_iconst (v := 0) hx hb dL_act_191 (by decide) ?_
    refine lv_istore (lv' := [(7, .int 0), (6, .int (nI q163)), (0, .ref (ad 0)), (1, .ref (ad 50)), (2, .int x), (3, .int bv), (5, .int (nI pl))]) hx hb dL_act_192 hl (by decide) rfl (fun ls hl => ?_)
    refine lv_aload_n hx hb dL_act_194 rfl (lv_at hl 2 rfl) ?_
    refine lv_iload hx hb dL_act_195 (lv_at hl 6 rfl) ?_
    refine lv_iload hx hb dL_act_197 (lv_at hl 1 rfl) ?_
    refine f_xcalli (vx_runV (As := [.int (nI pl), .int (nI q163)]) (rest := []) ⟨hx, hb, hml, hown, hts⟩ (m_X3_weir l hl9 hX hnw hn6 hT h8 hXm (nI pl) (nI q163)) (cwV 2 hts gL_act_X3_weir rfl rfl rfl (by decide +kernel) ⟨(Nat.le_of_ble_eq_true rfl), (Nat.le_of_ble_eq_true rfl)⟩) (fPre_ofV hG hI rfl (hXm 0 (by omega)) hX.1 rfl rfl) rfl rfl hl.1 rfl (lv_room (Nat.le_of_ble_eq_true rfl)) dL_act_199 ⟨(by show _ ≤ 20; omega), (by show _ ≤ 120; omega)⟩) hI (fun En ce q9 H locs hok hI hq1 hq2 hq3 => ?_) (fun r3 E4 H locs hp hI => ?_)
    · rcases hok with ⟨hc9, rfl⟩ | ⟨hc9, rfl⟩
      · exact absurd (hc9.symm.trans (cweir_2 (p := p) (nw := nw) (pl := pl) (gq := q163) (by omega) (by omega) (by omega) hnw hnot)) (by decide)
      · refine vx_catch (E := fIS) (name := fIS) hown [] ⟨194, 204, 207, 40⟩ [(⟨328, 343, 346, 40⟩ : ExceptionTableEntry), (⟨603, 610, 613, 40⟩ : ExceptionTableEntry)] (hTT.trans rfl) (fun z hz => absurd hz List.not_mem_nil) (by decide) (by decide) (hts (.classLink RL 40 fIS) (by decide +kernel)) (fNest_use (by simp [fNest]) (hG.2.1 (.castable fIS fIS) (by simp [fNest]))) hq1 hq2 hq3 ?_
        refine lv_astore (lv' := [(8, .ref q9), (7, .int 0), (6, .int (nI q163)), (0, .ref (ad 0)), (1, .ref (ad 50)), (2, .int x), (3, .int bv), (5, .int (nI pl))]) hx hb dL_act_207 hl (by decide) rfl (fun ls hl => ?_)
        refine lv_iconst (v := -1) hx hb dL_act_209 (by decide) ?_
        refine lv_istore (lv' := [(4, .int (-1)), (8, .ref q9), (7, .int 0), (6, .int (nI q163)), (0, .ref (ad 0)), (1, .ref (ad 50)), (2, .int x), (3, .int bv), (5, .int (nI pl))]) hx hb dL_act_210 hl (by decide) rfl (fun ls hl => ?_)
        refine lv_iload hx hb dL_act_212 (lv_at hl 2 rfl) ?_
        refine lv_if_eq (tgt := 236) hx hb dL_act_214 (by decide) (fun c_214 => ?_) (fun c_214 => ?_)
        · refine lv_iload hx hb dL_act_236 (lv_at hl 0 rfl) ?_
          refine lv_iload hx hb dL_act_238 (lv_at hl 2 rfl) ?_
          refine lv_if_eq (tgt := 250) hx hb dL_act_240 (by decide) (fun c_240 => ?_) (fun c_240 => ?_)
          · refine lv_iconst (v := -1) hx hb dL_act_250 (by decide) ?_
            refine lv_icmp_ne (tgt := 258) hx hb dL_act_251 (by decide) (fun c_251 => ?_) (fun c_251 => ?_)
            · exact absurd c_251 (by decide)
            · refine lv_iconst (v := 1) hx hb dL_act_254 (by decide) ?_
              refine lv_goto (tgt := 259) hx hb dL_act_255 (by decide) ?_
              exact kk n ad E H locs ls _ _ _ (by omega) (by omega) ⟨rfl, rfl⟩ ⟨w, p, g, nw, B, F, hL0, hX, hS⟩ (hLe ▸ hI) dL_act_259
          · exact absurd c_240 (by decide)
        · exact absurd c_214 (by decide)
    · exact absurd hp.1 (by rw [cweir_2 (p := p) (nw := nw) (pl := pl) (gq := q163) (by omega) (by omega) (by omega) hnw hnot]; decide)
  · have n_174 := c_174
    have c_174 := i_nle.mp n_174
    have hnw6 : nw < 6 := (nI_ltI (by omega) (by omega) (b := 6)).mp c_174
    refine lv_aload_n hx hb dL_act_177 rfl (lv_at hl 2 rfl) ?_
    refine f_get (ci := 4) (v := .ref (ad 52)) (C := RX4) (T := TX4) (N := 6) hx hb hts (by decide +kernel) hown hG.1 hI rfl (hSm _ (by omega)) hS50 rfl 2 (by decide) (hts (.fieldLink RL 34 "CoracleRaceLaw$Sim" "weirs" "[I") (by decide +kernel)) rfl dL_act_178 ?_
    refine lv_iload hx hb dL_act_181 (lv_at hl 5 rfl) ?_
    have hS52 : E 52 = .inl (cI, 201, .inl (vW p g nw)) := hS.2.2.1
    refine f_iald hx hb hG.1 hI rfl (hSm _ (by omega)) hS52 (vp_in_nI (by omega) (by omega)) dL_act_183 ?_
    rw [show (nI pl).toNatClampNeg = pl from nI_clamp (by omega)]
    refine lv_if_ge (tgt := 191) hx hb dL_act_184 (by decide) (fun c_184 => ?_) (fun c_184 => ?_)
    · have n_184 := i_nlt.mpr c_184
      have hnot : nw = 6 ∨ ¬ p_has p (nI pl) nw = 0 := Or.inr (fun z => n_184 ((vW_has hv.2.1).mpr z))
      refine lv_iconst (v := 0) hx hb dL_act_191 (by decide) ?_
      refine lv_istore (lv' := [(7, .int 0), (6, .int (nI q163)), (0, .ref (ad 0)), (1, .ref (ad 50)), (2, .int x), (3, .int bv), (5, .int (nI pl))]) hx hb dL_act_192 hl (by decide) rfl (fun ls hl => ?_)
      refine lv_aload_n hx hb dL_act_194 rfl (lv_at hl 2 rfl) ?_
      refine lv_iload hx hb dL_act_195 (lv_at hl 6 rfl) ?_
      refine lv_iload hx hb dL_act_197 (lv_at hl 1 rfl) ?_
      refine f_xcalli (vx_runV (As := [.int (nI pl), .int (nI q163)]) (rest := []) ⟨hx, hb, hml, hown, hts⟩ (m_X3_weir l hl9 hX hnw hn6 hT h8 hXm (nI pl) (nI q163)) (cwV 2 hts gL_act_X3_weir rfl rfl rfl (by decide +kernel) ⟨(Nat.le_of_ble_eq_true rfl), (Nat.le_of_ble_eq_true rfl)⟩) (fPre_ofV hG hI rfl (hXm 0 (by omega)) hX.1 rfl rfl) rfl rfl hl.1 rfl (lv_room (Nat.le_of_ble_eq_true rfl)) dL_act_199 ⟨(by show _ ≤ 20; omega), (by show _ ≤ 120; omega)⟩) hI (fun En ce q9 H locs hok hI hq1 hq2 hq3 => ?_) (fun r5 E6 H locs hp hI => ?_)
      · rcases hok with ⟨hc9, rfl⟩ | ⟨hc9, rfl⟩
        · exact absurd (hc9.symm.trans (cweir_2 (p := p) (nw := nw) (pl := pl) (gq := q163) (by omega) (by omega) (by omega) hnw hnot)) (by decide)
        · refine vx_catch (E := fIS) (name := fIS) hown [] ⟨194, 204, 207, 40⟩ [(⟨328, 343, 346, 40⟩ : ExceptionTableEntry), (⟨603, 610, 613, 40⟩ : ExceptionTableEntry)] (hTT.trans rfl) (fun z hz => absurd hz List.not_mem_nil) (by decide) (by decide) (hts (.classLink RL 40 fIS) (by decide +kernel)) (fNest_use (by simp [fNest]) (hG.2.1 (.castable fIS fIS) (by simp [fNest]))) hq1 hq2 hq3 ?_
          refine lv_astore (lv' := [(8, .ref q9), (7, .int 0), (6, .int (nI q163)), (0, .ref (ad 0)), (1, .ref (ad 50)), (2, .int x), (3, .int bv), (5, .int (nI pl))]) hx hb dL_act_207 hl (by decide) rfl (fun ls hl => ?_)
          refine lv_iconst (v := -1) hx hb dL_act_209 (by decide) ?_
          refine lv_istore (lv' := [(4, .int (-1)), (8, .ref q9), (7, .int 0), (6, .int (nI q163)), (0, .ref (ad 0)), (1, .ref (ad 50)), (2, .int x), (3, .int bv), (5, .int (nI pl))]) hx hb dL_act_210 hl (by decide) rfl (fun ls hl => ?_)
          refine lv_iload hx hb dL_act_212 (lv_at hl 2 rfl) ?_
          refine lv_if_eq (tgt := 236) hx hb dL_act_214 (by decide) (fun c_214 => ?_) (fun c_214 => ?_)
          · refine lv_iload hx hb dL_act_236 (lv_at hl 0 rfl) ?_
            refine lv_iload hx hb dL_act_238 (lv_at hl 2 rfl) ?_
            refine lv_if_eq (tgt := 250) hx hb dL_act_240 (by decide) (fun c_240 => ?_) (fun c_240 => ?_)
            · refine lv_iconst (v := -1) hx hb dL_act_250 (by decide) ?_
              refine lv_icmp_ne (tgt := 258) hx hb dL_act_251 (by decide) (fun c_251 => ?_) (fun c_251 => ?_)
              · exact absurd c_251 (by decide)
              · refine lv_iconst (v := 1) hx hb dL_act_254 (by decide) ?_
                refine lv_goto (tgt := 259) hx hb dL_act_255 (by decide) ?_
                exact kk n ad E H locs ls _ _ _ (by omega) (by omega) ⟨rfl, rfl⟩ ⟨w, p, g, nw, B, F, hL0, hX, hS⟩ (hLe ▸ hI) dL_act_259
            · exact absurd c_240 (by decide)
          · exact absurd c_214 (by decide)
      · exact absurd hp.1 (by rw [cweir_2 (p := p) (nw := nw) (pl := pl) (gq := q163) (by omega) (by omega) (by omega) hnw hnot]; decide)
    · have n_184 := c_184
      have c_184 := i_nle.mp n_184
      have hhas : p_has p (nI pl) nw = 0 := (vW_has hv.2.1).mp c_184
      refine lv_iconst (v := 1) hx hb dL_act_187 (by decide) ?_
      refine lv_goto (tgt := 192) hx hb dL_act_188 (by decide) ?_
      refine lv_istore (lv' := [(7, .int 1), (6, .int (nI q163)), (0, .ref (ad 0)), (1, .ref (ad 50)), (2, .int x), (3, .int bv), (5, .int (nI pl))]) hx hb dL_act_192 hl (by decide) rfl (fun ls hl => ?_)
      refine lv_aload_n hx hb dL_act_194 rfl (lv_at hl 2 rfl) ?_
      refine lv_iload hx hb dL_act_195 (lv_at hl 6 rfl) ?_
      refine lv_iload hx hb dL_act_197 (lv_at hl 1 rfl) ?_
      refine f_xcalli (vx_runV (As := [.int (nI pl), .int (nI q163)]) (rest := []) ⟨hx, hb, hml, hown, hts⟩ (m_X3_weir l hl9 hX hnw hn6 hT h8 hXm (nI pl) (nI q163)) (cwV 2 hts gL_act_X3_weir rfl rfl rfl (by decide +kernel) ⟨(Nat.le_of_ble_eq_true rfl), (Nat.le_of_ble_eq_true rfl)⟩) (fPre_ofV hG hI rfl (hXm 0 (by omega)) hX.1 rfl rfl) rfl rfl hl.1 rfl (lv_room (Nat.le_of_ble_eq_true rfl)) dL_act_199 ⟨(by show _ ≤ 20; omega), (by show _ ≤ 120; omega)⟩) hI (fun En ce q9 H locs hok hI hq1 hq2 hq3 => ?_) (fun r7 E8 H locs hp hI => ?_)
      · exact hok.elim (fun q9 => absurd q9.1 (by rw [cweir_0 (nw := nw) (by omega) (by omega) (by omega) hnw6 hhas]; decide)) (fun q9 => absurd q9.1 (by rw [cweir_0 (nw := nw) (by omega) (by omega) (by omega) hnw6 hhas]; decide))
      · obtain ⟨-, hr9, hX, hn9⟩ := hp
        subst hr9
        have hS := hS.kept hn6 (fun q h1 h2 => hn9 q (by omega))
        refine lv_istore (lv' := [(4, .int (nI (nw + 1))), (7, .int 1), (6, .int (nI q163)), (0, .ref (ad 0)), (1, .ref (ad 50)), (2, .int x), (3, .int bv), (5, .int (nI pl))]) hx hb dL_act_202 hl (by decide) rfl (fun ls hl => ?_)
        refine lv_goto (tgt := 212) hx hb dL_act_204 (by decide) ?_
        refine lv_iload hx hb dL_act_212 (lv_at hl 1 rfl) ?_
        refine lv_if_eq (tgt := 236) hx hb dL_act_214 (by decide) (fun c_214 => ?_) (fun c_214 => ?_)
        · exact absurd c_214 (by decide)
        · refine lv_aload_n hx hb dL_act_217 rfl (lv_at hl 4 rfl) ?_
          have hS50 : E8 50 = .inr (4, [.int (nI T), .ref (ad 51), .ref (ad 52), .int (nI nw), .ref (ad 53), .ref (ad 54)]) := hS.1
          refine f_get (ci := 4) (v := .ref (ad 52)) (C := RX4) (T := TX4) (N := 6) hx hb hts (by decide +kernel) hown hG.1 hI rfl (hSm _ (by omega)) hS50 rfl 2 (by decide) (hts (.fieldLink RL 34 "CoracleRaceLaw$Sim" "weirs" "[I") (by decide +kernel)) rfl dL_act_218 ?_
          refine lv_iload hx hb dL_act_221 (lv_at hl 7 rfl) ?_
          refine lv_iload hx hb dL_act_223 (lv_at hl 2 rfl) ?_
          have hS52 : E8 52 = .inl (cI, 201, .inl (vW p g nw)) := hS.2.2.1
          refine f_iast hx hb hG.1 hI rfl (hSm _ (by omega)) hS52 (vp_in_nI (by omega) (by omega)) dL_act_225 (fun E9 H locs hE10 hz11 hI => ?_)
          obtain ⟨E9, g1, g2, g3⟩ := fI_arr (f := vW (upd p nw (nI pl)) (upd g nw (nI q163)) (nw + 1)) hI (by rw [show (nI pl).toNatClampNeg = pl from nI_clamp (by omega)] at hE10; exact hE10) (fun j hj => vW_add (by omega) hj)
          have hI := g3
          have hX := hX.kept (fun q h1 => (g2 q (by omega)).trans (hz11 q (by omega)))
          have hf52 : ∀ q, q ≠ 52 → E9 q = E8 q := fun q h2 => (g2 q h2).trans (hz11 q h2)
          have hS50 : E9 50 = .inr (4, [.int (nI T), .ref (ad 51), .ref (ad 52), .int (nI nw), .ref (ad 53), .ref (ad 54)]) := (hf52 50 (by omega)).trans hS.1
          refine lv_aload_n hx hb dL_act_226 rfl (lv_at hl 4 rfl) ?_
          refine lv_dup hx hb dL_act_227 rfl ?_
          refine f_get (ci := 4) (v := .int (nI nw)) (C := RX4) (T := TX4) (N := 6) hx hb hts (by decide +kernel) hown hG.1 hI rfl (hSm _ (by omega)) hS50 rfl 3 (by decide) (hts (.fieldLink RL 30 "CoracleRaceLaw$Sim" "many" "I") (by decide +kernel)) rfl dL_act_228 ?_
          refine lv_iconst (v := 1) hx hb dL_act_231 (by decide) ?_
          refine lv_iadd hx hb dL_act_232 ?_
          refine lv_topi (fun tv etv => ?_)
          have etv : tv = (nI (nw + 1)) := etv.trans (nI_1 nw)
          subst etv
          refine f_put (ci := 4) (v := .int (nI (nw + 1))) (C := RX4) (T := TX4) (N := 6) hx hb hts (by decide +kernel) tyX4 tyX4_ok nmX4 hown hG.1 hI rfl (hSm _ (by omega)) hS50 rfl 3 (by decide) (hts (.fieldLink RL 30 "CoracleRaceLaw$Sim" "many" "I") (by decide +kernel)) rfl rfl rfl (Nat.le_of_ble_eq_true rfl) dL_act_233 (fun E12 H locs hE13 hz14 hI => ?_)
          have hX := hX.kept (fun q h1 => hz14 q (by omega))
          have hS := hS.weir hn6 (T := T) (nw1 := nw + 1) hE13 ((hz14 52 (by omega)).trans g1) (fun q a b d => (hz14 q b).trans (hf52 q d))
          have hS50 : E12 50 = .inr (4, [.int (nI T), .ref (ad 51), .ref (ad 52), .int (nI (nw + 1)), .ref (ad 53), .ref (ad 54)]) := hE13
          refine lv_iload hx hb dL_act_236 (lv_at hl 0 rfl) ?_
          refine lv_iload hx hb dL_act_238 (lv_at hl 1 rfl) ?_
          refine lv_if_eq (tgt := 250) hx hb dL_act_240 (by decide) (fun c_240 => ?_) (fun c_240 => ?_)
          · exact absurd c_240 (by decide)
          · refine lv_aload_n hx hb dL_act_243 rfl (lv_at hl 4 rfl) ?_
            refine f_get (ci := 4) (v := .int (nI (nw + 1))) (C := RX4) (T := TX4) (N := 6) hx hb hts (by decide +kernel) hown hG.1 hI rfl (hSm _ (by omega)) hS50 rfl 3 (by decide) (hts (.fieldLink RL 30 "CoracleRaceLaw$Sim" "many" "I") (by decide +kernel)) rfl dL_act_244 ?_
            refine lv_goto (tgt := 251) hx hb dL_act_247 (by decide) ?_
            refine lv_icmp_ne (tgt := 258) hx hb dL_act_251 (by decide) (fun c_251 => ?_) (fun c_251 => ?_)
            · exact absurd rfl c_251
            · refine lv_iconst (v := 1) hx hb dL_act_254 (by decide) ?_
              refine lv_goto (tgt := 259) hx hb dL_act_255 (by decide) ?_
              exact kk n ad E12 H locs ls _ _ _ (by omega) (by omega) ⟨rfl, rfl⟩ ⟨w, upd p nw (nI pl), upd g nw (nI q163), nw + 1, B, F, hL0.weir hnw6 (by omega) (by omega) (by omega) hhas, hX, hS⟩ (hLe ▸ hI) dL_act_259

set_option maxHeartbeats 4000000 in
set_option maxRecDepth 100000 in
theorem act_noneA (l : Launch) {pr : Program} {e : Env} {s : State} {m : MethodId} {args : Array Value} {below : List Frame} {meth : Method} {c : Code} {Q : State → Prop} (hx : pr.tables.exec = Jvm.exec) (hb : c.code = cL_act) (hml : c.maxLocals = 9) (hts : ∀ w ∈ wsL_act, w.before args s = true) (hown : s.vm.findClass RL = some m.cls) {D : va_G} {cI cJ cB : ClassId} {t0 z : Nat} {tx ad : Nat → Nat} {L : List Nat} (hG : fG D cI cJ cB t0 z tx s) {E : Nat → va_E} {H : Heap} {locs : List Loc} {ls : Array Slot} (hl9 : l.stackTraces = false) (hTT : c.exceptionTable.toList = tableOf [(194, 204, 207, 40), (328, 343, 346, 40), (603, 610, 613, 40)]) {w p g : Nat → Int32} {nw n T : Nat} {B F : Nat → Nat → Int32} (hL0 : okL w p g nw n T B) (hT : T < 2 ^ 30) (hLe : L = fLS n) (hX : x_at cI cB ad E w p g nw n T B F) (hS : s_at cI cJ ad E w p g nw n T B F) {x : Int32} (hI : fI D (fA z) s.heap ad L E H locs) (hl : lv_has ls 9 [(0, .ref (ad 0)), (1, .ref (ad 50)), (2, .int x), (3, .int (-1))]) (kk : ∀ (n1 : Nat) (ad1 : Nat → Nat) (E1 : Nat → va_E) (H1 : Heap) (locs1 : List Loc) (ls1 : Array Slot) (c1 s1 pc1 : Nat), c1 ≤ 10 → s1 ≤ 60 → (ad1 0 = ad 0 ∧ ad1 50 = ad 50) → law_st cI cJ cB T n1 ad1 E1 → fI D (fA z) s.heap ad1 (fLS n1) E1 H1 locs1 → decode cL_act pc1 = .ok (.ireturn, 1) → W pr l e ({ frames := 7, cells := 20, slots := 120, locals := 130 } : Room) s m args below meth c H1 locs1 c1 s1 Q (F0 m pc1 ls1 [.int 1])) : W pr l e ({ frames := 7, cells := 20, slots := 120, locals := 130 } : Room) s m args below meth c H locs 0 0 Q (F0 m 415 ls []) := by
  have hnw := hL0.1
  have hn6 := hL0.2.1
  have h8 := hL0.h8
  have hok := hL0.2.2.2.1
  have hv := hL0.2.2.1
  have hLt : ∀ k, k ∈ L → k < 80 := fun k hk => by rw [hLe] at hk; exact (fLS_mem.mp hk).1
  have hXm : ∀ k, k < 5 ∨ (10 ≤ k ∧ k < 24) ∨ (30 ≤ k ∧ k < 44) → k ∈ L := fun k hk => by rw [hLe]; exact fLS_x k hk
  have hSm : ∀ k, (50 ≤ k ∧ k < 55) ∨ (60 ≤ k ∧ k < 60 + n) ∨ (70 ≤ k ∧ k < 70 + n) → k ∈ L := fun k hk => by rw [hLe]; exact fLS_s hn6 k hk
  refine lv_iload_n hx hb dL_act_415 rfl (lv_at hl 3 rfl) ?_
  refine lv_if_ge (tgt := 421) hx hb dL_act_416 (by decide) (fun c_416 => ?_) (fun c_416 => ?_)
  · exact absurd c_416 (by decide)
  · have n_416 := c_416
    have c_416 := i_nle.mp n_416
    refine lv_iconst (v := 1) hx hb dL_act_419 (by decide) ?_
    exact kk n ad E H locs ls _ _ _ (by omega) (by omega) ⟨rfl, rfl⟩ ⟨w, p, g, nw, B, F, hL0, hX, hS⟩ (hLe ▸ hI) dL_act_420

set_option maxHeartbeats 4000000 in
set_option maxRecDepth 100000 in
theorem act_noneB (l : Launch) {pr : Program} {e : Env} {s : State} {m : MethodId} {args : Array Value} {below : List Frame} {meth : Method} {c : Code} {Q : State → Prop} (hx : pr.tables.exec = Jvm.exec) (hb : c.code = cL_act) (hml : c.maxLocals = 9) (hts : ∀ w ∈ wsL_act, w.before args s = true) (hown : s.vm.findClass RL = some m.cls) {D : va_G} {cI cJ cB : ClassId} {t0 z : Nat} {tx ad : Nat → Nat} {L : List Nat} (hG : fG D cI cJ cB t0 z tx s) {E : Nat → va_E} {H : Heap} {locs : List Loc} {ls : Array Slot} (hl9 : l.stackTraces = false) (hTT : c.exceptionTable.toList = tableOf [(194, 204, 207, 40), (328, 343, 346, 40), (603, 610, 613, 40)]) {w p g : Nat → Int32} {nw n T : Nat} {B F : Nat → Nat → Int32} (hL0 : okL w p g nw n T B) (hT : T < 2 ^ 30) (hLe : L = fLS n) (hX : x_at cI cB ad E w p g nw n T B F) (hS : s_at cI cJ ad E w p g nw n T B F) {x : Int32} (hI : fI D (fA z) s.heap ad L E H locs) (hl : lv_has ls 9 [(0, .ref (ad 0)), (1, .ref (ad 50)), (2, .int x), (3, .int (-1))]) (kk : ∀ (n1 : Nat) (ad1 : Nat → Nat) (E1 : Nat → va_E) (H1 : Heap) (locs1 : List Loc) (ls1 : Array Slot) (c1 s1 pc1 : Nat), c1 ≤ 10 → s1 ≤ 60 → (ad1 0 = ad 0 ∧ ad1 50 = ad 50) → law_st cI cJ cB T n1 ad1 E1 → fI D (fA z) s.heap ad1 (fLS n1) E1 H1 locs1 → decode cL_act pc1 = .ok (.ireturn, 1) → W pr l e ({ frames := 7, cells := 20, slots := 120, locals := 130 } : Room) s m args below meth c H1 locs1 c1 s1 Q (F0 m pc1 ls1 [.int 1])) : W pr l e ({ frames := 7, cells := 20, slots := 120, locals := 130 } : Room) s m args below meth c H locs 0 0 Q (F0 m 541 ls []) := by
  have hnw := hL0.1
  have hn6 := hL0.2.1
  have h8 := hL0.h8
  have hok := hL0.2.2.2.1
  have hv := hL0.2.2.1
  have hLt : ∀ k, k ∈ L → k < 80 := fun k hk => by rw [hLe] at hk; exact (fLS_mem.mp hk).1
  have hXm : ∀ k, k < 5 ∨ (10 ≤ k ∧ k < 24) ∨ (30 ≤ k ∧ k < 44) → k ∈ L := fun k hk => by rw [hLe]; exact fLS_x k hk
  have hSm : ∀ k, (50 ≤ k ∧ k < 55) ∨ (60 ≤ k ∧ k < 60 + n) ∨ (70 ≤ k ∧ k < 70 + n) → k ∈ L := fun k hk => by rw [hLe]; exact fLS_s hn6 k hk
  refine lv_iload_n hx hb dL_act_541 rfl (lv_at hl 3 rfl) ?_
  refine lv_if_lt (tgt := 556) hx hb dL_act_542 (by decide) (fun c_542 => ?_) (fun c_542 => ?_)
  · have n_542 := i_nle.mpr c_542
    refine lv_iconst (v := 1) hx hb dL_act_556 (by decide) ?_
    exact kk n ad E H locs ls _ _ _ (by omega) (by omega) ⟨rfl, rfl⟩ ⟨w, p, g, nw, B, F, hL0, hX, hS⟩ (hLe ▸ hI) dL_act_557
  · exact absurd c_542 (by decide)
