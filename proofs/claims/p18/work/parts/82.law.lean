/-! ===== the law: rows of numbers filled place by place ===== -/
def rg (a v : Nat) (f c : Nat → Int32) : Prop := ∀ x, a ≤ x → x < v → f x = c x
theorem rg_0 {a : Nat} {f c : Nat → Int32} : rg a a f c := fun x h1 h2 => absurd h1 (by omega)
theorem rg_s {a v : Nat} {f c : Nat → Int32} {y : Int32} (h : rg a v f c) (hy : y = c v) : rg a (v + 1) (upd f v y) c := fun x h1 h2 => by
  by_cases q : x = v
  · rw [q, hy]; exact pk_us
  · rw [show upd f v y x = f x from pk_un q]; exact h x h1 (by omega)
theorem mna_mem {L : List Nat} {n k : Nat} (h : k = 80 ∨ (81 ≤ k ∧ k < 81 + n)) : k ∈ L ++ [80] ++ (List.range n).map (fun i => 81 + i) := by
  rcases h with h | h
  · simp [h]
  · refine List.mem_append_right _ (List.mem_map.mpr ⟨k - 81, List.mem_range.mpr (by omega), by omega⟩)
theorem mna_lt {L : List Nat} {n : Nat} (hn : n ≤ 6) (h : ∀ k, k ∈ L → k < 80) : ∀ k, k ∈ L ++ [80] ++ (List.range n).map (fun i => 81 + i) → k < 90 := fun k hk => by
  rcases List.mem_append.mp hk with q | q
  · rcases List.mem_append.mp q with r | r
    · have := h k r; omega
    · have := List.mem_singleton.mp r; omega
  · obtain ⟨i, hi, e⟩ := List.mem_map.mp q
    have := List.mem_range.mp hi; omega
theorem app_lt {L : List Nat} {j b : Nat} (h : ∀ k, k ∈ L → k < b) (hj : j < b + 1) (hb : b ≤ j) : ∀ k, k ∈ L ++ [j] → k < j + 1 := fun k hk => by
  rcases List.mem_append.mp hk with q | q
  · have := h k q; omega
  · have := List.mem_singleton.mp q; omega
set_option maxHeartbeats 4000000 in
set_option maxRecDepth 100000 in
theorem law_A (l : Launch) {pr : Program} {e : Env} {s : State} {m : MethodId} {args : Array Value} {below : List Frame} {meth : Method} {c : Code} {Q : State → Prop} (hx : pr.tables.exec = Jvm.exec) (hb : c.code = cL_law) (hml : c.maxLocals = 23) (hts : ∀ w ∈ wsL_law, w.before args s = true) (hown : s.vm.findClass RL = some m.cls) {D : va_G} {cI cJ cB : ClassId} {t0 z : Nat} {tx ad : Nat → Nat} {L : List Nat} (hG : fG D cI cJ cB t0 z tx s) {cells slots : Nat} {E : Nat → va_E} {H : Heap} {locs : List Loc} {ls : Array Slot} {time : Nat} (ht : time < 70) (hc : cells ≤ 100000) (hs : slots ≤ 500000) (hI : fI D (fA z) s.heap ad L E H locs) (hl : lv_has ls 23 [(0, .ref t0), (1, .ref (ad 0)), (2, .ref (ad 50)), (3, .int (nI time))]) (kk : ∀ (xv : Int32) (H1 : Heap) (locs1 : List Loc) (ls1 : Array Slot), fI D (fA z) s.heap ad L E H1 locs1 → lv_has ls1 23 [(0, .ref t0), (1, .ref (ad 0)), (2, .ref (ad 50)), (3, .int (nI time)), (4, .int xv)] → W pr l e ({ frames := 11, cells := 1200130, slots := 5501080, locals := 402 } : Room) s m args below meth c H1 locs1 cells slots Q (F0 m 50 ls1 [])) : W pr l e ({ frames := 11, cells := 1200130, slots := 5501080, locals := 402 } : Room) s m args below meth c H locs cells slots Q (F0 m 28 ls []) := by
  refine lv_aload_n hx hb dL_law_28 rfl (lv_at hl 0 rfl) ?_
  refine lv_iload_n hx hb dL_law_29 rfl (lv_at hl 3 rfl) ?_
  refine lv_bipush (v := 16) hx hb dL_law_30 (by decide) ?_
  refine lv_irem hx hb dL_law_32 (by decide) ?_
  refine lv_topi (fun tv etv => ?_)
  have etv : tv = (nI (time % 16)) := etv.trans (show nI time - nI time / nI 16 * nI 16 = nI (time % 16) from pk_rem (by omega) (by decide) (by decide))
  subst etv
  refine f_calli1 (va_runS (As := [.ref t0, .int (nI (time % 16))]) (rest := []) ⟨hx, hb, hml, hown, hts⟩ (m_L_cell l (time % 16) (by omega)) (va_cwS 2 hts gL_law_L_cell rfl rfl rfl (by decide +kernel) ⟨(Nat.le_of_ble_eq_true rfl), (Nat.le_of_ble_eq_true rfl)⟩) (fPre_of hG hI) rfl rfl hl.1 rfl (lv_room (Nat.le_of_ble_eq_true rfl)) dL_law_33 ⟨(by show _ ≤ 1200130; omega), (by show _ ≤ 5501080; omega)⟩) hI (fun r1 E2 H locs hp hI => ?_)
  have hq9 : E2 = E := hp
  rw [hq9] at hI
  refine lv_iload_n hx hb dL_law_36 rfl (lv_at hl 3 rfl) ?_
  refine lv_bipush (v := 16) hx hb dL_law_37 (by decide) ?_
  refine lv_idiv hx hb dL_law_39 (by decide) ?_
  refine lv_iconst (v := 4) hx hb dL_law_40 (by decide) ?_
  refine lv_imul hx hb dL_law_41 ?_
  refine lv_ishr hx hb dL_law_42 ?_
  refine lv_topi (fun sv42 _ => ?_)
  refine lv_bipush (v := 61) hx hb dL_law_43 (by decide) ?_
  refine lv_iload_n hx hb dL_law_45 rfl (lv_at hl 3 rfl) ?_
  refine lv_imul hx hb dL_law_46 ?_
  refine lv_iadd hx hb dL_law_47 ?_
  refine lv_topi (fun xv exv => ?_)
  refine lv_istore (lv' := [(4, .int xv), (0, .ref t0), (1, .ref (ad 0)), (2, .ref (ad 50)), (3, .int (nI time))]) hx hb dL_law_48 hl (by decide) rfl (fun ls hl => ?_)
  exact kk xv H locs ls hI (lv_sub hl [1, 2, 3, 4, 0] rfl)

set_option maxHeartbeats 4000000 in
set_option maxRecDepth 100000 in
theorem law_B (l : Launch) {pr : Program} {e : Env} {s : State} {m : MethodId} {args : Array Value} {below : List Frame} {meth : Method} {c : Code} {Q : State → Prop} (hx : pr.tables.exec = Jvm.exec) (hb : c.code = cL_law) (hml : c.maxLocals = 23) (hts : ∀ w ∈ wsL_law, w.before args s = true) (hown : s.vm.findClass RL = some m.cls) {D : va_G} {cI cJ cB : ClassId} {t0 z : Nat} {tx ad : Nat → Nat} {L : List Nat} (hG : fG D cI cJ cB t0 z tx s) {cells slots : Nat} {E : Nat → va_E} {H : Heap} {locs : List Loc} {ls : Array Slot} (hl9 : l.stackTraces = false) {T n : Nat} (hst : law_st cI cJ cB T n ad E) (hLe : L = fLS n) (hT : T < 2 ^ 20) {time : Nat} {xv : Int32} (ht : time < 70) (hc : cells ≤ 100000) (hs : slots ≤ 500000) (hI : fI D (fA z) s.heap ad L E H locs) (hl : lv_has ls 23 [(0, .ref t0), (1, .ref (ad 0)), (2, .ref (ad 50)), (3, .int (nI time)), (4, .int xv)]) (kk : ∀ (n1 : Nat) (ad1 : Nat → Nat) (E1 : Nat → va_E) (H1 : Heap) (locs1 : List Loc) (ls1 : Array Slot) (c1 s1 : Nat), c1 ≤ cells + 20 → s1 ≤ slots + 120 → (ad1 0 = ad 0 ∧ ad1 50 = ad 50) → law_st cI cJ cB T n1 ad1 E1 → fI D (fA z) s.heap ad1 (fLS n1) E1 H1 locs1 → lv_has ls1 23 [(0, .ref t0), (1, .ref (ad1 0)), (2, .ref (ad1 50)), (3, .int (nI time)), (4, .int xv)] → W pr l e ({ frames := 11, cells := 1200130, slots := 5501080, locals := 402 } : Room) s m args below meth c H1 locs1 c1 s1 Q (F0 m 73 ls1 [])) : W pr l e ({ frames := 11, cells := 1200130, slots := 5501080, locals := 402 } : Room) s m args below meth c H locs cells slots Q (F0 m 50 ls []) := by
  subst hLe
  obtain ⟨w, p, g, nw, B, F, hL0, hX, hS⟩ := hst
  have hT : T < 2 ^ 30 := by omega
  refine lv_iload hx hb dL_law_50 (lv_at hl 4 rfl) ?_
  refine lv_iconst (v := 4) hx hb dL_law_52 (by decide) ?_
  refine lv_ishr hx hb dL_law_53 ?_
  refine lv_topi (fun sv53 _ => ?_)
  refine lv_iconst (v := 3) hx hb dL_law_54 (by decide) ?_
  refine f_calli1 (va_runS (As := [.int sv53, .int 3]) (rest := []) ⟨hx, hb, hml, hown, hts⟩ (m_L_below l sv53 3 (by decide)) (va_cwS 2 hts gL_law_L_below rfl rfl rfl (by decide +kernel) ⟨(Nat.le_of_ble_eq_true rfl), (Nat.le_of_ble_eq_true rfl)⟩) (fPre_of hG hI) rfl rfl hl.1 rfl (lv_room (Nat.le_of_ble_eq_true rfl)) dL_law_55 ⟨(by show _ ≤ 1200130; omega), (by show _ ≤ 5501080; omega)⟩) hI (fun r1 E2 H locs hp hI => ?_)
  obtain ⟨he, hq9⟩ := hp
  rw [hq9] at hI
  obtain ⟨q55, hq55, e55⟩ := below_nat sv53 (m := 3) (by omega) (by omega)
  have he : r1 = nI q55 := he.trans e55
  subst he
  refine lv_if_ne (tgt := 73) hx hb dL_law_58 (by decide) (fun c_58 => ?_) (fun c_58 => ?_)
  · exact kk n ad E H locs ls _ _ (by omega) (by omega) ⟨rfl, rfl⟩ ⟨w, p, g, nw, B, F, hL0, hX, hS⟩ hI (lv_sub hl [0, 1, 2, 3, 4] rfl)
  · refine lv_aload_n hx hb dL_law_61 rfl (lv_at hl 1 rfl) ?_
    refine lv_aload_n hx hb dL_law_62 rfl (lv_at hl 2 rfl) ?_
    refine lv_iload hx hb dL_law_63 (lv_at hl 4 rfl) ?_
    refine f_calla (vx_runSW (As := [.ref (ad 0), .ref (ad 50), .int xv]) (rest := []) ⟨hx, hb, hml, hown, hts⟩ (m_L_act l hl9 hL0 hT hX hS xv) (vx_cwSW 3 hts gL_law_L_act rfl rfl rfl (by decide +kernel) ⟨(Nat.le_of_ble_eq_true rfl), (Nat.le_of_ble_eq_true rfl)⟩) (fPre_of hG hI) rfl rfl hl.1 rfl (lv_room (Nat.le_of_ble_eq_true rfl)) dL_law_65 ⟨(by show _ ≤ 1200130; omega), (by show _ ≤ 5501080; omega)⟩) hI (fun r1 n1 ad1 E1 H locs hp hI => ?_)
    obtain ⟨he, had, hst⟩ := hp
    have he : r1 = 1 := he
    subst he
    have had : ad1 0 = ad 0 ∧ ad1 50 = ad 50 := had
    have hst : law_st cI cJ cB T n1 ad1 E1 := hst
    have hl : lv_has ls 23 [(0, .ref t0), (1, .ref (ad1 0)), (2, .ref (ad1 50)), (3, .int (nI time)), (4, .int xv)] := by rw [had.1, had.2]; exact hl
    refine lv_if_ne (tgt := 73) hx hb dL_law_68 (by decide) (fun c_68 => ?_) (fun c_68 => ?_)
    · exact kk n1 ad1 E1 H locs ls _ _ (by omega) (by omega) had hst hI (lv_sub hl [0, 1, 2, 3, 4] rfl)
    · exact absurd c_68 (by decide)

set_option maxHeartbeats 4000000 in
set_option maxRecDepth 100000 in
theorem law_C (l : Launch) {pr : Program} {e : Env} {s : State} {m : MethodId} {args : Array Value} {below : List Frame} {meth : Method} {c : Code} {Q : State → Prop} (hx : pr.tables.exec = Jvm.exec) (hb : c.code = cL_law) (hml : c.maxLocals = 23) (hts : ∀ w ∈ wsL_law, w.before args s = true) (hown : s.vm.findClass RL = some m.cls) {D : va_G} {cI cJ cB : ClassId} {t0 z : Nat} {tx ad : Nat → Nat} {L : List Nat} (hG : fG D cI cJ cB t0 z tx s) {cells slots : Nat} {E : Nat → va_E} {H : Heap} {locs : List Loc} {ls : Array Slot} (hl9 : l.stackTraces = false) {w p g : Nat → Int32} {nw n T : Nat} {B F : Nat → Nat → Int32} (hL0 : okL w p g nw n T B) (hT : T < 2 ^ 20) (hLt : ∀ k, k ∈ L → k < 80) (hXm : ∀ k, k < 5 ∨ (10 ≤ k ∧ k < 24) ∨ (30 ≤ k ∧ k < 44) → k ∈ L) (hSm : ∀ k, (50 ≤ k ∧ k < 55) ∨ (60 ≤ k ∧ k < 60 + n) ∨ (70 ≤ k ∧ k < 70 + n) → k ∈ L) (hX : x_at cI cB ad E w p g nw n T B F) (hS : s_at cI cJ ad E w p g nw n T B F) {time : Nat} {xv : Int32} (ht : time < 70) (hc : cells ≤ 100000) (hs : slots ≤ 500000) (hI : fI D (fA z) s.heap ad L E H locs) (hl : lv_has ls 23 [(0, .ref t0), (1, .ref (ad 0)), (2, .ref (ad 50)), (3, .int (nI time)), (4, .int xv)]) (kk : ∀ (ad1 : Nat → Nat) (E1 : Nat → va_E) (H1 : Heap) (locs1 : List Loc) (ls1 : Array Slot) (c1 s1 : Nat), c1 ≤ cells + 80 → s1 ≤ slots + 500 → (∀ q, q < 80 → ad1 q = ad q) → x_at cI cB ad1 E1 w p g nw n T B F → s_at cI cJ ad1 E1 w p g nw n T B F → w_at cI cJ ad1 E1 n B (fun i => p_arr w p g nw T (F i) (B i) 0 401) → fI D (fA z) s.heap ad1 (L ++ [80] ++ (List.range n).map (fun i => 81 + i) ++ [90]) E1 H1 locs1 → lv_has ls1 23 [(0, .ref t0), (1, .ref (ad1 0)), (2, .ref (ad1 50)), (3, .int (nI time)), (4, .int xv), (5, .int (nI n)), (6, .ref (ad1 80)), (7, .ref (ad1 90))] → W pr l e ({ frames := 11, cells := 1200130, slots := 5501080, locals := 402 } : Room) s m args below meth c H1 locs1 c1 s1 Q (F0 m 155 ls1 [])) : W pr l e ({ frames := 11, cells := 1200130, slots := 5501080, locals := 402 } : Room) s m args below meth c H locs cells slots Q (F0 m 73 ls []) := by
  have hT : T < 2 ^ 30 := by omega
  have hnw := hL0.1
  have hn6 := hL0.2.1
  have h8 := hL0.h8
  have hok := hL0.2.2.2.1
  refine lv_aload_n hx hb dL_law_73 rfl (lv_at hl 2 rfl) ?_
  have hS50 : E 50 = .inr (4, [.int (nI T), .ref (ad 51), .ref (ad 52), .int (nI nw), .ref (ad 53), .ref (ad 54)]) := hS.1
  refine f_get (ci := 4) (v := .ref (ad 53)) (C := RX4) (T := TX4) (N := 6) hx hb hts (by decide +kernel) hown hG.1 hI rfl (hSm _ (by omega)) hS50 rfl 4 (by decide) (hts (.fieldLink RL 9 "CoracleRaceLaw$Sim" "boats" "[[I") (by decide +kernel)) rfl dL_law_74 ?_
  have hS53 : E 53 = .inl (cJ, n, .inr (.inr (.inr (.inr (row_at ad 60 n))))) := hS.2.2.2.1
  refine f_alenA hx hb hG.1 hI rfl (hSm _ (by omega)) hS53 (v := nI n) rfl dL_law_77 ?_
  refine lv_istore (lv' := [(5, .int (nI n)), (0, .ref t0), (1, .ref (ad 0)), (2, .ref (ad 50)), (3, .int (nI time)), (4, .int xv)]) hx hb dL_law_78 hl (by decide) rfl (fun ls hl => ?_)
  refine lv_iload hx hb dL_law_80 (lv_at hl 0 rfl) ?_
  refine lv_bipush (v := 9) hx hb dL_law_82 (by decide) ?_
  refine f_mna hx hb hown (hts (.classLink RL 80 "[[I") (by decide +kernel)) (hG.2.1 (.arrayOver (.array .int)) (by simp [fNest])) (hts (.arrayClass .int) (by decide +kernel)) hG.1 hI (fG_A hG) (N := n) hn6 (k := 80) (k1 := 81) (by decide) (by show _ ≤ 1200130; omega) (by show _ ≤ 5501080; omega) dL_law_84 (fun aM adM EM H ham had hE80 hEr hEo hLk hI => ?_) (fun q hq => by have := hLt q hq; omega)
  subst ham
  have hX := (hX.ad (fun q h1 => had q (by omega) (by omega))).kept (fun q h1 => hEo q (by omega) (by omega))
  have hS := (hS.ad hn6 (fun q h1 h2 => had q (by omega) (by omega))).kept hn6 (fun q h1 h2 => hEo q (by omega) (by omega))
  have hXm := fun k hk => List.mem_append_left ((List.range n).map (fun i => 81 + i)) (List.mem_append_left [80] (hXm k hk))
  have hSm := fun k hk => List.mem_append_left ((List.range n).map (fun i => 81 + i)) (List.mem_append_left [80] (hSm k hk))
  have hWm := fun k (hk : k = 80 ∨ (81 ≤ k ∧ k < 81 + n)) => mna_mem (L := L) (n := n) hk
  have hLt := mna_lt hn6 hLt
  have hq_1 : adM 0 = (ad 0) := had 0 (by omega) (by omega)
  have hq_2 : adM 50 = (ad 50) := had 50 (by omega) (by omega)
  have hl : lv_has ls 23 [(5, .int (nI n)), (0, .ref t0), (1, .ref (adM 0)), (2, .ref (adM 50)), (3, .int (nI time)), (4, .int xv)] := by rw [hq_1, hq_2]; exact hl
  refine lv_astore (lv' := [(6, .ref (adM 80)), (5, .int (nI n)), (0, .ref t0), (1, .ref (adM 0)), (2, .ref (adM 50)), (3, .int (nI time)), (4, .int xv)]) hx hb dL_law_88 hl (by decide) rfl (fun ls hl => ?_)
  refine lv_iload hx hb dL_law_90 (lv_at hl 1 rfl) ?_
  refine f_newi (k := 90) (n := (nI n)) (N := n) hx hb (hts (.arrayClass .int) (by decide +kernel)) hG.1 hI (fG_A hG) (nI_pos (by omega)) (nI_clamp (by omega)) (by omega) (fun h9 => absurd (hLt _ h9) (by omega)) (by show _ ≤ 1200130; omega) (by show _ ≤ 5501080; omega) dL_law_92 (fun aN adN EN H hk9 hr9 hE9 hEr9 hI => ?_)
  subst hk9
  have hX := (hX.ad (fun q h1 => hr9 q (by omega))).kept (fun q h1 => hEr9 q (by omega))
  have hS := (hS.ad hn6 (fun q h1 h2 => hr9 q (by omega))).kept hn6 (fun q h1 h2 => hEr9 q (by omega))
  have hXm := fun k hk => List.mem_append_left [90] (hXm k hk)
  have hSm := fun k hk => List.mem_append_left [90] (hSm k hk)
  have hWm := fun k hk => List.mem_append_left [90] (hWm k hk)
  have hq_6 : adN 80 = (adM 80) := hr9 80 (by omega)
  have hq_1 : adN 0 = (adM 0) := hr9 0 (by omega)
  have hq_2 : adN 50 = (adM 50) := hr9 50 (by omega)
  have hl : lv_has ls 23 [(6, .ref (adN 80)), (5, .int (nI n)), (0, .ref t0), (1, .ref (adN 0)), (2, .ref (adN 50)), (3, .int (nI time)), (4, .int xv)] := by rw [hq_6, hq_1, hq_2]; exact hl
  have h80 : EN 80 = .inl (cJ, n, .inr (.inr (.inr (.inr (row_at adN 81 n))))) := by rw [hEr9 80 (by omega), row_at_ad (fun i hi => hr9 (81 + i) (by omega))]; exact hE80
  have htodo : ∀ i, 0 ≤ i → i < n → EN (81 + i) = .inl (cI, 9, .inl (fun _ => 0)) := fun i _ hi => (hEr9 (81 + i) (by omega)).trans (hEr i hi)
  refine lv_astore (lv' := [(7, .ref (adN 90)), (6, .ref (adN 80)), (5, .int (nI n)), (0, .ref t0), (1, .ref (adN 0)), (2, .ref (adN 50)), (3, .int (nI time)), (4, .int xv)]) hx hb dL_law_94 hl (by decide) rfl (fun ls hl => ?_)
  refine lv_iconst (v := 0) hx hb dL_law_96 (by decide) ?_
  refine lv_istore (lv' := [(8, .int 0), (7, .ref (adN 90)), (6, .ref (adN 80)), (5, .int (nI n)), (0, .ref t0), (1, .ref (adN 0)), (2, .ref (adN 50)), (3, .int (nI time)), (4, .int xv)]) hx hb dL_law_97 hl (by decide) rfl (fun ls hl => ?_)
  have Kih : ∀ (di i : Nat), 0 ≤ i → i ≤ n → n + 1 ≤ i + di → ∀ (fA9 : Nat → Int32), ∀ (Ea : Nat → va_E), ∀ (H : Heap) (locs : List Loc) (ls : Array Slot), ∀ (cci ssi : Nat), cci ≤ ((cells + 1 + n) + 1) + 10 * i → ssi ≤ ((slots + n + n * 9) + n) + 60 * i → (x_at cI cB adN Ea w p g nw n T B F) → (s_at cI cJ adN Ea w p g nw n T B F) → (Ea 80 = .inl (cJ, n, .inr (.inr (.inr (.inr (row_at adN 81 n)))))) → (∀ j, j < i → Ea (81 + j) = .inl (cI, 9, .inl (p_fact (B j)))) → (∀ j, i ≤ j → j < n → Ea (81 + j) = .inl (cI, 9, .inl (fun _ => 0))) → (Ea 90 = .inl (cI, n, .inl fA9)) → (rg 0 i fA9 (fun i => p_arr w p g nw T (F i) (B i) 0 401)) → fI D (fA z) s.heap adN (L ++ [80] ++ (List.range n).map (fun i => 81 + i) ++ [90]) Ea H locs → lv_has ls 23 [(8, .int (nI i)), (7, .ref (adN 90)), (6, .ref (adN 80)), (5, .int (nI n)), (0, .ref t0), (1, .ref (adN 0)), (2, .ref (adN 50)), (3, .int (nI time)), (4, .int xv)] → W pr l e ({ frames := 11, cells := 1200130, slots := 5501080, locals := 402 } : Room) s m args below meth c H locs cci ssi Q (F0 m 99 ls []) := by
    intro di
    induction di with
    | zero => intro i h0 h1 h2; exact absurd h2 (by omega)
    | succ di ih =>
      intro i hi0i hi1i hi2i fA9 Ea  H locs ls cci ssi hcih hsih hX hS h80 hdone htodo h90 hfA hI hl
      refine lv_iload hx hb dL_law_99 (lv_at hl 0 rfl) ?_
      refine lv_iload hx hb dL_law_101 (lv_at hl 3 rfl) ?_
      refine lv_icmp_ge (tgt := 155) hx hb dL_law_103 (by decide) (fun c_103 => ?_) (fun c_103 => ?_)
      · have n_103 := i_nlt.mpr c_103
        have hi : n = i := by have := (nI_leI (by omega) (by omega)).mp c_103; omega
        subst hi
        obtain ⟨Es0, gs0, gt0, gu0⟩ := fI_arr (f := (fun i => p_arr w p g nw T (F i) (B i) 0 401)) hI h90 (fun j hj => hfA j (by omega) hj)
        have hI := gu0
        have h90 : Es0 90 = .inl (cI, n, .inl (fun i => p_arr w p g nw T (F i) (B i) 0 401)) := gs0
        have h80 : Es0 80 = .inl (cJ, n, .inr (.inr (.inr (.inr (row_at adN 81 n))))) := (gt0 80 (by omega)).trans h80
        have hX := hX.kept (fun q h1 => gt0 q (by omega))
        have hS := hS.kept hn6 (fun q h1 h2 => gt0 q (by omega))
        exact kk adN Es0 H locs ls _ _ (by omega) (by omega) (fun q h1 => (hr9 q (by omega)).trans (had q (by omega) (by omega))) hX hS ⟨h80, fun j hj => (gt0 (81 + j) (by omega)).trans (hdone j hj), h90⟩ hI (lv_sub hl [4, 5, 6, 7, 8, 3, 2, 1] rfl)
      · have n_103 := c_103
        have c_103 := i_nle.mp n_103
        have hi : i < n := (nI_ltI (by omega) (by omega)).mp c_103
        have hcl : (nI i).toNatClampNeg = i := nI_clamp (by omega)
        refine lv_iconst (v := 0) hx hb dL_law_106 (by decide) ?_
        refine lv_istore (lv' := [(9, .int 0), (8, .int (nI i)), (7, .ref (adN 90)), (6, .ref (adN 80)), (5, .int (nI n)), (0, .ref t0), (1, .ref (adN 0)), (2, .ref (adN 50)), (3, .int (nI time)), (4, .int xv)]) hx hb dL_law_107 hl (by decide) rfl (fun ls hl => ?_)
        have Kihv : ∀ (dv v : Nat), 0 ≤ v → v ≤ 9 → 9 + 1 ≤ v + dv → ∀ (f9 : Nat → Int32), ∀ (Eb : Nat → va_E), ∀ (H : Heap) (locs : List Loc) (ls : Array Slot), ∀ (ccv ssv : Nat), ccv ≤ cci + v → ssv ≤ ssi + 6 * v → (x_at cI cB adN Eb w p g nw n T B F) → (s_at cI cJ adN Eb w p g nw n T B F) → (∀ q : Nat, 80 ≤ q ∧ q ≠ 81 + i → Eb q = Ea q) → (Eb (81 + i) = .inl (cI, 9, .inl f9)) → (rg 0 v f9 (p_fact (B i))) → fI D (fA z) s.heap adN (L ++ [80] ++ (List.range n).map (fun i => 81 + i) ++ [90]) Eb H locs → lv_has ls 23 [(9, .int (nI v)), (8, .int (nI i)), (7, .ref (adN 90)), (6, .ref (adN 80)), (5, .int (nI n)), (0, .ref t0), (1, .ref (adN 0)), (2, .ref (adN 50)), (3, .int (nI time)), (4, .int xv)] → W pr l e ({ frames := 11, cells := 1200130, slots := 5501080, locals := 402 } : Room) s m args below meth c H locs ccv ssv Q (F0 m 109 ls []) := by
          intro dv
          induction dv with
          | zero => intro v h0 h1 h2; exact absurd h2 (by omega)
          | succ dv ihv =>
            intro v hi0v hi1v hi2v f9 Eb  H locs ls ccv ssv hcihv hsihv hX hS fr1 hrow hf9 hI hl
            have h80 : Eb 80 = .inl (cJ, n, .inr (.inr (.inr (.inr (row_at adN 81 n))))) := (fr1 80 (by omega)).trans h80
            have h90 : Eb 90 = .inl (cI, n, .inl fA9) := (fr1 90 (by omega)).trans h90
            refine lv_iload hx hb dL_law_109 (lv_at hl 0 rfl) ?_
            refine lv_bipush (v := 9) hx hb dL_law_111 (by decide) ?_
            refine lv_icmp_ge (tgt := 138) hx hb dL_law_113 (by decide) (fun c_113 => ?_) (fun c_113 => ?_)
            · have n_113 := i_nlt.mpr c_113
              have hv0 : v = 9 := by have := (nI_leI (by omega) (by omega) (a := 9)).mp c_113; omega
              subst hv0
              obtain ⟨Es1, gs1, gt1, gu1⟩ := fI_arr (f := (p_fact (B i))) hI hrow (fun j hj => hf9 j (by omega) (by omega))
              have hI := gu1
              have hrow : Es1 (81 + i) = .inl (cI, 9, .inl (p_fact (B i))) := gs1
              have h80 : Es1 80 = .inl (cJ, n, .inr (.inr (.inr (.inr (row_at adN 81 n))))) := (gt1 80 (by omega)).trans h80
              have h90 : Es1 90 = .inl (cI, n, .inl fA9) := (gt1 90 (by omega)).trans h90
              have hX := hX.kept (fun q h1 => gt1 q (by omega))
              have hS := hS.kept hn6 (fun q h1 h2 => gt1 q (by omega))
              have fr1 : ∀ q : Nat, 80 ≤ q ∧ q ≠ 81 + i → Es1 q = Ea q := fun q hq => (gt1 q (by omega)).trans (fr1 q hq)
              have fr2 : ∀ q : Nat, (80 ≤ q ∧ q ≠ 81 + i ∧ q ≠ 90) → Es1 q = Ea q := fun q hq => fr1 q (by omega)
              have hl : lv_has ls 23 [(8, .int (nI i)), (7, .ref (adN 90)), (6, .ref (adN 80)), (5, .int (nI n)), (0, .ref t0), (1, .ref (adN 0)), (2, .ref (adN 50)), (3, .int (nI time)), (4, .int xv)] := lv_sub hl [1, 2, 3, 4, 5, 6, 7, 8, 9] rfl
              refine lv_aload hx hb dL_law_138 (lv_at hl 1 rfl) ?_
              refine lv_iload hx hb dL_law_140 (lv_at hl 0 rfl) ?_
              refine lv_aload_n hx hb dL_law_142 rfl (lv_at hl 5 rfl) ?_
              refine lv_iload hx hb dL_law_143 (lv_at hl 0 rfl) ?_
              refine f_xcalli (vx_runV (As := [.int (nI i)]) (rest := [.int (nI i), .ref (adN 90)]) ⟨hx, hb, hml, hown, hts⟩ (m_X3_arrives l hl9 hX hnw hn6 hT h8 hXm (nI i)) (cwV 1 hts gL_law_X3_arrives rfl rfl rfl (by decide +kernel) ⟨(Nat.le_of_ble_eq_true rfl), (Nat.le_of_ble_eq_true rfl)⟩) (fPre_ofV hG hI rfl (hXm 0 (by omega)) hX.1 rfl rfl) rfl rfl hl.1 rfl (lv_room (Nat.le_of_ble_eq_true rfl)) dL_law_145 ⟨(by show _ ≤ 1200130; omega), (by show _ ≤ 5501080; omega)⟩) hI (fun En ce q9 H locs hok hI hq1 hq2 hq3 => ?_) (fun r3 E4 H locs hp hI => ?_)
              · exact absurd hok.1 (by rw [crank_0 (n := n) (b := i) (by omega) hn6]; decide)
              obtain ⟨-, hr9, hX, hn9⟩ := hp
              have hr9 : r3 = (p_arr w p g nw T (F i) (B i) 0 401) := hr9.trans (by rw [show (nI i).toNatClampNeg = i from nI_clamp (by omega)])
              subst hr9
              have h80 : E4 80 = .inl (cJ, n, .inr (.inr (.inr (.inr (row_at adN 81 n))))) := (hn9 80 (by omega)).trans h80
              have h90 : E4 90 = .inl (cI, n, .inl fA9) := (hn9 90 (by omega)).trans h90
              have hrow : E4 (81 + i) = .inl (cI, 9, .inl (p_fact (B i))) := (hn9 (81 + i) (by omega)).trans hrow
              have hS := hS.kept hn6 (fun q h1 h2 => hn9 q (by omega))
              have fr2 : ∀ q : Nat, (80 ≤ q ∧ q ≠ 81 + i ∧ q ≠ 90) → E4 q = Ea q := fun q hq => (hn9 q (by omega)).trans (fr2 q hq)
              refine f_iast hx hb hG.1 hI rfl in_last h90 (vp_in_nI (by omega) (by omega)) dL_law_148 (fun E5 H locs hE6 hz7 hI => ?_)
              have h90 : E5 90 = .inl (cI, n, .inl (upd fA9 i (p_arr w p g nw T (F i) (B i) 0 401))) := (by rw [show (nI i).toNatClampNeg = i from nI_clamp (by omega)] at hE6; exact hE6)
              have h80 : E5 80 = .inl (cJ, n, .inr (.inr (.inr (.inr (row_at adN 81 n))))) := (hz7 80 (by omega)).trans h80
              have hrow : E5 (81 + i) = .inl (cI, 9, .inl (p_fact (B i))) := (hz7 (81 + i) (by omega)).trans hrow
              have hX := hX.kept (fun q h1 => hz7 q (by omega))
              have hS := hS.kept hn6 (fun q h1 h2 => hz7 q (by omega))
              have fr2 : ∀ q : Nat, (80 ≤ q ∧ q ≠ 81 + i ∧ q ≠ 90) → E5 q = Ea q := fun q hq => (hz7 q (by omega)).trans (fr2 q hq)
              refine lv_iinc (v := (nI (i + 1))) (lv' := [(8, .int (nI (i + 1))), (7, .ref (adN 90)), (6, .ref (adN 80)), (5, .int (nI n)), (0, .ref t0), (1, .ref (adN 0)), (2, .ref (adN 50)), (3, .int (nI time)), (4, .int xv)]) hx hb dL_law_149 hl (k := 0) rfl (nI_1 i) (by decide) rfl (fun ls hl => ?_)
              refine lv_goto (tgt := 99) hx hb dL_law_152 (by decide) ?_
              have hfA := rg_s hfA rfl
              exact ih (i + 1) (by omega) (by omega) (by omega) _ E5 H locs ls _ _ (by omega) (by omega) hX hS h80 (fun j hj => by rcases Nat.lt_or_ge j i with q | q; exact (fr2 (81 + j) (by omega)).trans (hdone j q); have q : j = i := (by omega); subst q; exact hrow) (fun j h1 h2 => (fr2 (81 + j) (by omega)).trans (htodo j (by omega) h2)) h90 hfA hI (lv_sub hl [0, 1, 2, 3, 4, 5, 6, 7, 8] rfl)
            · have n_113 := c_113
              have c_113 := i_nle.mp n_113
              have hv0 : v < 9 := (nI_ltI (by omega) (by omega) (b := 9)).mp c_113
              have hcl : (nI v).toNatClampNeg = v := nI_clamp (by omega)
              refine lv_aload hx hb dL_law_116 (lv_at hl 3 rfl) ?_
              refine lv_iload hx hb dL_law_118 (lv_at hl 1 rfl) ?_
              refine f_aldA hx hb hG.1 hI rfl (hWm 80 (by omega)) h80 (vp_in_nI (by omega) (by omega)) (v := .ref (adN (81 + i))) (by rw [show (nI i).toNatClampNeg = i from nI_clamp (by omega)]; exact row_at_at (by omega)) dL_law_120 ?_
              refine lv_iload hx hb dL_law_121 (lv_at hl 0 rfl) ?_
              refine lv_aload_n hx hb dL_law_123 rfl (lv_at hl 6 rfl) ?_
              refine lv_iload hx hb dL_law_124 (lv_at hl 1 rfl) ?_
              refine lv_iload hx hb dL_law_126 (lv_at hl 0 rfl) ?_
              refine f_xcalli (vx_runV (As := [.int (nI i), .int (nI v)]) (rest := [.int (nI v), .ref (adN (81 + i))]) ⟨hx, hb, hml, hown, hts⟩ (m_X3_boat l hl9 hX hnw hn6 hT h8 hXm (nI i) (nI v)) (cwV 2 hts gL_law_X3_boat rfl rfl rfl (by decide +kernel) ⟨(Nat.le_of_ble_eq_true rfl), (Nat.le_of_ble_eq_true rfl)⟩) (fPre_ofV hG hI rfl (hXm 0 (by omega)) hX.1 rfl rfl) rfl rfl hl.1 rfl (lv_room (Nat.le_of_ble_eq_true rfl)) dL_law_128 ⟨(by show _ ≤ 1200130; omega), (by show _ ≤ 5501080; omega)⟩) hI (fun En ce q9 H locs hok hI hq1 hq2 hq3 => ?_) (fun r8 E9 H locs hp hI => ?_)
              · exact absurd hok.1 (by rw [cboat_0 (n := n) (b := i) (v := v) (by omega) hn6 (by omega)]; decide)
              obtain ⟨-, hr9, hX, hn9⟩ := hp
              have hr9 : r8 = (p_fact (B i) v) := hr9.trans (by rw [show (nI i).toNatClampNeg = i from nI_clamp (by omega), show (nI v).toNatClampNeg = v from nI_clamp (by omega)])
              subst hr9
              have h80 : E9 80 = .inl (cJ, n, .inr (.inr (.inr (.inr (row_at adN 81 n))))) := (hn9 80 (by omega)).trans h80
              have h90 : E9 90 = .inl (cI, n, .inl fA9) := (hn9 90 (by omega)).trans h90
              have hrow : E9 (81 + i) = .inl (cI, 9, .inl f9) := (hn9 (81 + i) (by omega)).trans hrow
              have hS := hS.kept hn6 (fun q h1 h2 => hn9 q (by omega))
              have fr1 : ∀ q : Nat, 80 ≤ q ∧ q ≠ 81 + i → E9 q = Ea q := fun q hq => (hn9 q (by omega)).trans (fr1 q hq)
              refine f_iast hx hb hG.1 hI rfl (hWm _ (by omega)) hrow (vp_in_nI (by omega) (by omega)) dL_law_131 (fun E10 H locs hE11 hz12 hI => ?_)
              have hrow : E10 (81 + i) = .inl (cI, 9, .inl (upd f9 v (p_fact (B i) v))) := (by rw [show (nI v).toNatClampNeg = v from nI_clamp (by omega)] at hE11; exact hE11)
              have h80 : E10 80 = .inl (cJ, n, .inr (.inr (.inr (.inr (row_at adN 81 n))))) := (hz12 80 (by omega)).trans h80
              have h90 : E10 90 = .inl (cI, n, .inl fA9) := (hz12 90 (by omega)).trans h90
              have hX := hX.kept (fun q h1 => hz12 q (by omega))
              have hS := hS.kept hn6 (fun q h1 h2 => hz12 q (by omega))
              have fr1 : ∀ q : Nat, 80 ≤ q ∧ q ≠ 81 + i → E10 q = Ea q := fun q hq => (hz12 q (by omega)).trans (fr1 q hq)
              refine lv_iinc (v := (nI (v + 1))) (lv' := [(9, .int (nI (v + 1))), (8, .int (nI i)), (7, .ref (adN 90)), (6, .ref (adN 80)), (5, .int (nI n)), (0, .ref t0), (1, .ref (adN 0)), (2, .ref (adN 50)), (3, .int (nI time)), (4, .int xv)]) hx hb dL_law_132 hl (k := 0) rfl (nI_1 v) (by decide) rfl (fun ls hl => ?_)
              refine lv_goto (tgt := 109) hx hb dL_law_135 (by decide) ?_
              have hf9 := rg_s hf9 rfl
              exact ihv (v + 1) (by omega) (by omega) (by omega) _ E10 H locs ls _ _ (by omega) (by omega) hX hS fr1 hrow hf9 hI (lv_sub hl [0, 1, 2, 3, 4, 5, 6, 7, 8, 9] rfl)
        exact Kihv (9 + 1) 0 (by omega) (by omega) (by omega) _ Ea H locs ls _ _ (by omega) (by omega) hX hS (fun _ _ => rfl) (htodo i (Nat.le_refl _) hi) rg_0 hI (lv_sub hl [0, 1, 2, 3, 4, 5, 6, 7, 8, 9] rfl)
  exact Kih (n + 1) 0 (by omega) (by omega) (by omega) _ EN H locs ls _ _ (by omega) (by omega) hX hS h80 (fun j hj => absurd hj (by omega)) htodo hE9 rg_0 hI (lv_sub hl [0, 1, 2, 3, 4, 5, 6, 7, 8] rfl)
