section FBB
variable {p : Program} {l : Launch} {e : Env} {R : Room} {s : State} {m : MethodId} {args : Array Value} {below : List Frame} {meth : Method} {c : Code} {H H0 : Heap} {locs : List Loc} {cells slots mc ms : Nat} {Q : State → Prop}
variable {pc : Nat} {ls : Array Slot} {rest st0 : List Value} {D : va_G} {z : Nat} {ad : Nat → Nat} {L : List Nat} {E : Nat → va_E}
theorem f_calla {a : Array Value} {post : Int32 → Nat × (Nat → Nat) × (Nat → va_E) → Prop} (hr : va_Run p l e R s m args below meth c H locs cells slots mc ms (F0 m pc ls st0) rest (va_Qi post (fun u t => fB D z u.2.1 (fLS u.1) u.2.2 t) (fA z) a) (fA z)) (hI : fI D (fA z) H0 ad L E H locs)
    (kk : ∀ (r : Int32) (n1 : Nat) (ad1 : Nat → Nat) (E1 : Nat → va_E) (H1 : Heap) (locs1 : List Loc), post r (n1, ad1, E1) → fI D (fA z) H0 ad1 (fLS n1) E1 H1 locs1 → W p l e R s m args below meth c H1 locs1 (cells + mc) (slots + ms) Q (F0 m (pc + 3) ls (.int r :: rest))) : W p l e R s m args below meth c H locs cells slots Q (F0 m pc ls st0) :=
  f_calli hr hI.2.2 (fun r u t H1 locs1 ht hp hb hS1 => kk r u.1 u.2.1 u.2.2 H1 locs1 hp ⟨by rw [← ht]; exact hb.1, hb.2, hS1⟩)
theorem f_callb {a : Array Value} {post : Nat × Nat × (Nat → Nat) × (Nat → va_E) → Prop} (hr : va_Run p l e R s m args below meth c H locs cells slots mc ms (F0 m pc ls st0) rest (va_Qr post (fun u r t => fB D z u.2.2.1 (fLS u.2.1) u.2.2.2 t ∧ u.2.2.1 50 = r) (fA z) a) (fA z)) (hI : fI D (fA z) H0 ad L E H locs)
    (kk : ∀ (T n1 : Nat) (ad1 : Nat → Nat) (E1 : Nat → va_E) (H1 : Heap) (locs1 : List Loc) (ra : Nat), ad1 50 = ra → post (T, n1, ad1, E1) → fI D (fA z) H0 ad1 (fLS n1) E1 H1 locs1 → W p l e R s m args below meth c H1 locs1 (cells + mc) (slots + ms) Q (F0 m (pc + 3) ls (.ref ra :: rest))) : W p l e R s m args below meth c H locs cells slots Q (F0 m pc ls st0) :=
  va_callr hr hI.2.2 (fun q _ h => h) (fun q h => h) (fun u r t H1 locs1 ht _ hp hb _ _ hS1 => kk u.1 u.2.1 u.2.2.1 u.2.2.2 H1 locs1 r hb.2 hp ⟨by rw [← ht]; exact hb.1.1, hb.1.2, hS1⟩)
end FBB
theorem okL_0 : okL w_new (fun _ => 0) (fun _ => 0) 0 0 0 (fun _ => b_new) :=
  ⟨by omega, by omega, ⟨⟨by decide, fun i hi => absurd hi (by omega)⟩, fun i hi => absurd hi (by omega), fun i j hi => absurd hi (by omega)⟩, fun i hi => absurd hi (by omega), fun _ _ _ => rfl⟩
/-- a tick on both sides -/
theorem law_st.go {cI cJ cB : ClassId} {ad : Nat → Nat} {E : Nat → va_E} {w p g : Nat → Int32} {nw n T : Nat} {B F : Nat → Nat → Int32} (h : okL w p g nw n T B) (hT : T + 1 < 2 ^ 30) (hX : x_at cI cB ad E w p g nw n (T + 1) (p_run w p g nw T n F B 1) F) (hS : s_at cI cJ ad E w p g nw n (T + 1) (p_run w p g nw T n F B 1) F) : law_st cI cJ cB (T + 1) n ad E := ⟨w, p, g, nw, _, F, h.go hT, hX, hS⟩
set_option maxHeartbeats 4000000 in
set_option maxRecDepth 100000 in
theorem build_A (l : Launch) {pr : Program} {e : Env} {s : State} {m : MethodId} {args : Array Value} {below : List Frame} {meth : Method} {c : Code} {Q : State → Prop} (hx : pr.tables.exec = Jvm.exec) (hb : c.code = cL_build) (hml : c.maxLocals = 5) (hts : ∀ w ∈ wsL_build, w.before args s = true) (hown : s.vm.findClass RL = some m.cls) {D : va_G} {cI cJ cB : ClassId} {t0 z : Nat} {tx ad : Nat → Nat} {L : List Nat} (hG : fG D cI cJ cB t0 z tx s) {cells slots : Nat} {E : Nat → va_E} {H : Heap} {locs : List Loc} {ls : Array Slot} {time : Nat} (ht : time < 26) (hc : cells ≤ 690) (hs : slots ≤ 3900) (hI : fI D (fA z) s.heap ad L E H locs) (hl : lv_has ls 5 [(0, .ref (ad 0)), (1, .ref t0), (2, .ref (ad 50)), (3, .int (nI time))]) (kk : ∀ (xv : Int32) (H1 : Heap) (locs1 : List Loc) (ls1 : Array Slot), fI D (fA z) s.heap ad L E H1 locs1 → lv_has ls1 5 [(0, .ref (ad 0)), (1, .ref t0), (2, .ref (ad 50)), (3, .int (nI time)), (4, .int xv)] → W pr l e ({ frames := 9, cells := 700, slots := 4000, locals := 170 } : Room) s m args below meth c H1 locs1 cells slots Q (F0 m 82 ls1 [])) : W pr l e ({ frames := 9, cells := 700, slots := 4000, locals := 170 } : Room) s m args below meth c H locs cells slots Q (F0 m 16 ls []) := by
  refine lv_aload_n hx hb dL_build_16 rfl (lv_at hl 1 rfl) ?_
  refine lv_iload_n hx hb dL_build_17 rfl (lv_at hl 3 rfl) ?_
  refine lv_bipush (v := 16) hx hb dL_build_18 (by decide) ?_
  refine lv_irem hx hb dL_build_20 (by decide) ?_
  refine lv_topi (fun tv etv => ?_)
  have etv : tv = (nI (time % 16)) := etv.trans (show nI time - nI time / nI 16 * nI 16 = nI (time % 16) from pk_rem (by omega) (by decide) (by decide))
  subst etv
  refine f_calli1 (va_runS (As := [.ref t0, .int (nI (time % 16))]) (rest := []) ⟨hx, hb, hml, hown, hts⟩ (m_L_cell l (time % 16) (by omega)) (va_cwS 2 hts gL_build_L_cell rfl rfl rfl (by decide +kernel) ⟨(Nat.le_of_ble_eq_true rfl), (Nat.le_of_ble_eq_true rfl)⟩) (fPre_of hG hI) rfl rfl hl.1 rfl (lv_room (Nat.le_of_ble_eq_true rfl)) dL_build_21 ⟨(by show _ ≤ 700; omega), (by show _ ≤ 4000; omega)⟩) hI (fun r1 E2 H locs hp hI => ?_)
  have hq9 : E2 = E := hp
  rw [hq9] at hI
  refine lv_iload_n hx hb dL_build_24 rfl (lv_at hl 3 rfl) ?_
  refine lv_bipush (v := 16) hx hb dL_build_25 (by decide) ?_
  refine lv_idiv hx hb dL_build_27 (by decide) ?_
  refine lv_iconst (v := 5) hx hb dL_build_28 (by decide) ?_
  refine lv_imul hx hb dL_build_29 ?_
  refine lv_ishr hx hb dL_build_30 ?_
  refine lv_topi (fun sv30 _ => ?_)
  refine lv_bipush (v := 47) hx hb dL_build_31 (by decide) ?_
  refine lv_iload_n hx hb dL_build_33 rfl (lv_at hl 3 rfl) ?_
  refine lv_imul hx hb dL_build_34 ?_
  refine lv_iadd hx hb dL_build_35 ?_
  refine lv_topi (fun xv exv => ?_)
  refine lv_istore (lv' := [(4, .int xv), (0, .ref (ad 0)), (1, .ref t0), (2, .ref (ad 50)), (3, .int (nI time))]) hx hb dL_build_36 hl (by decide) rfl (fun ls hl => ?_)
  refine lv_iload_n hx hb dL_build_38 rfl (lv_at hl 4 rfl) ?_
  refine lv_bipush (v := 12) hx hb dL_build_39 (by decide) ?_
  refine lv_icmp_ge (tgt := 82) hx hb dL_build_41 (by decide) (fun c_41 => ?_) (fun c_41 => ?_)
  · have n_41 := i_nlt.mpr c_41
    exact kk xv H locs ls hI (lv_sub hl [1, 2, 3, 4, 0] rfl)
  · have n_41 := c_41
    have c_41 := i_nle.mp n_41
    refine lv_iload hx hb dL_build_44 (lv_at hl 0 rfl) ?_
    refine lv_sipush (v := 10000) hx hb dL_build_46 (by decide) ?_
    refine f_calli1 (va_runS (As := [.int xv, .int 10000]) (rest := []) ⟨hx, hb, hml, hown, hts⟩ (m_L_below l xv 10000 (by decide)) (va_cwS 2 hts gL_build_L_below rfl rfl rfl (by decide +kernel) ⟨(Nat.le_of_ble_eq_true rfl), (Nat.le_of_ble_eq_true rfl)⟩) (fPre_of hG hI) rfl rfl hl.1 rfl (lv_room (Nat.le_of_ble_eq_true rfl)) dL_build_49 ⟨(by show _ ≤ 700; omega), (by show _ ≤ 4000; omega)⟩) hI (fun r3 E4 H locs hp hI => ?_)
    obtain ⟨he, hq9⟩ := hp
    rw [hq9] at hI
    obtain ⟨q49, hq49, e49⟩ := below_nat xv (m := 10000) (by omega) (by omega)
    have he : r3 = nI q49 := he.trans e49
    subst he
    refine lv_bipush (v := 8) hx hb dL_build_52 (by decide) ?_
    refine lv_imul hx hb dL_build_54 ?_
    refine lv_iload_n hx hb dL_build_55 rfl (lv_at hl 4 rfl) ?_
    refine lv_iconst (v := 4) hx hb dL_build_56 (by decide) ?_
    refine lv_icmp_ge (tgt := 64) hx hb dL_build_57 (by decide) (fun c_57 => ?_) (fun c_57 => ?_)
    · have n_57 := i_nlt.mpr c_57
      refine lv_iload_n hx hb dL_build_64 rfl (lv_at hl 4 rfl) ?_
      refine lv_bipush (v := 7) hx hb dL_build_65 (by decide) ?_
      refine lv_icmp_ge (tgt := 74) hx hb dL_build_67 (by decide) (fun c_67 => ?_) (fun c_67 => ?_)
      · have n_67 := i_nlt.mpr c_67
        refine lv_iconst (v := 3) hx hb dL_build_74 (by decide) ?_
        refine lv_iload_n hx hb dL_build_75 rfl (lv_at hl 4 rfl) ?_
        refine lv_iconst (v := 4) hx hb dL_build_76 (by decide) ?_
        refine lv_irem hx hb dL_build_77 (by decide) ?_
        refine lv_iadd hx hb dL_build_78 ?_
        refine lv_iadd hx hb dL_build_79 ?_
        refine lv_topi (fun xw exw => ?_)
        refine lv_istore (lv' := [(4, .int xw), (0, .ref (ad 0)), (1, .ref t0), (2, .ref (ad 50)), (3, .int (nI time))]) hx hb dL_build_80 hl (by decide) rfl (fun ls hl => ?_)
        exact kk xw H locs ls hI (lv_sub hl [1, 2, 3, 4, 0] rfl)
      · have n_67 := c_67
        have c_67 := i_nle.mp n_67
        refine lv_iconst (v := 1) hx hb dL_build_70 (by decide) ?_
        refine lv_goto (tgt := 79) hx hb dL_build_71 (by decide) ?_
        refine lv_iadd hx hb dL_build_79 ?_
        refine lv_topi (fun xw exw => ?_)
        refine lv_istore (lv' := [(4, .int xw), (0, .ref (ad 0)), (1, .ref t0), (2, .ref (ad 50)), (3, .int (nI time))]) hx hb dL_build_80 hl (by decide) rfl (fun ls hl => ?_)
        exact kk xw H locs ls hI (lv_sub hl [1, 2, 3, 4, 0] rfl)
    · have n_57 := c_57
      have c_57 := i_nle.mp n_57
      refine lv_iconst (v := 2) hx hb dL_build_60 (by decide) ?_
      refine lv_goto (tgt := 79) hx hb dL_build_61 (by decide) ?_
      refine lv_iadd hx hb dL_build_79 ?_
      refine lv_topi (fun xw exw => ?_)
      refine lv_istore (lv' := [(4, .int xw), (0, .ref (ad 0)), (1, .ref t0), (2, .ref (ad 50)), (3, .int (nI time))]) hx hb dL_build_80 hl (by decide) rfl (fun ls hl => ?_)
      exact kk xw H locs ls hI (lv_sub hl [1, 2, 3, 4, 0] rfl)

set_option maxHeartbeats 4000000 in
set_option maxRecDepth 100000 in
theorem build_B (l : Launch) {pr : Program} {e : Env} {s : State} {m : MethodId} {args : Array Value} {below : List Frame} {meth : Method} {c : Code} {Q : State → Prop} (hx : pr.tables.exec = Jvm.exec) (hb : c.code = cL_build) (hml : c.maxLocals = 5) (hts : ∀ w ∈ wsL_build, w.before args s = true) (hown : s.vm.findClass RL = some m.cls) {D : va_G} {cI cJ cB : ClassId} {t0 z : Nat} {tx ad : Nat → Nat} {L : List Nat} (hG : fG D cI cJ cB t0 z tx s) {cells slots : Nat} {E : Nat → va_E} {H : Heap} {locs : List Loc} {ls : Array Slot} (hl9 : l.stackTraces = false) {T n : Nat} (hst : law_st cI cJ cB T n ad E) (hLe : L = fLS n) (hT : T < 2 ^ 20) {time : Nat} {xv : Int32} (ht : time < 26) (hc : cells ≤ 600) (hs : slots ≤ 3800) (hI : fI D (fA z) s.heap ad L E H locs) (hl : lv_has ls 5 [(0, .ref (ad 0)), (1, .ref t0), (2, .ref (ad 50)), (3, .int (nI time)), (4, .int xv)]) (kk : ∀ (T1 n1 : Nat) (ad1 : Nat → Nat) (E1 : Nat → va_E) (H1 : Heap) (locs1 : List Loc) (ls1 : Array Slot) (c1 s1 : Nat), T1 ≤ T + 1 → c1 ≤ cells + 21 → s1 ≤ slots + 126 → (ad1 0 = ad 0 ∧ ad1 50 = ad 50) → law_st cI cJ cB T1 n1 ad1 E1 → fI D (fA z) s.heap ad1 (fLS n1) E1 H1 locs1 → lv_has ls1 5 [(0, .ref (ad 0)), (1, .ref t0), (2, .ref (ad 50)), (3, .int (nI time))] → W pr l e ({ frames := 9, cells := 700, slots := 4000, locals := 170 } : Room) s m args below meth c H1 locs1 c1 s1 Q (F0 m 125 ls1 [])) : W pr l e ({ frames := 9, cells := 700, slots := 4000, locals := 170 } : Room) s m args below meth c H locs cells slots Q (F0 m 82 ls []) := by
  subst hLe
  obtain ⟨w0, p0, g0, nw0, B0, F0_, hL0, hX, hS⟩ := hst
  have hT : T < 2 ^ 30 := by omega
  refine lv_aload_n hx hb dL_build_82 rfl (lv_at hl 0 rfl) ?_
  refine lv_aload_n hx hb dL_build_83 rfl (lv_at hl 2 rfl) ?_
  refine lv_iload hx hb dL_build_84 (lv_at hl 4 rfl) ?_
  refine f_calla (vx_runSW (As := [.ref (ad 0), .ref (ad 50), .int xv]) (rest := []) ⟨hx, hb, hml, hown, hts⟩ (m_L_act l hl9 hL0 hT hX hS xv) (vx_cwSW 3 hts gL_build_L_act rfl rfl rfl (by decide +kernel) ⟨(Nat.le_of_ble_eq_true rfl), (Nat.le_of_ble_eq_true rfl)⟩) (fPre_of hG hI) rfl rfl hl.1 rfl (lv_room (Nat.le_of_ble_eq_true rfl)) dL_build_86 ⟨(by show _ ≤ 700; omega), (by show _ ≤ 4000; omega)⟩) hI (fun r1 n1 ad1 E1 H locs hp hI => ?_)
  obtain ⟨he, had, hst⟩ := hp
  have he : r1 = 1 := he
  subst he
  have had : ad1 0 = ad 0 ∧ ad1 50 = ad 50 := had
  have hst : law_st cI cJ cB T n1 ad1 E1 := hst
  have hl : lv_has ls 5 [(0, .ref (ad1 0)), (1, .ref t0), (2, .ref (ad1 50)), (3, .int (nI time)), (4, .int xv)] := by rw [had.1, had.2]; exact hl
  refine lv_if_ne (tgt := 94) hx hb dL_build_89 (by decide) (fun c_89 => ?_) (fun c_89 => ?_)
  · refine lv_iload_n hx hb dL_build_94 rfl (lv_at hl 3 rfl) ?_
    refine lv_bipush (v := 9) hx hb dL_build_95 (by decide) ?_
    refine lv_icmp_le (tgt := 125) hx hb dL_build_97 (by decide) (fun c_97 => ?_) (fun c_97 => ?_)
    · have n_97 := i_nlt.mpr c_97
      exact kk T n1 ad1 E1 H locs ls _ _ (by omega) (by omega) (by omega) had hst hI (by rw [← had.1, ← had.2]; exact (lv_sub hl [0, 1, 2, 3] rfl))
    · have n_97 := c_97
      have c_97 := i_nle.mp n_97
      refine lv_iload hx hb dL_build_100 (lv_at hl 4 rfl) ?_
      refine lv_iconst (v := 4) hx hb dL_build_102 (by decide) ?_
      refine lv_ishr hx hb dL_build_103 ?_
      refine lv_topi (fun sv103 _ => ?_)
      refine lv_iconst (v := 3) hx hb dL_build_104 (by decide) ?_
      refine f_calli1 (va_runS (As := [.int sv103, .int 3]) (rest := []) ⟨hx, hb, hml, hown, hts⟩ (m_L_below l sv103 3 (by decide)) (va_cwS 2 hts gL_build_L_below rfl rfl rfl (by decide +kernel) ⟨(Nat.le_of_ble_eq_true rfl), (Nat.le_of_ble_eq_true rfl)⟩) (fPre_of hG hI) rfl rfl hl.1 rfl (lv_room (Nat.le_of_ble_eq_true rfl)) dL_build_105 ⟨(by show _ ≤ 700; omega), (by show _ ≤ 4000; omega)⟩) hI (fun r1 E2 H locs hp hI => ?_)
      obtain ⟨he, hq9⟩ := hp
      rw [hq9] at hI
      obtain ⟨q105, hq105, e105⟩ := below_nat sv103 (m := 3) (by omega) (by omega)
      have he : r1 = nI q105 := he.trans e105
      subst he
      refine lv_if_ne (tgt := 125) hx hb dL_build_108 (by decide) (fun c_108 => ?_) (fun c_108 => ?_)
      · exact kk T n1 ad1 E1 H locs ls _ _ (by omega) (by omega) (by omega) had hst hI (by rw [← had.1, ← had.2]; exact (lv_sub hl [0, 1, 2, 3] rfl))
      · obtain ⟨w, p, g, nw, B, F, hL0, hX, hS⟩ := hst
        have hnw := hL0.1
        have hn6 := hL0.2.1
        have h8 := hL0.h8
        have hok := hL0.2.2.2.1
        have hXm := fLS_x (n := n1)
        have hSm := fLS_s (n := n1) hn6
        refine lv_aload_n hx hb dL_build_111 rfl (lv_at hl 0 rfl) ?_
        refine lv_iconst (v := 1) hx hb dL_build_112 (by decide) ?_
        refine f_xcalli (vx_runV (As := [.int 1]) (rest := []) ⟨hx, hb, hml, hown, hts⟩ (m_X3_go l hl9 hX hnw hn6 hT h8 hXm 1) (cwV 1 hts gL_build_X3_go rfl rfl rfl (by decide +kernel) ⟨(Nat.le_of_ble_eq_true rfl), (Nat.le_of_ble_eq_true rfl)⟩) (fPre_ofV hG hI rfl (hXm 0 (by omega)) hX.1 rfl rfl) rfl rfl hl.1 rfl (lv_room (Nat.le_of_ble_eq_true rfl)) dL_build_113 ⟨(by show _ ≤ 700; omega), (by show _ ≤ 4000; omega)⟩) hI (fun En ce q9 H locs hok hI hq1 hq2 hq3 => ?_) (fun r3 E4 H locs hp hI => ?_)
        · exact absurd hok.1 (by rw [cgo_1]; decide)
        obtain ⟨-, hr9, hX, hn9⟩ := hp
        have hX : x_at cI cB ad1 E4 w p g nw n1 (T + 1) (p_run w p g nw T n1 F B 1) F := hX
        have hr9 : r3 = p_in (p_run w p g nw T n1 F B 1) n1 - p_in B n1 := hr9
        subst hr9
        have hS := hS.kept hn6 (fun q h1 h2 => hn9 q (by omega))
        refine lv_aload_n hx hb dL_build_116 rfl (lv_at hl 2 rfl) ?_
        have hS50 : E4 50 = .inr (4, [.int (nI T), .ref (ad1 51), .ref (ad1 52), .int (nI nw), .ref (ad1 53), .ref (ad1 54)]) := hS.1
        refine f_calli1 (va_runV (As := []) (rest := [.int (p_in (p_run w p g nw T n1 F B 1) n1 - p_in B n1)]) ⟨hx, hb, hml, hown, hts⟩ (m_X4_go_ l hS hSm hn6 (by omega) hL0.2.2.1 hok) (cwV 0 hts gL_build_X4_go_ rfl rfl rfl (by decide +kernel) ⟨(Nat.le_of_ble_eq_true rfl), (Nat.le_of_ble_eq_true rfl)⟩) (fPre_ofV hG hI rfl (hSm _ (by omega)) hS50 rfl rfl) rfl rfl hl.1 rfl (lv_room (Nat.le_of_ble_eq_true rfl)) dL_build_117 ⟨(by show _ ≤ 700; omega), (by show _ ≤ 4000; omega)⟩) hI (fun r5 E6 H locs hp hI => ?_)
        obtain ⟨he, hS, hf9⟩ := hp
        have he : r5 = p_in (p_run w p g nw T n1 F B 1) n1 - p_in B n1 := he
        subst he
        have hX := hX.kept (fun q h1 => hf9 q (by omega))
        refine lv_icmp_eq (tgt := 125) hx hb dL_build_120 (by decide) (fun c_120 => ?_) (fun c_120 => ?_)
        · exact kk (T + 1) n1 ad1 E6 H locs ls _ _ (by omega) (by omega) (by omega) had (law_st.go hL0 (by omega) hX hS) hI (by rw [← had.1, ← had.2]; exact (lv_sub hl [0, 1, 2, 3] rfl))
        · exact absurd rfl c_120
  · exact absurd c_89 (by decide)

set_option maxHeartbeats 4000000 in
set_option maxRecDepth 100000 in
theorem m_L_build (l : Launch) {D : va_G} {cI cJ cB : ClassId} {t0 z : Nat} {tx ad : Nat → Nat} {L : List Nat} {E : Nat → va_E} (hl9 : l.stackTraces = false) (hXm : ∀ k, k < 5 ∨ (10 ≤ k ∧ k < 24) ∨ (30 ≤ k ∧ k < 44) → k ∈ L) (hLt : ∀ k, k ∈ L → k < 50) (hX : x_at cI cB ad E w_new (fun _ => 0) (fun _ => 0) 0 0 0 (fun _ => b_new) (fun _ _ => 0)) : Met l yL_build wsL_build ({ frames := 9, cells := 700, slots := 4000, locals := 170 } : Room) (va_Pc [.ref (ad 0), .ref t0] (fPre D cI cJ cB t0 z tx ad L E)) (va_Qr (fun (u : Nat × Nat × (Nat → Nat) × (Nat → va_E)) => u.1 ≤ 26 ∧ u.2.2.1 0 = ad 0 ∧ law_st cI cJ cB u.1 u.2.1 u.2.2.1 u.2.2.2) (fun u r t => fB D z u.2.2.1 (fLS u.2.1) u.2.2.2 t ∧ u.2.2.1 50 = r) (fA z)) 700 4000 (fA z) := by
  refine f_ofW (cc := cL_build) (maxL := 5) (ret := some (.object "CoracleRaceLaw$Sim")) (by decide) rfl (Nat.le_of_ble_eq_true rfl) ?_
  intro pr e s m args below meth c Q hx hb hr hml hts hown hlocks hin hG H locs hI hQ ls hl
  have hl : lv_has ls 5 [(0, .ref (ad 0)), (1, .ref t0)] := hl
  have K9 : ∀ (d time : Nat), time ≤ 26 → 27 ≤ time + d → ∀ (T n : Nat) (ad1 : Nat → Nat) (E1 : Nat → va_E) (H : Heap) (locs : List Loc) (ls : Array Slot) (c1 s1 : Nat), T ≤ time → c1 ≤ 10 + 21 * time → s1 ≤ 300 + 126 * time → ad1 0 = ad 0 → law_st cI cJ cB T n ad1 E1 → fI D (fA z) s.heap ad1 (fLS n) E1 H locs → lv_has ls 5 [(0, .ref (ad1 0)), (1, .ref t0), (2, .ref (ad1 50)), (3, .int (nI time))] → W pr l e ({ frames := 9, cells := 700, slots := 4000, locals := 170 } : Room) s m args below meth c H locs c1 s1 Q (F0 m 10 ls []) := by
    intro d
    induction d with
    | zero => intro time h1 h2; exact absurd h2 (by omega)
    | succ d ih =>
      intro time ht1 ht2 T n ad1 E1 H locs ls c1 s1 hT hc hs h0 hst hI hl
      refine lv_iload_n hx hb dL_build_10 rfl (lv_at hl 3 rfl) ?_
      refine lv_bipush (v := 26) hx hb dL_build_11 (by decide) ?_
      refine lv_icmp_ge (tgt := 131) hx hb dL_build_13 (by decide) (fun c_13 => ?_) (fun c_13 => ?_)
      · refine lv_aload_n hx hb dL_build_131 rfl (lv_at hl 2 rfl) ?_
        exact f_retr hQ hx hb hr (Or.inl ⟨_, rfl⟩) hlocks hI.2.2 (by omega) (by omega) dL_build_132 (T, n, ad1, E1) (fBr_of hI rfl) ⟨by omega, h0, hst⟩
      · have ht : time < 26 := (nI_ltI (by omega) (by omega) (b := 26)).mp (i_nle.mp c_13)
        refine build_A l hx hb hml hts hown hG ht (by omega) (by omega) hI hl (fun xv H locs ls hI hl => ?_)
        refine build_B l hx hb hml hts hown hG hl9 hst rfl (by omega) ht (by omega) (by omega) hI hl (fun T1 n1 ad2 E2 H locs ls c2 s2 hT1 hc2 hs2 had hst hI hl => ?_)
        rw [← had.1, ← had.2] at hl
        refine lv_iinc (v := (nI (time + 1))) (lv' := [(3, .int (nI (time + 1))), (0, .ref (ad2 0)), (1, .ref t0), (2, .ref (ad2 50))]) hx hb dL_build_125 hl (k := 3) rfl (nI_1 time) (by decide) rfl (fun ls hl => ?_)
        refine lv_goto (tgt := 10) hx hb dL_build_128 (by decide) ?_
        exact ih (time + 1) (by omega) (by omega) T1 n1 ad2 E2 H locs ls c2 s2 (by omega) (by omega) (by omega) (had.1.trans h0) hst hI (lv_sub hl [1, 2, 3, 0] rfl)
  refine f_new (ci := 4) (C := RX4) (T := TX4) (N := 6) (k := 50) (fs := [.int 0, .null, .null, .int 0, .null, .null]) hx hb hts (by decide +kernel) tyX4 tyX4_ok hown (hts (.classLink RL 10 RX4) (by decide +kernel)) (hts (.instantiable RX4 6) (by decide +kernel)) (hts (.initialized RX4) (by decide +kernel)) hG.1 hI (fG_A hG) rfl (by decide) (fun h9 => absurd (hLt _ h9) (by omega)) (Nat.le_of_ble_eq_true rfl) (Nat.le_of_ble_eq_true rfl) dL_build_0 (fun aN adN EN H hk hr9 hE hEr hI => ?_)
  refine lv_dup hx hb dL_build_3 rfl ?_
  have hN5 : ∀ k, 51 ≤ k → k < 55 → k ∉ L ++ [50] := fun k h1 h2 => nin_app (fun h9 => absurd (hLt _ h9) (by omega)) (by omega)
  refine f_callc (va_runI (As := []) (rest := [.ref aN]) ⟨hx, hb, hml, hown, hts⟩ (m_X4_init l hk in_last hN5 hE) ⟨callB_of 0 hts gL_build_X4_init rfl rfl rfl (hts (.initialized RX4) (by decide +kernel)) (hts (.methodLink RL 60 yX4_init) (by decide +kernel)) (by decide +kernel) ⟨(Nat.le_of_ble_eq_true rfl), (Nat.le_of_ble_eq_true rfl)⟩, rfl, (hts (.instanceMethod yX4_init) (by decide +kernel))⟩ (fPre_of hG hI) rfl rfl hl.1 rfl (lv_room (Nat.le_of_ble_eq_true rfl)) dL_build_4 ⟨(Nat.le_of_ble_eq_true rfl), (Nat.le_of_ble_eq_true rfl)⟩) hI (fun adM EM H locs hp hI => ?_)
  obtain ⟨hA9, hE9, hS9⟩ := hp
  have hA9 : ∀ q : Nat, (q < 51 ∨ 55 ≤ q) → adM q = adN q := hA9
  have hE9 : ∀ q : Nat, (q < 50 ∨ 55 ≤ q) → EM q = EN q := hE9
  have h50 : adM 50 = aN := (hA9 50 (by omega)).trans hk
  have h0 : adM 0 = ad 0 := (hA9 0 (by omega)).trans (hr9 0 (by omega))
  have hXM : x_at cI cB adM EM w_new (fun _ => 0) (fun _ => 0) 0 0 0 (fun _ => b_new) (fun _ _ => 0) := (hX.ad (fun q h1 => (hA9 q (by omega)).trans (hr9 q (by omega)))).kept (fun q h1 => (hE9 q (by omega)).trans (hEr q (by omega)))
  have hI : fI D (fA z) s.heap adM (fLS 0) EM H locs := fI_ren hI (fun k => k) (fLS_pw _) (fun k hk9 => ⟨by
    have hm := fLS_mem.mp hk9
    by_cases q : k < 50
    · have := hXm k (by omega)
      simp [this]
    · have : k = 50 ∨ k = 51 ∨ k = 52 ∨ k = 53 ∨ k = 54 := by omega
      rcases this with rfl | rfl | rfl | rfl | rfl <;> simp, rfl, rfl⟩) (fun a _ b _ h => h)
  refine lv_astore_n (lv' := [(2, .ref aN), (0, .ref (ad 0)), (1, .ref t0)]) hx hb dL_build_7 rfl hl (by decide) rfl (fun ls hl => ?_)
  refine lv_iconst (v := 0) hx hb dL_build_8 (by decide) ?_
  refine lv_istore_n (lv' := [(3, .int 0), (2, .ref aN), (0, .ref (ad 0)), (1, .ref t0)]) hx hb dL_build_9 rfl hl (by decide) rfl (fun ls hl => ?_)
  exact K9 27 0 (by omega) (by omega) 0 0 adM EM H locs ls _ _ (Nat.le_refl _) (by omega) (by omega) h0 ⟨w_new, _, _, 0, _, _, okL_0, hXM, hS9 _ _⟩ hI (by rw [h0, h50]; exact lv_sub hl [2, 3, 1, 0] rfl)
