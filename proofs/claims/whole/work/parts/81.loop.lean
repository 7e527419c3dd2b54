set_option maxHeartbeats 4000000 in
set_option maxRecDepth 100000 in
theorem op_mean (l : Launch) (hl9 : l.stackTraces = false) {pr : Program} {e : Env} {s : State} {m : MethodId} {args : Array Value} {below : List Frame} {meth : Method} {c : Code} {Q : State → Prop} (hx : pr.tables.exec = Jvm.exec) (hb : c.code = cL_law) (hml : c.maxLocals = 9) (hts : ∀ w ∈ wsL_law, w.before args s = true) (hown : s.vm.findClass RL = some m.cls) {D : va_G} {cI cJ cB : ClassId} {t0 z : Nat} {tx ad : Nat → Nat} {L : List Nat} (hG : fG D cI cJ cB t0 z tx s) (hXm : ∀ k, k < 5 ∨ (10 ≤ k ∧ k < 24) ∨ (30 ≤ k ∧ k < 44) → k ∈ L) (hMm : ∀ k, (50 ≤ k ∧ k < 55) ∨ (60 ≤ k ∧ k < 71) ∨ (80 ≤ k ∧ k < 91) → k ∈ L) (h45 : 45 ∈ L) (h99 : 99 ∉ L) {b Lx : Nat} {xs : Nat → Int32} (hL : Lx ≤ 2048) (hS0 : va_X b Lx xs s s.heap) (hbl : b < s.heap.size) (hbA : ¬ fA z b) {i : Nat} (hi : 4 * i + 4 ≤ Lx) {cells slots : Nat} (hc9 : cells ≤ 600000) (hs9 : slots ≤ 7000000) {E : Nat → va_E} {H : Heap} {locs : List Loc} {ls : Array Slot} (hv : law_inv cI cJ cB ad E i) (hI : fI D (fA z) s.heap ad L E H locs) (hl : lv_has ls 9 [(0, .ref b), (1, .ref (ad 0)), (2, .ref (ad 50)), (3, .ref (ad 45)), (4, .int (nI (4 * i)))]) (kk : ∀ (E1 : Nat → va_E) (H1 : Heap) (locs1 : List Loc) (ls1 : Array Slot) (c1 s1 : Nat), c1 ≤ cells + 70 → s1 ≤ slots + 600 → law_inv cI cJ cB ad E1 (i + 1) → fI D (fA z) s.heap ad L E1 H1 locs1 → lv_has ls1 9 [(0, .ref b), (1, .ref (ad 0)), (2, .ref (ad 50)), (3, .ref (ad 45)), (4, .int (nI (4 * i)))] → W pr l e room_1 s m args below meth c H1 locs1 c1 s1 Q (F0 m 991 ls1 [])) : W pr l e room_1 s m args below meth c H locs cells slots Q (F0 m 936 ls []) := by
  obtain ⟨th, w, p, g, nw, n, T, str, S, B, F, fo, hT, hNW, hN6, hrv, hok, hrel, hXx, hMS, hO⟩ := hv
  have h8 : ∀ i, i < n → B i 8 = 0 ∨ B i 8 = 1 := fun q hq => by rw [hrel.1 q hq]; exact mb_in q
  have hne2 : ¬ nI n < 1 → vf_n64 (FP.ddiv (FP.i2d (p_psum (mb S str) n)) (FP.i2d (nI n))) := mean_ok hN6 (fun q hq => (hok q hq).2.2.1)
  have hne1 : ¬ nI n < 1 → vf_n64 (FP.ddiv (FP.i2d (p_psum B n)) (FP.i2d (nI n))) := by rw [p_psum_congr hrel.1]; exact hne2
  refine lv_aload_n hx hb dL_law_936 rfl (lv_at hl 1 rfl) ?_
  refine f_calld1 (va_runV (As := []) (rest := []) ⟨hx, hb, hml, hown, hts⟩ (m_X3_mean l hXx hNW hN6 (by omega) h8 hXm hne1) (cwV 0 hts gL_law_X3_mean rfl rfl rfl (by decide +kernel) ⟨(Nat.le_of_ble_eq_true rfl), (Nat.le_of_ble_eq_true rfl)⟩) (fPre_ofV hG hI rfl (hXm 0 (by omega)) hXx.1 rfl rfl) rfl rfl hl.1 rfl (lv_room (Nat.le_of_ble_eq_true rfl)) dL_law_937 ⟨(by show _ ≤ 601024; omega), (by show _ ≤ 7293034; omega)⟩) hI (fun r1 E1 H locs hp hI => ?_)
  obtain ⟨hr1, hq1⟩ := hp
  rw [hq1] at hI
  refine lv_dstore (lv' := [(5, .double r1), (0, .ref b), (1, .ref (ad 0)), (2, .ref (ad 50)), (3, .ref (ad 45)), (4, .int (nI (4 * i)))]) hx hb dL_law_940 hl (by decide) rfl (fun ls hl => ?_)
  refine lv_aload_n hx hb dL_law_942 rfl (lv_at hl 3 rfl) ?_
  refine f_calld1 (va_runV (As := []) (rest := []) ⟨hx, hb, hml, hown, hts⟩ (m_X5_mean l hMS hMm hNW hN6 (by omega) hrv hok h99 hne2) (cwV 0 hts gL_law_X5_mean rfl rfl rfl (by decide +kernel) ⟨(Nat.le_of_ble_eq_true rfl), (Nat.le_of_ble_eq_true rfl)⟩) (fPre_ofV hG hI rfl (hMm 50 (by decide)) hMS.1.1 rfl rfl) rfl rfl hl.1 rfl (lv_room (Nat.le_of_ble_eq_true rfl)) dL_law_943 ⟨(by show _ ≤ 601024; omega), (by show _ ≤ 7293034; omega)⟩) hI (fun r2 E2 H locs hp hI => ?_)
  obtain ⟨hr2, hMS, hf2⟩ := hp
  have hrr : r1 = r2 := hr1.trans ((p_mean_congr hrel.1).trans hr2.symm)
  subst hrr
  have hXx := hXx.kept (fun q hq => hf2 q (by omega))
  have hO : E2 45 = _ := (hf2 45 (by omega)).trans hO
  refine lv_dstore (lv' := [(7, .double r1), (5, .double r1), (0, .ref b), (1, .ref (ad 0)), (2, .ref (ad 50)), (3, .ref (ad 45)), (4, .int (nI (4 * i)))]) hx hb dL_law_946 hl (by decide) rfl (fun ls hl => ?_)
  refine lv_dload hx hb dL_law_948 (lv_at hl 1 rfl) ?_
  refine lv_dload hx hb dL_law_950 (lv_at hl 0 rfl) ?_
  refine lv_dcmp hx hb dL_law_952 ?_
  refine lv_if_eq (tgt := 974) hx hb dL_law_953 (by decide) (fun c_953 => ?_) (fun c_953 => ?_)
  · refine lv_goto (tgt := 991) hx hb dL_law_974 (by decide) ?_
    exact kk _ H locs ls _ _ (by omega) (by omega) ⟨_, _, _, _, _, _, _, _, _, _, _, _, (show T ≤ 200 * (i + 1) by omega), hNW, hN6, hrv, hok, hrel, hXx, hMS, hO⟩ hI (lv_sub hl [2, 3, 4, 5, 6] rfl)
  · refine lv_dload hx hb dL_law_956 (lv_at hl 1 rfl) ?_
    refine lv_dload hx hb dL_law_958 (lv_at hl 1 rfl) ?_
    refine lv_dcmp hx hb dL_law_960 ?_
    refine lv_if_eq (tgt := 972) hx hb dL_law_961 (by decide) (fun c_961 => ?_) (fun c_961 => ?_)
    · exact absurd c_961 c_953
    · refine lv_dload hx hb dL_law_964 (lv_at hl 0 rfl) ?_
      refine lv_dload hx hb dL_law_966 (lv_at hl 0 rfl) ?_
      refine lv_dcmp hx hb dL_law_968 ?_
      refine lv_if_ne (tgt := 974) hx hb dL_law_969 (by decide) (fun c_969 => ?_) (fun c_969 => ?_)
      · refine lv_goto (tgt := 991) hx hb dL_law_974 (by decide) ?_
        exact kk _ H locs ls _ _ (by omega) (by omega) ⟨_, _, _, _, _, _, _, _, _, _, _, _, (show T ≤ 200 * (i + 1) by omega), hNW, hN6, hrv, hok, hrel, hXx, hMS, hO⟩ hI (lv_sub hl [2, 3, 4, 5, 6] rfl)
      · exact absurd c_969 c_953

set_option maxHeartbeats 4000000 in
set_option maxRecDepth 100000 in
theorem op_digest (l : Launch) (hl9 : l.stackTraces = false) {pr : Program} {e : Env} {s : State} {m : MethodId} {args : Array Value} {below : List Frame} {meth : Method} {c : Code} {Q : State → Prop} (hx : pr.tables.exec = Jvm.exec) (hb : c.code = cL_law) (hml : c.maxLocals = 9) (hts : ∀ w ∈ wsL_law, w.before args s = true) (hown : s.vm.findClass RL = some m.cls) {D : va_G} {cI cJ cB : ClassId} {t0 z : Nat} {tx ad : Nat → Nat} {L : List Nat} (hG : fG D cI cJ cB t0 z tx s) (hXm : ∀ k, k < 5 ∨ (10 ≤ k ∧ k < 24) ∨ (30 ≤ k ∧ k < 44) → k ∈ L) (hMm : ∀ k, (50 ≤ k ∧ k < 55) ∨ (60 ≤ k ∧ k < 71) ∨ (80 ≤ k ∧ k < 91) → k ∈ L) (h45 : 45 ∈ L) (h99 : 99 ∉ L) {b Lx : Nat} {xs : Nat → Int32} (hL : Lx ≤ 2048) (hS0 : va_X b Lx xs s s.heap) (hbl : b < s.heap.size) (hbA : ¬ fA z b) {i : Nat} (hi : 4 * i + 4 ≤ Lx) {cells slots : Nat} (hc9 : cells ≤ 600000) (hs9 : slots ≤ 7000000) {E : Nat → va_E} {H : Heap} {locs : List Loc} {ls : Array Slot} (hv : law_inv cI cJ cB ad E i) (hI : fI D (fA z) s.heap ad L E H locs) (hl : lv_has ls 9 [(0, .ref b), (1, .ref (ad 0)), (2, .ref (ad 50)), (3, .ref (ad 45)), (4, .int (nI (4 * i)))]) (kk : ∀ (E1 : Nat → va_E) (H1 : Heap) (locs1 : List Loc) (ls1 : Array Slot) (c1 s1 : Nat), c1 ≤ cells + 70 → s1 ≤ slots + 600 → law_inv cI cJ cB ad E1 (i + 1) → fI D (fA z) s.heap ad L E1 H1 locs1 → lv_has ls1 9 [(0, .ref b), (1, .ref (ad 0)), (2, .ref (ad 50)), (3, .ref (ad 45)), (4, .int (nI (4 * i)))] → W pr l e room_1 s m args below meth c H1 locs1 c1 s1 Q (F0 m 991 ls1 [])) : W pr l e room_1 s m args below meth c H locs cells slots Q (F0 m 977 ls []) := by
  obtain ⟨th, w, p, g, nw, n, T, str, S, B, F, fo, hT, hNW, hN6, hrv, hok, hrel, hXx, hMS, hO⟩ := hv
  have h8 : ∀ i, i < n → B i 8 = 0 ∨ B i 8 = 1 := fun q hq => by rw [hrel.1 q hq]; exact mb_in q
  refine lv_aload_n hx hb dL_law_977 rfl (lv_at hl 1 rfl) ?_
  refine f_calll1 (va_runV (As := []) (rest := []) ⟨hx, hb, hml, hown, hts⟩ (m_X3_digest l hXx hNW hN6 (by omega) h8 hXm (Ln := (fun i => (S 8 i).toNatClampNeg)) (fun q hq => ⟨by rw [hrel.1 q hq]; exact (okb_len (hok q hq)).1, (okb_len (hok q hq)).2.2⟩)) (cwV 0 hts gL_law_X3_digest rfl rfl rfl (by decide +kernel) ⟨(Nat.le_of_ble_eq_true rfl), (Nat.le_of_ble_eq_true rfl)⟩) (fPre_ofV hG hI rfl (hXm 0 (by omega)) hXx.1 rfl rfl) rfl rfl hl.1 rfl (lv_room (Nat.le_of_ble_eq_true rfl)) dL_law_978 ⟨(by show _ ≤ 601024; omega), (by show _ ≤ 7293034; omega)⟩) hI (fun r1 E1 H locs hp hI => ?_)
  obtain ⟨hr1, hq1⟩ := hp
  rw [hq1] at hI
  refine lv_aload_n hx hb dL_law_981 rfl (lv_at hl 2 rfl) ?_
  refine f_calll1 (va_runV (As := []) (rest := [.long r1]) ⟨hx, hb, hml, hown, hts⟩ (m_X5_digest l hMS hMm hNW hN6 (by omega) hrv hok h99) (cwV 0 hts gL_law_X5_digest rfl rfl rfl (by decide +kernel) ⟨(Nat.le_of_ble_eq_true rfl), (Nat.le_of_ble_eq_true rfl)⟩) (fPre_ofV hG hI rfl (hMm 50 (by decide)) hMS.1.1 rfl rfl) rfl rfl hl.1 rfl (lv_room (Nat.le_of_ble_eq_true rfl)) dL_law_982 ⟨(by show _ ≤ 601024; omega), (by show _ ≤ 7293034; omega)⟩) hI (fun r2 E2 H locs hp hI => ?_)
  obtain ⟨hr2, hMS, hf2⟩ := hp
  have hrr : r1 = r2 := hr1.trans ((p_dig_congr hrel.1 (fun _ _ => rfl) hrel.2.1).trans hr2.symm)
  subst hrr
  have hXx := hXx.kept (fun q hq => hf2 q (by omega))
  have hO : E2 45 = _ := (hf2 45 (by omega)).trans hO
  refine f_lcmp hx hb (rfl) dL_law_985 ?_
  refine lv_if_eq (tgt := 991) hx hb dL_law_986 (by decide) (fun c_986 => ?_) (fun c_986 => ?_)
  · exact kk _ H locs ls _ _ (by omega) (by omega) ⟨_, _, _, _, _, _, _, _, _, _, _, _, (show T ≤ 200 * (i + 1) by omega), hNW, hN6, hrv, hok, hrel, hXx, hMS, hO⟩ hI (lv_sub hl [0, 1, 2, 3, 4] rfl)
  · exact absurd c_986 (by decide)

theorem gt4 {L a : Nat} (hL : L ≤ 2048) (ha : a ≤ 4096) : nI L - 4 < nI a ↔ L < a + 4 := by
  rw [fa_lt]
  have e1 : (nI L - nI 4).toInt = (L : Int) - (4 : Nat) := pk_sub_toInt (by omega) (by decide)
  have e2 : (nI a).toInt = (a : Int) := nI_toInt (by omega)
  have e3 : (nI L - 4).toInt = (L : Int) - (4 : Nat) := e1
  omega
theorem inv_next {cI cJ cB : ClassId} {ad : Nat → Nat} {E : Nat → va_E} {i : Nat} (h : law_inv cI cJ cB ad E i) : law_inv cI cJ cB ad E (i + 1) := by
  obtain ⟨th, w, p, g, nw, n, T, str, S, B, F, fo, hT, h⟩ := h
  exact ⟨th, w, p, g, nw, n, T, str, S, B, F, fo, by omega, h⟩
set_option maxHeartbeats 4000000 in
set_option maxRecDepth 100000 in
theorem law_loop (l : Launch) (hl9 : l.stackTraces = false) {pr : Program} {e : Env} {s : State} {m : MethodId} {args : Array Value} {below : List Frame} {meth : Method} {c : Code} {Q : State → Prop} (hx : pr.tables.exec = Jvm.exec) (hb : c.code = cL_law) (hml : c.maxLocals = 9) (hts : ∀ w ∈ wsL_law, w.before args s = true) (hown : s.vm.findClass RL = some m.cls) {D : va_G} {cI cJ cB : ClassId} {t0 z : Nat} {tx ad : Nat → Nat} {L : List Nat} (hG : fG D cI cJ cB t0 z tx s) (hXm : ∀ k, k < 5 ∨ (10 ≤ k ∧ k < 24) ∨ (30 ≤ k ∧ k < 44) → k ∈ L) (hMm : ∀ k, (50 ≤ k ∧ k < 55) ∨ (60 ≤ k ∧ k < 71) ∨ (80 ≤ k ∧ k < 91) → k ∈ L) (h45 : 45 ∈ L) (h99 : 99 ∉ L) {b Lx : Nat} {xs : Nat → Int32} (hL : Lx ≤ 2048) (hS0 : va_X b Lx xs s s.heap) (hbl : b < s.heap.size) (hbA : ¬ fA z b) (kk : ∀ (E1 : Nat → va_E) (H1 : Heap) (locs1 : List Loc) (ls1 : Array Slot) (c1 s1 : Nat), c1 ≤ 600000 → s1 ≤ 7000000 → fI D (fA z) s.heap ad L E1 H1 locs1 → lv_has ls1 9 [(0, .ref b)] → W pr l e room_1 s m args below meth c H1 locs1 c1 s1 Q (F0 m 997 ls1 [])) : ∀ (k i : Nat), 4 * i ≤ Lx → Lx < 4 * i + 4 * k → ∀ (E : Nat → va_E) (H : Heap) (locs : List Loc) (ls : Array Slot) (cells slots : Nat), cells ≤ 100 + 70 * i → slots ≤ 1000 + 600 * i → law_inv cI cJ cB ad E i → fI D (fA z) s.heap ad L E H locs → lv_has ls 9 [(0, .ref b), (1, .ref (ad 0)), (2, .ref (ad 50)), (3, .ref (ad 45)), (4, .int (nI (4 * i)))] → W pr l e room_1 s m args below meth c H locs cells slots Q (F0 m 23 ls []) := by
  intro k
  induction k with
  | zero => intro i h1 h2; exact absurd h2 (by omega)
  | succ k ih =>
    intro i hi0 hik E H locs ls cells slots hc9 hs9 hv hI hl
    refine lv_iload hx hb dL_law_23 (lv_at hl 4 rfl) ?_
    refine lv_aload_n hx hb dL_law_25 rfl (lv_at hl 0 rfl) ?_
    refine va_slen hx hb hS0 hbl hbA hI.2.2 dL_law_26 ?_
    refine lv_iconst (v := 4) hx hb dL_law_27 (by decide) ?_
    refine lv_isub hx hb dL_law_28 ?_
    refine lv_icmp_gt (tgt := 997) hx hb dL_law_29 (by decide) (fun c_29 => ?_) (fun c_29 => ?_)
    · have n_29 := i_nle.mpr c_29
      exact kk E H locs ls cells slots (by omega) (by omega) hI (lv_sub hl [0] rfl)
    · have n_29 := c_29
      have c_29 := i_nlt.mp n_29
      have hi4 : 4 * i + 4 ≤ Lx := by have h9 : ¬ Lx < 4 * i + 4 := fun q => i_nlt.mpr c_29 ((gt4 hL (by omega)).mpr q); omega
      have K9 : ∀ (E1 : Nat → va_E) (H1 : Heap) (locs1 : List Loc) (ls1 : Array Slot) (c1 s1 : Nat), c1 ≤ cells + 70 → s1 ≤ slots + 600 → law_inv cI cJ cB ad E1 (i + 1) → fI D (fA z) s.heap ad L E1 H1 locs1 → lv_has ls1 9 [(0, .ref b), (1, .ref (ad 0)), (2, .ref (ad 50)), (3, .ref (ad 45)), (4, .int (nI (4 * i)))] → W pr l e room_1 s m args below meth c H1 locs1 c1 s1 Q (F0 m 991 ls1 []) := by
        intro E1 H1 locs1 ls c1 s1 h1 h2 hv1 hI1 hl
        have hi4 : 4 * (i + 1) ≤ Lx := hi4
        refine lv_iinc (v := (nI (4 * (i + 1)))) (lv' := [(4, .int (nI (4 * (i + 1)))), (0, .ref b), (1, .ref (ad 0)), (2, .ref (ad 50)), (3, .ref (ad 45))]) hx hb dL_law_991 hl (k := 4) rfl (nI_add (4 * i) 4) (by decide) rfl (fun ls hl => ?_)
        refine lv_goto (tgt := 23) hx hb dL_law_994 (by decide) ?_
        exact ih (i + 1) (by omega) (by omega) E1 H1 locs1 ls c1 s1 (by omega) (by omega) hv1 hI1 (lv_sub hl [1, 2, 3, 4, 0] rfl)
      refine lv_aload_n hx hb dL_law_32 rfl (lv_at hl 0 rfl) ?_
      refine lv_iload hx hb dL_law_33 (lv_at hl 4 rfl) ?_
      refine va_sld hx hb hS0 hbl hbA hI.2.2 (vp_in_nI (by omega) (by omega)) dL_law_35 ?_
      rw [show (nI (4 * i)).toNatClampNeg = 4 * i from nI_clamp (by omega)]
      refine lv_bipush (v := 15) hx hb dL_law_36 (by decide) ?_
      refine lv_iand hx hb dL_law_38 ?_
      obtain ⟨v, hv16, ev⟩ := pk_andE (xs (4 * i)) (m := 15) 4 (by decide)
      rw [ev]
      rcases (show v = 0 ∨ v = 1 ∨ v = 2 ∨ v = 3 ∨ v = 4 ∨ v = 5 ∨ v = 6 ∨ v = 7 ∨ v = 8 ∨ v = 9 ∨ v = 10 ∨ v = 11 ∨ v = 12 ∨ v = 13 ∨ v = 14 ∨ v = 15 by omega) with rfl | rfl | rfl | rfl | rfl | rfl | rfl | rfl | rfl | rfl | rfl | rfl | rfl | rfl | rfl | rfl
      · refine lv_tableIn (tgt := 112) hx hb dL_law_39 (by decide) (by decide) rfl (by decide) ?_
        exact op_setWater l hl9 hx hb hml hts hown hG hXm hMm h45 h99 hL hS0 hbl hbA hi4 (by omega) (by omega) hv hI (lv_sub hl [0, 1, 2, 3, 4] rfl) K9
      · refine lv_tableIn (tgt := 180) hx hb dL_law_39 (by decide) (by decide) rfl (by decide) ?_
        exact op_weir l hl9 hx hb hml hts hown hG hXm hMm h45 h99 hL hS0 hbl hbA hi4 (by omega) (by omega) hv hI (lv_sub hl [0, 1, 2, 3, 4] rfl) K9
      · refine lv_tableIn (tgt := 248) hx hb dL_law_39 (by decide) (by decide) rfl (by decide) ?_
        exact op_launch l hl9 hx hb hml hts hown hG hXm hMm h45 h99 hL hS0 hbl hbA hi4 (by omega) (by omega) hv hI (lv_sub hl [0, 1, 2, 3, 4] rfl) K9
      · refine lv_tableIn (tgt := 316) hx hb dL_law_39 (by decide) (by decide) rfl (by decide) ?_
        exact op_paddle l hl9 hx hb hml hts hown hG hXm hMm h45 h99 hL hS0 hbl hbA hi4 (by omega) (by omega) hv hI (lv_sub hl [0, 1, 2, 3, 4] rfl) K9
      · refine lv_tableIn (tgt := 396) hx hb dL_law_39 (by decide) (by decide) rfl (by decide) ?_
        exact op_tar l hl9 hx hb hml hts hown hG hXm hMm h45 h99 hL hS0 hbl hbA hi4 (by omega) (by omega) hv hI (lv_sub hl [0, 1, 2, 3, 4] rfl) K9
      · refine lv_tableIn (tgt := 452) hx hb dL_law_39 (by decide) (by decide) rfl (by decide) ?_
        exact op_boat l hl9 hx hb hml hts hown hG hXm hMm h45 h99 hL hS0 hbl hbA hi4 (by omega) (by omega) hv hI (lv_sub hl [0, 1, 2, 3, 4] rfl) K9
      · refine lv_tableIn (tgt := 520) hx hb dL_law_39 (by decide) (by decide) rfl (by decide) ?_
        exact op_count l hl9 hx hb hml hts hown hG hXm hMm h45 h99 hL hS0 hbl hbA hi4 (by omega) (by omega) hv hI (lv_sub hl [0, 1, 2, 3, 4] rfl) K9
      · refine lv_tableIn (tgt := 576) hx hb dL_law_39 (by decide) (by decide) rfl (by decide) ?_
        exact op_next l hl9 hx hb hml hts hown hG hXm hMm h45 h99 hL hS0 hbl hbA hi4 (by omega) (by omega) hv hI (lv_sub hl [0, 1, 2, 3, 4] rfl) K9
      · refine lv_tableIn (tgt := 632) hx hb dL_law_39 (by decide) (by decide) rfl (by decide) ?_
        exact op_rank l hl9 hx hb hml hts hown hG hXm hMm h45 h99 hL hS0 hbl hbA hi4 (by omega) (by omega) hv hI (lv_sub hl [0, 1, 2, 3, 4] rfl) K9
      · refine lv_tableIn (tgt := 688) hx hb dL_law_39 (by decide) (by decide) rfl (by decide) ?_
        exact op_go l hl9 hx hb hml hts hown hG hXm hMm h45 h99 hL hS0 hbl hbA hi4 (by omega) (by omega) hv hI (lv_sub hl [0, 1, 2, 3, 4] rfl) K9
      · refine lv_tableIn (tgt := 744) hx hb dL_law_39 (by decide) (by decide) rfl (by decide) ?_
        exact op_arrives l hl9 hx hb hml hts hown hG hXm hMm h45 h99 hL hS0 hbl hbA hi4 (by omega) (by omega) hv hI (lv_sub hl [0, 1, 2, 3, 4] rfl) K9
      · refine lv_tableIn (tgt := 800) hx hb dL_law_39 (by decide) (by decide) rfl (by decide) ?_
        exact op_foresee l hl9 hx hb hml hts hown hG hXm hMm h45 h99 hL hS0 hbl hbA hi4 (by omega) (by omega) hv hI (lv_sub hl [0, 1, 2, 3, 4] rfl) K9
      · refine lv_tableIn (tgt := 868) hx hb dL_law_39 (by decide) (by decide) rfl (by decide) ?_
        exact op_advise l hl9 hx hb hml hts hown hG hXm hMm h45 h99 hL hS0 hbl hbA hi4 (by omega) (by omega) hv hI (lv_sub hl [0, 1, 2, 3, 4] rfl) K9
      · refine lv_tableIn (tgt := 936) hx hb dL_law_39 (by decide) (by decide) rfl (by decide) ?_
        exact op_mean l hl9 hx hb hml hts hown hG hXm hMm h45 h99 hL hS0 hbl hbA hi4 (by omega) (by omega) hv hI (lv_sub hl [0, 1, 2, 3, 4] rfl) K9
      · refine lv_tableIn (tgt := 977) hx hb dL_law_39 (by decide) (by decide) rfl (by decide) ?_
        exact op_digest l hl9 hx hb hml hts hown hG hXm hMm h45 h99 hL hS0 hbl hbA hi4 (by omega) (by omega) hv hI (lv_sub hl [0, 1, 2, 3, 4] rfl) K9
      · refine lv_tableOut (tgt := 991) hx hb dL_law_39 (by decide) (by decide) ?_
        exact K9 E H locs ls cells slots (by omega) (by omega) (inv_next hv) hI (lv_sub hl [0, 1, 2, 3, 4] rfl)
