theorem row_at_0 (ad : Nat → Nat) (k0 : Nat) : row_at ad k0 0 = fun _ => none := by funext i; exact if_neg (by omega)
theorem row_at_s (ad : Nat → Nat) (k0 i : Nat) : va_up (row_at ad k0 i) i (some (ad (k0 + i))) = row_at ad k0 (i + 1) := by
  funext j
  by_cases h : j = i
  · subst h
    rw [va_up_self]
    unfold row_at
    rw [if_pos (by omega)]
  · rw [va_up_ne _ _ h]
    unfold row_at
    by_cases h2 : j < i
    · rw [if_pos h2, if_pos (by omega)]
    · rw [if_neg h2, if_neg (by omega)]
def fil (v : Int32) (f : Nat → Int32) (i : Nat) : Nat → Int32 := fun j => if j < i then v else f j
theorem fil_0 (v : Int32) (f : Nat → Int32) : fil v f 0 = f := by funext j; exact if_neg (by omega)
theorem fil_s (v : Int32) (f : Nat → Int32) (i : Nat) : upd (fil v f i) i v = fil v f (i + 1) := by
  funext j
  by_cases h : j = i
  · subst h
    rw [show upd (fil v f j) j v j = v from pk_us]
    exact (if_pos (by omega)).symm
  · rw [show upd (fil v f i) i v j = fil v f i j from pk_un h]
    unfold fil
    by_cases h2 : j < i
    · rw [if_pos h2, if_pos (by omega)]
    · rw [if_neg h2, if_neg (by omega)]
theorem rk_s0 {B : Nat → Nat → Int32} {b : Nat → Int32} {i : Nat} (h : p_ahead (B i) b = 0) : 1 + p_rk B b i + 0 = 1 + p_rk B b (i + 1) := by rw [p_rk, if_pos h]; grind
theorem rk_s1 {B : Nat → Nat → Int32} {b : Nat → Int32} {i : Nat} (h : p_ahead (B i) b = 1) : 1 + p_rk B b i + 1 = 1 + p_rk B b (i + 1) := by
  rw [p_rk, if_neg (by rw [h]; decide)]; grind
set_option maxHeartbeats 4000000 in
set_option maxRecDepth 100000 in
theorem m_J7_fill_53178 (l : Launch) {D : va_G} {cI cJ cB : ClassId} {t0 z : Nat} {tx ad : Nat → Nat} {L : List Nat} {E : Nat → va_E} {ka a : Nat} (ha : ad ka = a) (hk : ka ∈ L) {N : Nat} {f : Nat → Int32} (hN : N < 2 ^ 30) (hA : E ka = .inl (cI, N, .inl f)) (v : Int32) : Met l yJ7_fill_53178 wsJ7_fill_53178 ({ frames := 0, cells := 0, slots := 0, locals := 0 } : Room) (va_Pc [.ref a, .int v] (fPre D cI cJ cB t0 z tx ad L E)) (va_Qv (fun (E1 : Nat → va_E) => E1 ka = .inl (cI, N, .inl (fun _ => v)) ∧ ∀ q, q ≠ ka → E1 q = E q) (fB D z ad L) (fA z)) 0 0 (fA z) := by
  refine f_ofWF (cc := cJ7_fill_53178) (maxL := 4) (ret := none) (by decide +kernel) rfl (Nat.le_of_ble_eq_true rfl) ?_
  intro pr e s m args below meth c Q hx hb hr hml hts hown hlocks hin hG H locs hI hQ ls hl
  have hl : lv_has ls 4 [(0, .ref a), (1, .int v)] := hl
  have hfr : ∀ q : Nat, q ≠ ka → E q = E q := fun _ _ => rfl
  have hA : E ka = .inl (cI, N, .inl f) := hA
  refine lv_iconst (v := 0) hx hb dJ7_fill_53178_0 (by decide) ?_
  refine lv_istore_n (lv' := [(2, .int 0), (0, .ref a), (1, .int v)]) hx hb dJ7_fill_53178_1 rfl hl (by decide) rfl (fun ls hl => ?_)
  refine lv_aload_n hx hb dJ7_fill_53178_2 rfl (lv_at hl 1 rfl) ?_
  refine f_alen hx hb hG.1 hI ha hk hA (v := nI N) rfl dJ7_fill_53178_3 ?_
  refine lv_istore_n (lv' := [(3, .int (nI N)), (2, .int 0), (0, .ref a), (1, .int v)]) hx hb dJ7_fill_53178_4 rfl hl (by decide) rfl (fun ls hl => ?_)
  have Kih : ∀ (k i : Nat), i ≤ N → N + 1 ≤ i + k → ∀ (Ea : Nat → va_E) (H : Heap) (locs : List Loc) (ls : Array Slot), (Ea ka = .inl (cI, N, .inl (fil v f i))) → (∀ q, q ≠ ka → Ea q = E q) → fI D (fA z) s.heap ad L Ea H locs → lv_has ls 4 [(0, .ref a), (1, .int v), (2, .int (nI i)), (3, .int (nI N))] → W pr l e ({ frames := 0, cells := 0, slots := 0, locals := 0 } : Room) s m args below meth c H locs 0 0 Q (F0 m 5 ls []) := by
    intro k
    induction k with
    | zero => intro i h1 h2; exact absurd h2 (by omega)
    | succ k ih =>
      intro i hi1i hi2i Ea H locs ls hA hfr hI hl
      refine lv_iload_n hx hb dJ7_fill_53178_5 rfl (lv_at hl 2 rfl) ?_
      refine lv_iload_n hx hb dJ7_fill_53178_6 rfl (lv_at hl 3 rfl) ?_
      refine lv_icmp_ge (tgt := 20) hx hb dJ7_fill_53178_7 (by decide) (fun c_7 => ?_) (fun c_7 => ?_)
      · have n_7 := i_nlt.mpr c_7
        have hi : i = N := by have := (nI_leI (by omega) (by omega)).mp c_7; omega
        obtain ⟨E9, g1, g2, g3⟩ := fI_arr (f := fun _ => v) hI hA (fun j hj => if_pos (by omega))
        exact f_retv hQ hx hb hr hlocks g3.2.2 (by omega) (by omega) dJ7_fill_53178_20 E9 (fB_of g3) ⟨g1, fun q hq => (g2 q hq).trans (hfr q hq)⟩
      · have n_7 := c_7
        have c_7 := i_nle.mp n_7
        have hi : i < N := (nI_ltI (by omega) (by omega)).mp c_7
        have hcl : (nI i).toNatClampNeg = i := nI_clamp (by omega)
        refine lv_aload_n hx hb dJ7_fill_53178_10 rfl (lv_at hl 0 rfl) ?_
        refine lv_iload_n hx hb dJ7_fill_53178_11 rfl (lv_at hl 2 rfl) ?_
        refine lv_iload_n hx hb dJ7_fill_53178_12 rfl (lv_at hl 1 rfl) ?_
        refine f_iast hx hb hG.1 hI ha hk hA (vp_in_nI (by omega) (by omega)) dJ7_fill_53178_13 (fun E1 H locs hE2 hn3 hI => ?_)
        have hA : E1 ka = .inl (cI, N, .inl (upd (fil v f i) i v)) := (by rw [hcl] at hE2; exact hE2)
        have hfr : ∀ q : Nat, q ≠ ka → E1 q = E q := fun q hq => (hn3 q (by omega)).trans (hfr q hq)
        refine lv_iinc (v := (nI (i + 1))) (lv' := [(2, .int (nI (i + 1))), (0, .ref a), (1, .int v), (3, .int (nI N))]) hx hb dJ7_fill_53178_14 hl (k := 2) rfl (nI_1 i) (by decide) rfl (fun ls hl => ?_)
        refine lv_goto (tgt := 5) hx hb dJ7_fill_53178_17 (by decide) ?_
        rw [fil_s] at hA
        exact ih (i + 1) (by omega) (by omega) E1 H locs ls hA hfr hI (lv_sub hl [1, 2, 0, 3] rfl)
  exact Kih (N + 1) 0 (Nat.zero_le _) (by omega) E H locs ls (by rw [fil_0]; exact hA) (fun _ _ => rfl) hI (lv_sub hl [2, 3, 1, 0] rfl)

set_option maxHeartbeats 4000000 in
set_option maxRecDepth 100000 in
theorem m_X4_init (l : Launch) {D : va_G} {cI cJ cB : ClassId} {t0 z : Nat} {tx ad : Nat → Nat} {L : List Nat} {E : Nat → va_E} {a : Nat} (ha : ad 50 = a) (hk : 50 ∈ L) (hN : ∀ k, 51 ≤ k → k < 55 → k ∉ L) (hC : E 50 = .inr (4, [.int 0, .null, .null, .int 0, .null, .null])) : Met l yX4_init wsX4_init ({ frames := 1, cells := 4, slots := 206, locals := 23 } : Room) (va_Pc [.ref a] (fPre D cI cJ cB t0 z tx ad L E)) (va_Qv (fun (u : (Nat → Nat) × (Nat → va_E)) => (∀ q : Nat, (q < 51 ∨ 55 ≤ q) → u.1 q = ad q) ∧ (∀ q : Nat, (q < 50 ∨ 55 ≤ q) → u.2 q = E q) ∧ ∀ (B F : Nat → Nat → Int32), s_at cI cJ u.1 u.2 w_new (fun _ => 0) (fun _ => 0) 0 0 0 B F) (fun u t => fB D z u.1 (L ++ [51] ++ [52] ++ [53] ++ [54]) u.2 t) (fA z)) 4 206 (fA z) := by
  refine f_ofW (cc := cX4_init) (maxL := 1) (ret := none) (by decide) rfl (Nat.le_of_ble_eq_true rfl) ?_
  intro pr e s m args below meth c Q hx hb hr hml hts hown hlocks hin hG H locs hI hQ ls hl
  have hl : lv_has ls 1 [(0, .ref a)] := hl
  have hfr : ∀ q : Nat, q < 50 ∨ 55 ≤ q → E q = E q := fun _ _ => rfl
  have hfa : ∀ q : Nat, (q < 51 ∨ 55 ≤ q) → ad q = ad q := fun _ _ => rfl
  have hC : E 50 = .inr (4, [.int 0, .null, .null, .int 0, .null, .null]) := hC
  refine lv_aload_n hx hb dX4_init_0 rfl (lv_at hl 0 rfl) ?_
  refine W.objInit hx hb hown (hts (.methodLink RX4 1 objectInit) (by decide +kernel)) (hts (.instanceMethod objectInit) (by decide +kernel)) (hts (.code objectInit ⟨#[0xb1]⟩ 1 none) (by decide +kernel)) rfl (by rw [hml]; exact hl.1) rfl dX4_init_1 (Nat.le_of_ble_eq_true rfl) (Nat.le_of_ble_eq_true rfl) ?_
  refine W.eq (g2 := F0 m 4 ls []) rfl ?_
  refine lv_aload_n hx hb dX4_init_4 rfl (lv_at hl 0 rfl) ?_
  refine lv_iconst (v := 5) hx hb dX4_init_5 (by decide) ?_
  refine f_newi (k := 51) (N := 5) hx hb (hts (.arrayClass .int) (by decide +kernel)) hG.1 hI (fG_A hG) (by decide) (by decide) (by decide) (hN 51 (by omega) (by omega)) (Nat.le_of_ble_eq_true rfl) (Nat.le_of_ble_eq_true rfl) dX4_init_6 (fun aN0 adN0 EN0 H hk0 hr0 hEk0 hEr0 hI => ?_)
  have ha_sim : adN0 50 = a := (hr0 50 (by omega)).trans ha
  have hc_sim : EN0 50 = .inr (4, [.int 0, .null, .null, .int 0, .null, .null]) := (hEr0 50 (by omega)).trans hC
  have hfa : ∀ q : Nat, q < 51 ∨ 55 ≤ q → adN0 q = ad q := fun q hq => (hr0 q (by omega)).trans (hfa q hq)
  have hfr : ∀ q : Nat, q < 50 ∨ 55 ≤ q → EN0 q = E q := fun q hq => (hEr0 q (by omega)).trans (hfr q hq)
  have hc_kw : EN0 51 = .inl (cI, 5, .inl (fun _ => 0)) := hEk0
  have ha_kw : adN0 51 = aN0 := hk0
  refine lv_dup hx hb dX4_init_8 rfl ?_
  refine lv_iconst (v := 0) hx hb dX4_init_9 (by decide) ?_
  refine lv_iconst (v := 1) hx hb dX4_init_10 (by decide) ?_
  refine f_iast hx hb hG.1 hI ha_kw in_last hc_kw (vp_in_iff.mpr ⟨by decide, by decide⟩) dX4_init_11 (fun E2 H locs hE3 hn4 hI => ?_)
  have hc_kw : E2 51 = .inl (cI, 5, .inl (upd (fun _ => 0) 0 1)) := hE3
  have hc_sim : E2 50 = .inr (4, [.int 0, .null, .null, .int 0, .null, .null]) := (hn4 50 (by omega)).trans hc_sim
  have hfr : ∀ q : Nat, q < 50 ∨ 55 ≤ q → E2 q = E q := fun q hq => (hn4 q (by omega)).trans (hfr q hq)
  refine lv_dup hx hb dX4_init_12 rfl ?_
  refine lv_iconst (v := 1) hx hb dX4_init_13 (by decide) ?_
  refine lv_iconst (v := 2) hx hb dX4_init_14 (by decide) ?_
  refine f_iast hx hb hG.1 hI ha_kw in_last hc_kw (vp_in_iff.mpr ⟨by decide, by decide⟩) dX4_init_15 (fun E5 H locs hE6 hn7 hI => ?_)
  have hc_kw : E5 51 = .inl (cI, 5, .inl (upd (upd (fun _ => 0) 0 1) 1 2)) := hE6
  have hc_sim : E5 50 = .inr (4, [.int 0, .null, .null, .int 0, .null, .null]) := (hn7 50 (by omega)).trans hc_sim
  have hfr : ∀ q : Nat, q < 50 ∨ 55 ≤ q → E5 q = E q := fun q hq => (hn7 q (by omega)).trans (hfr q hq)
  refine lv_dup hx hb dX4_init_16 rfl ?_
  refine lv_iconst (v := 2) hx hb dX4_init_17 (by decide) ?_
  refine lv_iconst (v := 3) hx hb dX4_init_18 (by decide) ?_
  refine f_iast hx hb hG.1 hI ha_kw in_last hc_kw (vp_in_iff.mpr ⟨by decide, by decide⟩) dX4_init_19 (fun E8 H locs hE9 hn10 hI => ?_)
  have hc_kw : E8 51 = .inl (cI, 5, .inl (upd (upd (upd (fun _ => 0) 0 1) 1 2) 2 3)) := hE9
  have hc_sim : E8 50 = .inr (4, [.int 0, .null, .null, .int 0, .null, .null]) := (hn10 50 (by omega)).trans hc_sim
  have hfr : ∀ q : Nat, q < 50 ∨ 55 ≤ q → E8 q = E q := fun q hq => (hn10 q (by omega)).trans (hfr q hq)
  refine lv_dup hx hb dX4_init_20 rfl ?_
  refine lv_iconst (v := 3) hx hb dX4_init_21 (by decide) ?_
  refine lv_iconst (v := 2) hx hb dX4_init_22 (by decide) ?_
  refine f_iast hx hb hG.1 hI ha_kw in_last hc_kw (vp_in_iff.mpr ⟨by decide, by decide⟩) dX4_init_23 (fun E11 H locs hE12 hn13 hI => ?_)
  have hc_kw : E11 51 = .inl (cI, 5, .inl (upd (upd (upd (upd (fun _ => 0) 0 1) 1 2) 2 3) 3 2)) := hE12
  have hc_sim : E11 50 = .inr (4, [.int 0, .null, .null, .int 0, .null, .null]) := (hn13 50 (by omega)).trans hc_sim
  have hfr : ∀ q : Nat, q < 50 ∨ 55 ≤ q → E11 q = E q := fun q hq => (hn13 q (by omega)).trans (hfr q hq)
  refine lv_dup hx hb dX4_init_24 rfl ?_
  refine lv_iconst (v := 4) hx hb dX4_init_25 (by decide) ?_
  refine lv_iconst (v := 1) hx hb dX4_init_26 (by decide) ?_
  refine f_iast hx hb hG.1 hI ha_kw in_last hc_kw (vp_in_iff.mpr ⟨by decide, by decide⟩) dX4_init_27 (fun E14 H locs hE15 hn16 hI => ?_)
  have hc_kw : E14 51 = .inl (cI, 5, .inl (upd (upd (upd (upd (upd (fun _ => 0) 0 1) 1 2) 2 3) 3 2) 4 1)) := hE15
  have hc_sim : E14 50 = .inr (4, [.int 0, .null, .null, .int 0, .null, .null]) := (hn16 50 (by omega)).trans hc_sim
  have hfr : ∀ q : Nat, q < 50 ∨ 55 ≤ q → E14 q = E q := fun q hq => (hn16 q (by omega)).trans (hfr q hq)
  refine f_put (ci := 4) (v := .ref aN0) (C := RX4) (T := TX4) (N := 6) hx hb hts (by decide +kernel) tyX4 tyX4_ok nmX4 hown hG.1 hI ha_sim (List.mem_append_left _ hk) hc_sim rfl 1 (by decide) (hts (.fieldLink RX4 7 "CoracleRaceLaw$Sim" "water" "[I") (by decide +kernel)) rfl rfl rfl (Nat.le_of_ble_eq_true rfl) dX4_init_28 (fun E17 H locs hE18 hn19 hI => ?_)
  have hc_sim : E17 50 = .inr (4, [.int 0, .ref aN0, .null, .int 0, .null, .null]) := hE18
  have hc_kw : E17 51 = .inl (cI, 5, .inl (upd (upd (upd (upd (upd (fun _ => 0) 0 1) 1 2) 2 3) 3 2) 4 1)) := (hn19 51 (by omega)).trans hc_kw
  have hfr : ∀ q : Nat, q < 50 ∨ 55 ≤ q → E17 q = E q := fun q hq => (hn19 q (by omega)).trans (hfr q hq)
  refine lv_aload_n hx hb dX4_init_31 rfl (lv_at hl 0 rfl) ?_
  refine lv_sipush (v := 201) hx hb dX4_init_32 (by decide) ?_
  refine f_newi (k := 52) (N := 201) hx hb (hts (.arrayClass .int) (by decide +kernel)) hG.1 hI (fG_A hG) (by decide) (by decide) (by decide) (nin_app (hN 52 (by omega) (by omega)) (by omega)) (Nat.le_of_ble_eq_true rfl) (Nat.le_of_ble_eq_true rfl) dX4_init_35 (fun aN19 adN19 EN19 H hk19 hr19 hEk19 hEr19 hI => ?_)
  have ha_sim : adN19 50 = a := (hr19 50 (by omega)).trans ha_sim
  have hc_sim : EN19 50 = .inr (4, [.int 0, .ref aN0, .null, .int 0, .null, .null]) := (hEr19 50 (by omega)).trans hc_sim
  have ha_kw : adN19 51 = aN0 := (hr19 51 (by omega)).trans ha_kw
  have hc_kw : EN19 51 = .inl (cI, 5, .inl (upd (upd (upd (upd (upd (fun _ => 0) 0 1) 1 2) 2 3) 3 2) 4 1)) := (hEr19 51 (by omega)).trans hc_kw
  have hfa : ∀ q : Nat, q < 51 ∨ 55 ≤ q → adN19 q = ad q := fun q hq => (hr19 q (by omega)).trans (hfa q hq)
  have hfr : ∀ q : Nat, q < 50 ∨ 55 ≤ q → EN19 q = E q := fun q hq => (hEr19 q (by omega)).trans (hfr q hq)
  have hc_kV : EN19 52 = .inl (cI, 201, .inl (fun _ => 0)) := hEk19
  have ha_kV : adN19 52 = aN19 := hk19
  refine f_put (ci := 4) (v := .ref aN19) (C := RX4) (T := TX4) (N := 6) hx hb hts (by decide +kernel) tyX4 tyX4_ok nmX4 hown hG.1 hI ha_sim (List.mem_append_left _ (List.mem_append_left _ hk)) hc_sim rfl 2 (by decide) (hts (.fieldLink RX4 13 "CoracleRaceLaw$Sim" "weirs" "[I") (by decide +kernel)) rfl rfl rfl (Nat.le_of_ble_eq_true rfl) dX4_init_37 (fun E21 H locs hE22 hn23 hI => ?_)
  have hc_sim : E21 50 = .inr (4, [.int 0, .ref aN0, .ref aN19, .int 0, .null, .null]) := hE22
  have hc_kw : E21 51 = .inl (cI, 5, .inl (upd (upd (upd (upd (upd (fun _ => 0) 0 1) 1 2) 2 3) 3 2) 4 1)) := (hn23 51 (by omega)).trans hc_kw
  have hc_kV : E21 52 = .inl (cI, 201, .inl (fun _ => 0)) := (hn23 52 (by omega)).trans hc_kV
  have hfr : ∀ q : Nat, q < 50 ∨ 55 ≤ q → E21 q = E q := fun q hq => (hn23 q (by omega)).trans (hfr q hq)
  refine lv_aload_n hx hb dX4_init_40 rfl (lv_at hl 0 rfl) ?_
  refine lv_iconst (v := 0) hx hb dX4_init_41 (by decide) ?_
  refine f_newA (k := 53) (N := 0) hx hb hown (hts (.classLink RX4 16 "[I") (by decide +kernel)) (hG.2.1 (.arrayOver (.array .int)) (by simp [fNest])) hG.1 hI (fG_A hG) (by decide) (by decide) (by decide) (nin_app (nin_app (hN 53 (by omega) (by omega)) (by omega)) (by omega)) (Nat.le_of_ble_eq_true rfl) (Nat.le_of_ble_eq_true rfl) dX4_init_42 (fun aN23 adN23 EN23 H hk23 hr23 hEk23 hEr23 hI => ?_)
  have ha_sim : adN23 50 = a := (hr23 50 (by omega)).trans ha_sim
  have hc_sim : EN23 50 = .inr (4, [.int 0, .ref aN0, .ref aN19, .int 0, .null, .null]) := (hEr23 50 (by omega)).trans hc_sim
  have ha_kw : adN23 51 = aN0 := (hr23 51 (by omega)).trans ha_kw
  have hc_kw : EN23 51 = .inl (cI, 5, .inl (upd (upd (upd (upd (upd (fun _ => 0) 0 1) 1 2) 2 3) 3 2) 4 1)) := (hEr23 51 (by omega)).trans hc_kw
  have ha_kV : adN23 52 = aN19 := (hr23 52 (by omega)).trans ha_kV
  have hc_kV : EN23 52 = .inl (cI, 201, .inl (fun _ => 0)) := (hEr23 52 (by omega)).trans hc_kV
  have hfa : ∀ q : Nat, q < 51 ∨ 55 ≤ q → adN23 q = ad q := fun q hq => (hr23 q (by omega)).trans (hfa q hq)
  have hfr : ∀ q : Nat, q < 50 ∨ 55 ≤ q → EN23 q = E q := fun q hq => (hEr23 q (by omega)).trans (hfr q hq)
  have hc_kb : EN23 53 = .inl (cJ, 0, .inr (.inr (.inr (.inr (fun _ => none))))) := hEk23
  have ha_kb : adN23 53 = aN23 := hk23
  refine f_put (ci := 4) (v := .ref aN23) (C := RX4) (T := TX4) (N := 6) hx hb hts (by decide +kernel) tyX4 tyX4_ok nmX4 hown hG.1 hI ha_sim (List.mem_append_left _ (List.mem_append_left _ (List.mem_append_left _ hk))) hc_sim rfl 4 (by decide) (hts (.fieldLink RX4 17 "CoracleRaceLaw$Sim" "boats" "[[I") (by decide +kernel)) rfl rfl rfl (Nat.le_of_ble_eq_true rfl) dX4_init_45 (fun E25 H locs hE26 hn27 hI => ?_)
  have hc_sim : E25 50 = .inr (4, [.int 0, .ref aN0, .ref aN19, .int 0, .ref aN23, .null]) := hE26
  have hc_kw : E25 51 = .inl (cI, 5, .inl (upd (upd (upd (upd (upd (fun _ => 0) 0 1) 1 2) 2 3) 3 2) 4 1)) := (hn27 51 (by omega)).trans hc_kw
  have hc_kV : E25 52 = .inl (cI, 201, .inl (fun _ => 0)) := (hn27 52 (by omega)).trans hc_kV
  have hc_kb : E25 53 = .inl (cJ, 0, .inr (.inr (.inr (.inr (fun _ => none))))) := (hn27 53 (by omega)).trans hc_kb
  have hfr : ∀ q : Nat, q < 50 ∨ 55 ≤ q → E25 q = E q := fun q hq => (hn27 q (by omega)).trans (hfr q hq)
  refine lv_aload_n hx hb dX4_init_48 rfl (lv_at hl 0 rfl) ?_
  refine lv_iconst (v := 0) hx hb dX4_init_49 (by decide) ?_
  refine f_newA (k := 54) (N := 0) hx hb hown (hts (.classLink RX4 16 "[I") (by decide +kernel)) (hG.2.1 (.arrayOver (.array .int)) (by simp [fNest])) hG.1 hI (fG_A hG) (by decide) (by decide) (by decide) (nin_app (nin_app (nin_app (hN 54 (by omega) (by omega)) (by omega)) (by omega)) (by omega)) (Nat.le_of_ble_eq_true rfl) (Nat.le_of_ble_eq_true rfl) dX4_init_50 (fun aN27 adN27 EN27 H hk27 hr27 hEk27 hEr27 hI => ?_)
  have ha_sim : adN27 50 = a := (hr27 50 (by omega)).trans ha_sim
  have hc_sim : EN27 50 = .inr (4, [.int 0, .ref aN0, .ref aN19, .int 0, .ref aN23, .null]) := (hEr27 50 (by omega)).trans hc_sim
  have ha_kw : adN27 51 = aN0 := (hr27 51 (by omega)).trans ha_kw
  have hc_kw : EN27 51 = .inl (cI, 5, .inl (upd (upd (upd (upd (upd (fun _ => 0) 0 1) 1 2) 2 3) 3 2) 4 1)) := (hEr27 51 (by omega)).trans hc_kw
  have ha_kV : adN27 52 = aN19 := (hr27 52 (by omega)).trans ha_kV
  have hc_kV : EN27 52 = .inl (cI, 201, .inl (fun _ => 0)) := (hEr27 52 (by omega)).trans hc_kV
  have ha_kb : adN27 53 = aN23 := (hr27 53 (by omega)).trans ha_kb
  have hc_kb : EN27 53 = .inl (cJ, 0, .inr (.inr (.inr (.inr (fun _ => none))))) := (hEr27 53 (by omega)).trans hc_kb
  have hfa : ∀ q : Nat, q < 51 ∨ 55 ≤ q → adN27 q = ad q := fun q hq => (hr27 q (by omega)).trans (hfa q hq)
  have hfr : ∀ q : Nat, q < 50 ∨ 55 ≤ q → EN27 q = E q := fun q hq => (hEr27 q (by omega)).trans (hfr q hq)
  have hc_ks : EN27 54 = .inl (cJ, 0, .inr (.inr (.inr (.inr (fun _ => none))))) := hEk27
  have ha_ks : adN27 54 = aN27 := hk27
  refine f_put (ci := 4) (v := .ref aN27) (C := RX4) (T := TX4) (N := 6) hx hb hts (by decide +kernel) tyX4 tyX4_ok nmX4 hown hG.1 hI ha_sim (List.mem_append_left _ (List.mem_append_left _ (List.mem_append_left _ (List.mem_append_left _ hk)))) hc_sim rfl 5 (by decide) (hts (.fieldLink RX4 21 "CoracleRaceLaw$Sim" "strokes" "[[I") (by decide +kernel)) rfl rfl rfl (Nat.le_of_ble_eq_true rfl) dX4_init_53 (fun E29 H locs hE30 hn31 hI => ?_)
  have hc_sim : E29 50 = .inr (4, [.int 0, .ref aN0, .ref aN19, .int 0, .ref aN23, .ref aN27]) := hE30
  have hc_kw : E29 51 = .inl (cI, 5, .inl (upd (upd (upd (upd (upd (fun _ => 0) 0 1) 1 2) 2 3) 3 2) 4 1)) := (hn31 51 (by omega)).trans hc_kw
  have hc_kV : E29 52 = .inl (cI, 201, .inl (fun _ => 0)) := (hn31 52 (by omega)).trans hc_kV
  have hc_kb : E29 53 = .inl (cJ, 0, .inr (.inr (.inr (.inr (fun _ => none))))) := (hn31 53 (by omega)).trans hc_kb
  have hc_ks : E29 54 = .inl (cJ, 0, .inr (.inr (.inr (.inr (fun _ => none))))) := (hn31 54 (by omega)).trans hc_ks
  have hfr : ∀ q : Nat, q < 50 ∨ 55 ≤ q → E29 q = E q := fun q hq => (hn31 q (by omega)).trans (hfr q hq)
  refine lv_aload_n hx hb dX4_init_56 rfl (lv_at hl 0 rfl) ?_
  refine f_get (ci := 4) (v := .ref aN19) (C := RX4) (T := TX4) (N := 6) hx hb hts (by decide +kernel) hown hG.1 hI ha_sim (List.mem_append_left _ (List.mem_append_left _ (List.mem_append_left _ (List.mem_append_left _ hk)))) hc_sim rfl 2 (by decide) (hts (.fieldLink RX4 13 "CoracleRaceLaw$Sim" "weirs" "[I") (by decide +kernel)) rfl dX4_init_57 ?_
  refine lv_iconst (v := -1) hx hb dX4_init_60 (by decide) ?_
  refine f_callv1 (va_runS (As := [.ref aN19, .int (-1)]) (rest := []) ⟨hx, hb, hml, hown, hts⟩ (m_J7_fill_53178 l ha_kV (List.mem_append_left _ (List.mem_append_left _ in_last)) (by decide) hc_kV (-1)) (va_cwS 2 hts gX4_init_J7_fill_53178 rfl rfl rfl (by decide +kernel) ⟨(Nat.le_of_ble_eq_true rfl), (Nat.le_of_ble_eq_true rfl)⟩) (fPre_of hG hI) rfl rfl hl.1 rfl (lv_room (Nat.le_of_ble_eq_true rfl)) dX4_init_61 ⟨(Nat.le_of_ble_eq_true rfl), (Nat.le_of_ble_eq_true rfl)⟩) hI (fun E32 H locs hp hI => ?_)
  obtain ⟨hE33, hn34⟩ := hp
  have hc_kV : E32 52 = .inl (cI, 201, .inl (fun _ => (-1))) := hE33
  have hc_sim : E32 50 = .inr (4, [.int 0, .ref aN0, .ref aN19, .int 0, .ref aN23, .ref aN27]) := (hn34 50 (by omega)).trans hc_sim
  have hc_kw : E32 51 = .inl (cI, 5, .inl (upd (upd (upd (upd (upd (fun _ => 0) 0 1) 1 2) 2 3) 3 2) 4 1)) := (hn34 51 (by omega)).trans hc_kw
  have hc_kb : E32 53 = .inl (cJ, 0, .inr (.inr (.inr (.inr (fun _ => none))))) := (hn34 53 (by omega)).trans hc_kb
  have hc_ks : E32 54 = .inl (cJ, 0, .inr (.inr (.inr (.inr (fun _ => none))))) := (hn34 54 (by omega)).trans hc_ks
  have hfr : ∀ q : Nat, q < 50 ∨ 55 ≤ q → E32 q = E q := fun q hq => (hn34 q (by omega)).trans (hfr q hq)
  exact f_retv hQ hx hb hr hlocks hI.2.2 (by omega) (by omega) dX4_init_64 (adN27, E32) (fB_of hI) (⟨hfa, hfr, fun B F => ⟨(hc_sim).trans (by rw [← ha_kw, ← ha_kV, ← ha_kb, ← ha_ks]; rfl), hc_kw, hc_kV, (hc_kb).trans (by rw [row_at_0]), (hc_ks).trans (by rw [row_at_0]), fun i hi => absurd hi (by omega)⟩⟩)

set_option maxHeartbeats 4000000 in
set_option maxRecDepth 100000 in
theorem m_X4_more (l : Launch) {D : va_G} {cI cJ cB : ClassId} {t0 z : Nat} {tx ad : Nat → Nat} {L : List Nat} {E : Nat → va_E} {kq aq : Nat} (hq : ad kq = aq) (hkq : kq ∈ L) {n k0 : Nat} (hn6 : n ≤ 6) (hQ0 : E kq = .inl (cJ, n, .inr (.inr (.inr (.inr (row_at ad k0 n)))))) {M : Nat → Nat} {G : Nat → Nat → Int32} (hel : ∀ i, i < n → k0 + i ∈ L ∧ E (k0 + i) = .inl (cI, M i, .inl (G i))) {ko ao mo : Nat} {fo : Nat → Int32} (hao : ad ko = ao) (hko : ko ∈ L) (hO : E ko = .inl (cI, mo, .inl fo)) {kn : Nat} (hkn : kn ∉ L) : Met l yX4_more wsX4_more ({ frames := 0, cells := 1, slots := 7, locals := 0 } : Room) (va_Pc [.ref aq, .ref ao] (fPre D cI cJ cB t0 z tx ad L E)) (va_Qr (fun (u : (Nat → Nat) × (Nat → va_E)) => (∀ q : Nat, q ≠ kn → u.1 q = ad q) ∧ (∀ q : Nat, q ≠ kn → u.2 q = E q) ∧ u.2 kn = .inl (cJ, n + 1, .inr (.inr (.inr (.inr (va_up (row_at ad k0 n) n (some ao))))))) (fun u r t => fB D z u.1 (L ++ [kn]) u.2 t ∧ u.1 kn = r) (fA z)) 1 7 (fA z) := by
  refine f_ofW (cc := cX4_more) (maxL := 4) (ret := some (.array (.array .int))) (by decide) rfl (Nat.le_of_ble_eq_true rfl) ?_
  intro pr e s m args below meth c Q hx hb hr hml hts hown hlocks hin hG H locs hI hQ ls hl
  have hl : lv_has ls 4 [(0, .ref aq), (1, .ref ao)] := hl
  have hQ0 : E kq = .inl (cJ, n, .inr (.inr (.inr (.inr (row_at ad k0 n))))) := hQ0
  have hO : E ko = .inl (cI, mo, .inl fo) := hO
  refine lv_aload_n hx hb dX4_more_0 rfl (lv_at hl 0 rfl) ?_
  refine f_alenA hx hb hG.1 hI hq hkq hQ0 (v := nI n) rfl dX4_more_1 ?_
  refine lv_iconst (v := 1) hx hb dX4_more_2 (by decide) ?_
  refine lv_iadd hx hb dX4_more_3 ?_
  refine lv_topi (fun tv etv => ?_)
  have etv : tv = (nI (n + 1)) := etv.trans (nI_1 n)
  subst etv
  refine f_newA (k := kn) (N := n + 1) hx hb hown (hts (.classLink RX4 16 "[I") (by decide +kernel)) (hG.2.1 (.arrayOver (.array .int)) (by simp [fNest])) hG.1 hI (fG_A hG) (nI_pos (by omega)) (nI_clamp (by omega)) (by omega) hkn (Nat.le_of_ble_eq_true rfl) (by show _ ≤ 7; omega) dX4_more_4 (fun aN0 adN0 EN0 H hk0 hr0 hEk0 hEr0 hI => ?_)
  have hnq : kq ≠ kn := fun q9 => hkn (q9 ▸ hkq)
  have hno : ko ≠ kn := fun q9 => hkn (q9 ▸ hko)
  have ha_kq : adN0 kq = aq := (hr0 _ hnq).trans hq
  have hc_kq : EN0 kq = .inl (cJ, n, .inr (.inr (.inr (.inr (row_at ad k0 n))))) := (hEr0 _ hnq).trans hQ0
  have ha_ko : adN0 ko = ao := (hr0 _ hno).trans hao
  have hc_ko : EN0 ko = .inl (cI, mo, .inl fo) := (hEr0 _ hno).trans hO
  have hc_mk : EN0 kn = .inl (cJ, (n + 1), .inr (.inr (.inr (.inr (row_at ad k0 0))))) := by rw [hEk0, row_at_0]
  have ha_mk : adN0 kn = aN0 := hk0
  refine lv_astore_n (lv' := [(2, .ref aN0), (0, .ref aq), (1, .ref ao)]) hx hb dX4_more_7 rfl hl (by decide) rfl (fun ls hl => ?_)
  refine lv_iconst (v := 0) hx hb dX4_more_8 (by decide) ?_
  refine lv_istore_n (lv' := [(3, .int 0), (2, .ref aN0), (0, .ref aq), (1, .ref ao)]) hx hb dX4_more_9 rfl hl (by decide) rfl (fun ls hl => ?_)
  have hnq : kq ≠ kn := fun q9 => hkn (q9 ▸ hkq)
  have hno : ko ≠ kn := fun q9 => hkn (q9 ▸ hko)
  have Kih : ∀ (k i : Nat), i ≤ n → n + 1 ≤ i + k → ∀ (Ea : Nat → va_E) (H : Heap) (locs : List Loc) (ls : Array Slot), (Ea kn = .inl (cJ, n + 1, .inr (.inr (.inr (.inr (row_at ad k0 i)))))) → (∀ q, q ≠ kn → Ea q = EN0 q) → fI D (fA z) s.heap adN0 (L ++ [kn]) Ea H locs → lv_has ls 4 [(0, .ref aq), (1, .ref ao), (2, .ref aN0), (3, .int (nI i))] → W pr l e ({ frames := 0, cells := 1, slots := 7, locals := 0 } : Room) s m args below meth c H locs (0 + 1) (0 + (n + 1)) Q (F0 m 10 ls []) := by
    intro k
    induction k with
    | zero => intro i h1 h2; exact absurd h2 (by omega)
    | succ k ih =>
      intro i hi1i hi2i Ea H locs ls hM hf9 hI hl
      have hQ0 : Ea kq = .inl (cJ, n, .inr (.inr (.inr (.inr (row_at ad k0 n))))) := (hf9 kq hnq).trans hc_kq
      have hO : Ea ko = .inl (cI, mo, .inl fo) := (hf9 ko hno).trans hc_ko
      refine lv_iload_n hx hb dX4_more_10 rfl (lv_at hl 3 rfl) ?_
      refine lv_aload_n hx hb dX4_more_11 rfl (lv_at hl 0 rfl) ?_
      refine f_alenA hx hb hG.1 hI ha_kq (List.mem_append_left _ hkq) hQ0 (v := nI n) rfl dX4_more_12 ?_
      refine lv_icmp_ge (tgt := 28) hx hb dX4_more_13 (by decide) (fun c_13 => ?_) (fun c_13 => ?_)
      · have n_13 := i_nlt.mpr c_13
        have hi : i = n := by have := (nI_leI (by omega) (by omega)).mp c_13; omega
        have hcl : (nI n).toNatClampNeg = n := nI_clamp (by omega)
        rw [hi] at hM
        refine lv_aload_n hx hb dX4_more_28 rfl (lv_at hl 2 rfl) ?_
        refine lv_aload_n hx hb dX4_more_29 rfl (lv_at hl 0 rfl) ?_
        refine f_alenA hx hb hG.1 hI ha_kq (List.mem_append_left _ hkq) hQ0 (v := nI n) rfl dX4_more_30 ?_
        refine lv_aload_n hx hb dX4_more_31 rfl (lv_at hl 1 rfl) ?_
        refine f_astA hx hb hG.1 (hG.2.1 (.arrayOver (.array .int)) (by simp [fNest])) hI ha_mk in_last hM ha_ko (List.mem_append_left _ hko) hO (vp_in_nI (by omega) (by omega)) dX4_more_32 (fun E1 H locs hE2 hn3 hI => ?_)
        have hM : E1 kn = .inl (cJ, (n + 1), .inr (.inr (.inr (.inr (va_up (row_at ad k0 n) n (some ao)))))) := (by rw [hcl] at hE2; exact hE2)
        have hQ0 : E1 kq = .inl (cJ, n, .inr (.inr (.inr (.inr (row_at ad k0 n))))) := (hn3 _ hnq).trans hQ0
        have hO : E1 ko = .inl (cI, mo, .inl fo) := (hn3 _ hno).trans hO
        refine lv_aload_n hx hb dX4_more_33 rfl (lv_at hl 2 rfl) ?_
        exact f_retr hQ hx hb hr (Or.inr ⟨_, rfl⟩) hlocks hI.2.2 (by omega) (by omega) dX4_more_34 (adN0, E1) (fBr_of hI ha_mk) ⟨hr0, fun q hq => (hn3 q hq).trans ((hf9 q hq).trans (hEr0 q hq)), hM⟩
      · have n_13 := c_13
        have c_13 := i_nle.mp n_13
        have hi : i < n := (nI_ltI (by omega) (by omega)).mp c_13
        have hcl : (nI i).toNatClampNeg = i := nI_clamp (by omega)
        have hne9 : k0 + i ≠ kn := fun q9 => hkn (q9 ▸ (hel i hi).1)
        have hel9 : Ea (k0 + i) = .inl (cI, M i, .inl (G i)) := (hf9 _ hne9).trans ((hEr0 _ hne9).trans (hel i hi).2)
        refine lv_aload_n hx hb dX4_more_16 rfl (lv_at hl 2 rfl) ?_
        refine lv_iload_n hx hb dX4_more_17 rfl (lv_at hl 3 rfl) ?_
        refine lv_aload_n hx hb dX4_more_18 rfl (lv_at hl 0 rfl) ?_
        refine lv_iload_n hx hb dX4_more_19 rfl (lv_at hl 3 rfl) ?_
        refine f_aldA hx hb hG.1 hI ha_kq (List.mem_append_left _ hkq) hQ0 (vp_in_nI (by omega) (by omega)) (v := .ref (ad (k0 + i))) (by rw [hcl]; exact row_at_at hi) dX4_more_20 ?_
        refine f_astA hx hb hG.1 (hG.2.1 (.arrayOver (.array .int)) (by simp [fNest])) hI ha_mk in_last hM (hr0 (k0 + i) hne9) (List.mem_append_left _ (hel i hi).1) hel9 (vp_in_nI (by omega) (by omega)) dX4_more_21 (fun E4 H locs hE5 hn6 hI => ?_)
        have hM : E4 kn = .inl (cJ, (n + 1), .inr (.inr (.inr (.inr (va_up (row_at ad k0 i) i (some (ad (k0 + i)))))))) := (by rw [hcl] at hE5; exact hE5)
        have hQ0 : E4 kq = .inl (cJ, n, .inr (.inr (.inr (.inr (row_at ad k0 n))))) := (hn6 _ hnq).trans hQ0
        have hO : E4 ko = .inl (cI, mo, .inl fo) := (hn6 _ hno).trans hO
        have hel9 : E4 (k0 + i) = .inl (cI, (M i), .inl (G i)) := (hn6 _ hne9).trans hel9
        refine lv_iinc (v := (nI (i + 1))) (lv' := [(3, .int (nI (i + 1))), (0, .ref aq), (1, .ref ao), (2, .ref aN0)]) hx hb dX4_more_22 hl (k := 3) rfl (nI_1 i) (by decide) rfl (fun ls hl => ?_)
        refine lv_goto (tgt := 10) hx hb dX4_more_25 (by decide) ?_
        rw [row_at_s] at hM
        have hf9 : ∀ q, q ≠ kn → E4 q = EN0 q := fun q hq => (hn6 q hq).trans (hf9 q hq)
        exact ih (i + 1) (by omega) (by omega) E4 H locs ls hM hf9 hI (lv_sub hl [1, 2, 3, 0] rfl)
  have hM0 := hc_mk
  exact Kih (n + 1) 0 (Nat.zero_le _) (by omega) EN0 H locs ls hc_mk (fun _ _ => rfl) hI (lv_sub hl [2, 3, 1, 0] rfl)

set_option maxHeartbeats 4000000 in
set_option maxRecDepth 100000 in
theorem m_X4_go_ (l : Launch) {D : va_G} {cI cJ cB : ClassId} {t0 z : Nat} {tx ad : Nat → Nat} {L : List Nat} {E : Nat → va_E} {w p g : Nat → Int32} {nw n T : Nat} {B F : Nat → Nat → Int32} (hS : s_at cI cJ ad E w p g nw n T B F) (hSm : ∀ k, (50 ≤ k ∧ k < 55) ∨ (60 ≤ k ∧ k < 60 + n) ∨ (70 ≤ k ∧ k < 70 + n) → k ∈ L) (hn6 : n ≤ 6) (hT : T + 1 < 2 ^ 30) (hv : okv w p g nw) (hok : ∀ i, i < n → okc T (B i)) : Met l yX4_go_ wsX4_go_ ({ frames := 2, cells := 0, slots := 0, locals := 65 } : Room) (va_Pc [.ref (ad 50)] (fPre D cI cJ cB t0 z tx ad L E)) (va_Qi (fun (r : Int32) (E1 : Nat → va_E) => r = p_in (p_run w p g nw T n F B 1) n - p_in B n ∧ s_at cI cJ ad E1 w p g nw n (T + 1) (p_run w p g nw T n F B 1) F ∧ ∀ q : Nat, (q < 50 ∨ 80 ≤ q) → E1 q = E q) (fB D z ad L) (fA z)) 0 0 (fA z) := by
  refine f_ofW (cc := cX4_go_) (maxL := 3) (ret := some .int) (by decide) rfl (Nat.le_of_ble_eq_true rfl) ?_
  intro pr e s m args below meth c Q hx hb hr hml hts hown hlocks hin hG H locs hI hQ ls hl
  have hl : lv_has ls 3 [(0, .ref (ad 50))] := hl
  obtain ⟨hS50, -, -, hS53, -, -⟩ := id hS
  have hS50 : E 50 = .inr (4, [.int (nI T), .ref (ad 51), .ref (ad 52), .int (nI nw), .ref (ad 53), .ref (ad 54)]) := hS50
  have hS53 : E 53 = .inl (cJ, n, .inr (.inr (.inr (.inr (row_at ad 60 n))))) := hS53
  refine lv_iconst (v := 0) hx hb dX4_go__0 (by decide) ?_
  refine lv_istore_n (lv' := [(1, .int 0), (0, .ref (ad 50))]) hx hb dX4_go__1 rfl hl (by decide) rfl (fun ls hl => ?_)
  refine lv_iconst (v := 0) hx hb dX4_go__2 (by decide) ?_
  refine lv_istore_n (lv' := [(2, .int 0), (1, .int 0), (0, .ref (ad 50))]) hx hb dX4_go__3 rfl hl (by decide) rfl (fun ls hl => ?_)
  have Kih : ∀ (k i : Nat), i ≤ n → n + 1 ≤ i + k → ∀ (Ea : Nat → va_E) (H : Heap) (locs : List Loc) (ls : Array Slot), (s_at cI cJ ad Ea w p g nw n T (p_mid w p g nw T n F B 0 i) F) → (∀ q : Nat, (q < 50 ∨ 80 ≤ q) → Ea q = E q) → fI D (fA z) s.heap ad L Ea H locs → lv_has ls 3 [(0, .ref (ad 50)), (1, .int (cm w p g nw T n F B i)), (2, .int (nI i))] → W pr l e ({ frames := 2, cells := 0, slots := 0, locals := 65 } : Room) s m args below meth c H locs 0 0 Q (F0 m 4 ls []) := by
    intro k
    induction k with
    | zero => intro i h1 h2; exact absurd h2 (by omega)
    | succ k ih =>
      intro i hi1i hi2i Ea H locs ls hS hfr hI hl
      obtain ⟨hS50, -, -, hS53, -, -⟩ := id hS
      refine lv_iload_n hx hb dX4_go__4 rfl (lv_at hl 2 rfl) ?_
      refine lv_aload_n hx hb dX4_go__5 rfl (lv_at hl 0 rfl) ?_
      refine f_get (ci := 4) (v := .ref (ad 53)) (C := RX4) (T := TX4) (N := 6) hx hb hts (by decide +kernel) hown hG.1 hI rfl (hSm _ (by omega)) hS50 rfl 4 (by decide) (hts (.fieldLink RX4 17 "CoracleRaceLaw$Sim" "boats" "[[I") (by decide +kernel)) rfl dX4_go__6 ?_
      refine f_alenA hx hb hG.1 hI rfl (hSm _ (by omega)) hS53 (v := nI n) rfl dX4_go__9 ?_
      refine lv_icmp_ge (tgt := 57) hx hb dX4_go__10 (by decide) (fun c_10 => ?_) (fun c_10 => ?_)
      · have n_10 := i_nlt.mpr c_10
        have hi : i = n := by have := (nI_leI (by omega) (by omega)).mp c_10; omega
        rw [hi] at hl hS
        refine lv_aload_n hx hb dX4_go__57 rfl (lv_at hl 0 rfl) ?_
        refine lv_dup hx hb dX4_go__58 rfl ?_
        refine f_get (ci := 4) (v := .int (nI T)) (C := RX4) (T := TX4) (N := 6) hx hb hts (by decide +kernel) hown hG.1 hI rfl (hSm _ (by omega)) hS50 rfl 0 (by decide) (hts (.fieldLink RX4 30 "CoracleRaceLaw$Sim" "tick" "I") (by decide +kernel)) rfl dX4_go__59 ?_
        refine lv_iconst (v := 1) hx hb dX4_go__62 (by decide) ?_
        refine lv_iadd hx hb dX4_go__63 ?_
        refine lv_topi (fun tv etv => ?_)
        have etv : tv = (nI (T + 1)) := etv.trans (nI_1 T)
        subst etv
        refine f_put (ci := 4) (v := .int (nI (T + 1))) (C := RX4) (T := TX4) (N := 6) hx hb hts (by decide +kernel) tyX4 tyX4_ok nmX4 hown hG.1 hI rfl (hSm _ (by omega)) hS50 rfl 0 (by decide) (hts (.fieldLink RX4 30 "CoracleRaceLaw$Sim" "tick" "I") (by decide +kernel)) rfl rfl rfl (Nat.le_of_ble_eq_true rfl) dX4_go__64 (fun E1 H locs hE2 hn3 hI => ?_)
        have hS50 : E1 50 = .inr (4, [.int (nI (T + 1)), .ref (ad 51), .ref (ad 52), .int (nI nw), .ref (ad 53), .ref (ad 54)]) := hE2
        have hS53 : E1 53 = .inl (cJ, n, .inr (.inr (.inr (.inr (row_at ad 60 n))))) := (hn3 53 (by omega)).trans hS53
        refine lv_iload_n hx hb dX4_go__67 rfl (lv_at hl 1 rfl) ?_
        exact f_reti hQ hx hb hr hlocks hI.2.2 (by omega) (by omega) dX4_go__68 E1 (fB_of hI) (⟨rfl, by have h9 := hS.tick (T1 := T + 1) hS50 hn6 hn3; rw [p_mid_n] at h9; exact h9, fun q hq => (hn3 q (by omega)).trans (hfr q hq)⟩)
      · have n_10 := c_10
        have c_10 := i_nle.mp n_10
        have hi : i < n := (nI_ltI (by omega) (by omega)).mp c_10
        have hcl : (nI i).toNatClampNeg = i := nI_clamp (by omega)
        refine lv_aload_n hx hb dX4_go__13 rfl (lv_at hl 0 rfl) ?_
        refine f_get (ci := 4) (v := .ref (ad 53)) (C := RX4) (T := TX4) (N := 6) hx hb hts (by decide +kernel) hown hG.1 hI rfl (hSm _ (by omega)) hS50 rfl 4 (by decide) (hts (.fieldLink RX4 17 "CoracleRaceLaw$Sim" "boats" "[[I") (by decide +kernel)) rfl dX4_go__14 ?_
        refine lv_iload_n hx hb dX4_go__17 rfl (lv_at hl 2 rfl) ?_
        refine f_aldA hx hb hG.1 hI rfl (hSm _ (by omega)) hS53 (vp_in_nI (by omega) (by omega)) (v := .ref (ad (60 + i))) (by rw [show (nI i).toNatClampNeg = i from nI_clamp (by omega)]; exact row_at_at (by omega)) dX4_go__18 ?_
        refine lv_iconst (v := 5) hx hb dX4_go__19 (by decide) ?_
        have hB_i : Ea (60 + i) = .inl (cI, 9, .inl (a9 ((B i) 3) ((B i) 4) ((B i) 5) ((B i) 6) ((B i) 7) (if (B i) 8 = 0 then -1 else (B i) 9) ((B i) 10) ((B i) 11) ((B i) 2))) := by have h9 := (hS.2.2.2.2.2 i hi).1; rw [mid_at hi] at h9; exact h9
        refine f_iald hx hb hG.1 hI rfl (hSm _ (by omega)) hB_i (vp_in_iff.mpr ⟨by decide, by decide⟩) dX4_go__20 ?_
        refine lv_topi (fun tv etv => ?_)
        have etv : tv = (if (B i) 8 = 0 then -1 else (B i) 9) := etv.trans rfl
        subst etv
        refine lv_if_lt (tgt := 27) hx hb dX4_go__21 (by decide) (fun c_21 => ?_) (fun c_21 => ?_)
        · have n_21 := i_nle.mpr c_21
          have h8i : B i 8 = 0 := (tin_lt (fun q => (((hok i hi).2.2.1) q).2)).mp c_21
          refine lv_aload_n hx hb dX4_go__27 rfl (lv_at hl 0 rfl) ?_
          refine lv_iload_n hx hb dX4_go__28 rfl (lv_at hl 2 rfl) ?_
          refine f_callv1 (va_runV (As := [.int (nI i)]) (rest := []) ⟨hx, hb, hml, hown, hts⟩ (m_X4_go l hS hSm hn6 hi (by omega) hv (by rw [mid_at hi]; exact (hok i hi).1) (by rw [mid_at hi]; exact h8i)) (cwV 1 hts gX4_go__X4_go rfl rfl rfl (by decide +kernel) ⟨(Nat.le_of_ble_eq_true rfl), (Nat.le_of_ble_eq_true rfl)⟩) (fPre_ofV hG hI rfl (hSm _ (by omega)) hS50 rfl rfl) rfl rfl hl.1 rfl (lv_room (Nat.le_of_ble_eq_true rfl)) dX4_go__29 ⟨(Nat.le_of_ble_eq_true rfl), (Nat.le_of_ble_eq_true rfl)⟩) hI (fun E4 H locs hp hI => ?_)
          obtain ⟨hO9, hf9⟩ := hp
          rw [mid_at hi] at hO9
          have hS := hS.boat hn6 hi hO9 (by rw [mid_at hi]; exact tick_1) hf9
          have hS50 := hS.1
          have hS53 := hS.2.2.2.1
          have hm9 : va_up (p_mid w p g nw T n F B 0 i) i (p_tick w p g nw (nI T) (F i) (B i)) = (p_mid w p g nw T n F B 0 (i + 1)) := by have h9 := p_mid_s (w := w) (p := p) (g := g) (nw := nw) (T := T) (n := n) (F := F) (B := B) (j := 0) hi; rw [mid_at hi] at h9; exact h9
          rw [hm9] at hS
          have hfr : ∀ q : Nat, (q < 50 ∨ 80 ≤ q) → E4 q = E q := fun q hq => (hf9 q (by omega)).trans (hfr q hq)
          refine lv_iload_n hx hb dX4_go__32 rfl (lv_at hl 1 rfl) ?_
          refine lv_aload_n hx hb dX4_go__33 rfl (lv_at hl 0 rfl) ?_
          refine f_get (ci := 4) (v := .ref (ad 53)) (C := RX4) (T := TX4) (N := 6) hx hb hts (by decide +kernel) hown hG.1 hI rfl (hSm _ (by omega)) hS50 rfl 4 (by decide) (hts (.fieldLink RX4 17 "CoracleRaceLaw$Sim" "boats" "[[I") (by decide +kernel)) rfl dX4_go__34 ?_
          refine lv_iload_n hx hb dX4_go__37 rfl (lv_at hl 2 rfl) ?_
          refine f_aldA hx hb hG.1 hI rfl (hSm _ (by omega)) hS53 (vp_in_nI (by omega) (by omega)) (v := .ref (ad (60 + i))) (by rw [show (nI i).toNatClampNeg = i from nI_clamp (by omega)]; exact row_at_at (by omega)) dX4_go__38 ?_
          refine lv_iconst (v := 5) hx hb dX4_go__39 (by decide) ?_
          have hB_i : E4 (60 + i) = .inl (cI, 9, .inl (a9 ((p_tick w p g nw (nI T) (F i) (B i)) 3) ((p_tick w p g nw (nI T) (F i) (B i)) 4) ((p_tick w p g nw (nI T) (F i) (B i)) 5) ((p_tick w p g nw (nI T) (F i) (B i)) 6) ((p_tick w p g nw (nI T) (F i) (B i)) 7) (if (p_tick w p g nw (nI T) (F i) (B i)) 8 = 0 then -1 else (p_tick w p g nw (nI T) (F i) (B i)) 9) ((p_tick w p g nw (nI T) (F i) (B i)) 10) ((p_tick w p g nw (nI T) (F i) (B i)) 11) ((p_tick w p g nw (nI T) (F i) (B i)) 2))) := hO9
          refine f_iald hx hb hG.1 hI rfl (hSm _ (by omega)) hB_i (vp_in_iff.mpr ⟨by decide, by decide⟩) dX4_go__40 ?_
          refine lv_topi (fun tv etv => ?_)
          have etv : tv = (if (p_tick w p g nw (nI T) (F i) (B i)) 8 = 0 then -1 else (p_tick w p g nw (nI T) (F i) (B i)) 9) := etv.trans rfl
          subst etv
          refine lv_if_lt (tgt := 48) hx hb dX4_go__41 (by decide) (fun c_41 => ?_) (fun c_41 => ?_)
          · have n_41 := i_nle.mpr c_41
            have h9i : (p_tick w p g nw (nI T) (F i) (B i)) 8 = 0 := (tin_lt (fun q => ((okc_tick (f := F i) hv (hok i hi) (by omega)).2.2.1 q).2)).mp c_41
            refine lv_iconst (v := 0) hx hb dX4_go__48 (by decide) ?_
            refine lv_iadd hx hb dX4_go__49 ?_
            refine lv_topi (fun tv etv => ?_)
            have etv : tv = cm w p g nw T n F B (i + 1) := etv.trans (by rw [cm_out hi h8i, if_pos h9i])
            subst etv
            refine lv_istore_n (lv' := [(1, .int (cm w p g nw T n F B (i + 1))), (0, .ref (ad 50)), (2, .int (nI i))]) hx hb dX4_go__50 rfl hl (by decide) rfl (fun ls hl => ?_)
            refine lv_iinc (v := (nI (i + 1))) (lv' := [(2, .int (nI (i + 1))), (1, .int (cm w p g nw T n F B (i + 1))), (0, .ref (ad 50))]) hx hb dX4_go__51 hl (k := 2) rfl (nI_1 i) (by decide) rfl (fun ls hl => ?_)
            refine lv_goto (tgt := 4) hx hb dX4_go__54 (by decide) ?_
            exact ih (i + 1) (by omega) (by omega) E4 H locs ls hS hfr hI (lv_sub hl [2, 1, 0] rfl)
          · have n_41 := c_41
            have c_41 := i_nlt.mp n_41
            have h9i : ¬ (p_tick w p g nw (nI T) (F i) (B i)) 8 = 0 := fun q => n_41 ((tin_lt (fun q => ((okc_tick (f := F i) hv (hok i hi) (by omega)).2.2.1 q).2)).mpr q)
            refine lv_iconst (v := 1) hx hb dX4_go__44 (by decide) ?_
            refine lv_goto (tgt := 49) hx hb dX4_go__45 (by decide) ?_
            refine lv_iadd hx hb dX4_go__49 ?_
            refine lv_topi (fun tv etv => ?_)
            have etv : tv = cm w p g nw T n F B (i + 1) := etv.trans (by rw [cm_out hi h8i, if_neg h9i])
            subst etv
            refine lv_istore_n (lv' := [(1, .int (cm w p g nw T n F B (i + 1))), (0, .ref (ad 50)), (2, .int (nI i))]) hx hb dX4_go__50 rfl hl (by decide) rfl (fun ls hl => ?_)
            refine lv_iinc (v := (nI (i + 1))) (lv' := [(2, .int (nI (i + 1))), (1, .int (cm w p g nw T n F B (i + 1))), (0, .ref (ad 50))]) hx hb dX4_go__51 hl (k := 2) rfl (nI_1 i) (by decide) rfl (fun ls hl => ?_)
            refine lv_goto (tgt := 4) hx hb dX4_go__54 (by decide) ?_
            exact ih (i + 1) (by omega) (by omega) E4 H locs ls hS hfr hI (lv_sub hl [2, 1, 0] rfl)
        · have n_21 := c_21
          have c_21 := i_nlt.mp n_21
          have h8i : ¬ B i 8 = 0 := fun q => n_21 ((tin_lt (fun q => (((hok i hi).2.2.1) q).2)).mpr q)
          refine lv_goto (tgt := 51) hx hb dX4_go__24 (by decide) ?_
          refine lv_iinc (v := (nI (i + 1))) (lv' := [(2, .int (nI (i + 1))), (0, .ref (ad 50)), (1, .int (cm w p g nw T n F B i))]) hx hb dX4_go__51 hl (k := 2) rfl (nI_1 i) (by decide) rfl (fun ls hl => ?_)
          refine lv_goto (tgt := 4) hx hb dX4_go__54 (by decide) ?_
          have hm9 : (p_mid w p g nw T n F B 0 i) = (p_mid w p g nw T n F B 0 (i + 1)) := by have h9 := p_mid_s (w := w) (p := p) (g := g) (nw := nw) (T := T) (n := n) (F := F) (B := B) (j := 0) hi; rw [mid_at hi] at h9; rw [← h9]; unfold p_tick; rw [if_neg h8i, ← mid_at (w := w) (p := p) (g := g) (nw := nw) (T := T) (F := F) (B := B) hi, va_up_same]
          rw [hm9] at hS
          rw [← cm_in (w := w) (p := p) (g := g) (nw := nw) (T := T) (F := F) hi h8i] at hl
          exact ih (i + 1) (by omega) (by omega) Ea H locs ls hS hfr hI (lv_sub hl [1, 2, 0] rfl)
  exact Kih (n + 1) 0 (Nat.zero_le _) (by omega) E H locs ls (by rw [p_mid_0, p_run_0]; exact hS) (fun _ _ => rfl) hI (by rw [cm_0]; exact (lv_sub hl [2, 1, 0] rfl))
