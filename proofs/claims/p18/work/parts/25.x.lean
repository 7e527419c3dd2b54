set_option maxHeartbeats 4000000 in
set_option maxRecDepth 100000 in
theorem m_X3_advise (l : Launch) {D : va_G} {cI cJ cB : ClassId} {t0 z : Nat} {tx ad : Nat → Nat} {L : List Nat} {E : Nat → va_E} (hl9 : l.stackTraces = false) {w p g : Nat → Int32} {nw n T : Nat} {Bs Fs : Nat → Nat → Int32} (hX : x_at cI cB ad E w p g nw n T Bs Fs) (hnw : nw ≤ 6) (hn6 : n ≤ 6) (hTb : T < 2 ^ 30) (h8 : ∀ i, i < n → Bs i 8 = 0 ∨ Bs i 8 = 1) (hXm : ∀ k, k < 5 ∨ (10 ≤ k ∧ k < 24) ∨ (30 ≤ k ∧ k < 44) → k ∈ L) (x y : Int32) : vx_Met l yX3_advise wsX3_advise ({ frames := 6, cells := 1, slots := 6, locals := 107 } : Room) (va_Pc [.ref (ad 0), .int x, .int y] (fPre D cI cJ cB t0 z tx ad L E)) (va_Qi (fun (r : Int32) (E1 : Nat → va_E) => c_advise n x y = 0 ∧ r = (p_advi w p g nw T (Fs x.toNatClampNeg) (Bs x.toNatClampNeg) y.toNatClampNeg 16).1 ∧ x_at cI cB ad E1 w p g nw n T Bs Fs ∧ ∀ q : Nat, 44 ≤ q → E1 q = E q) (fB D z ad L) (fA z)) (f_X D z ad L E (ok2 (c_advise n x y) fIO fIA)) 1 6 (fA z) := by
  refine f_ofX (cc := cX3_advise) (maxL := 9) (ret := some .int) (by decide) rfl (Nat.le_of_ble_eq_true rfl) ?_
  intro pr e s m args below meth c Q hx hb hr hml hT hts hown hlocks hG H locs hI hQ ls hl
  have hl : lv_has ls 9 [(0, .ref (ad 0)), (1, .int x), (2, .int y)] := hl
  obtain ⟨hX0, ⟨hR, hRw, hRp, hRg⟩, hF10, nt, Tt, Bt, Ft, hnt, hF30⟩ := id hX
  have hr1 : 1 ∈ L := hXm _ (by omega)
  have hr2 : 2 ∈ L := hXm _ (by omega)
  have hr3 : 3 ∈ L := hXm _ (by omega)
  have hr4 : 4 ∈ L := hXm _ (by omega)
  obtain ⟨hFo10, hFr10, -⟩ := id hF10
  obtain ⟨hFo30, hFr30, -⟩ := id hF30
  have hX0 : E 0 = .inr (3, [.ref (ad 1), .ref (ad 10), .ref (ad 30)]) := hX0
  have hR : E 1 = .inr (2, [.ref (ad 2), .ref (ad 3), .ref (ad 4), .int (nI nw)]) := hR
  have hRw : E 2 = .inl (cI, 5, .inl w) := hRw
  have hRp : E 3 = .inl (cI, 6, .inl p) := hRp
  have hRg : E 4 = .inl (cI, 6, .inl g) := hRg
  have hFo10 : E 10 = .inr (1, [.ref (ad (10 + 1)), .int (nI n), .int (nI T)]) := hFo10
  have hFr10 : E (10 + 1) = .inl (cB, 6, .inr (.inr (.inr (.inr (fl_row ad 10))))) := hFr10
  have hFo30 : E 30 = .inr (1, [.ref (ad (30 + 1)), .int (nI nt), .int (nI Tt)]) := hFo30
  have hFr30 : E (30 + 1) = .inl (cB, 6, .inr (.inr (.inr (.inr (fl_row ad 30))))) := hFr30
  refine lv_aload_n hx hb dX3_advise_0 rfl (lv_at hl 0 rfl) ?_
  refine f_get (ci := 3) (v := .ref (ad 10)) (C := RX3) (T := TX3) (N := 3) hx hb hts (by decide +kernel) hown hG.1 hI rfl (hXm _ (by omega)) hX0 rfl 1 (by decide) (hts (.fieldLink RX3 19 "CoracleRace" "fleet" "LCoracleRace$Fleet;") (by decide +kernel)) rfl dX3_advise_1 ?_
  refine lv_iload_n hx hb dX3_advise_4 rfl (lv_at hl 1 rfl) ?_
  refine f_calli1 (va_runV (As := [.int x]) (rest := []) ⟨hx, hb, hml, hown, hts⟩ (m_X1_has l (fb := 10) rfl (by decide) (fun k h1 h2 => hXm k (by omega)) hn6 hF10 x) (cwV 1 hts gX3_advise_X1_has rfl rfl rfl (by decide +kernel) ⟨Nat.le_of_ble_eq_true rfl, Nat.le_of_ble_eq_true rfl⟩) (fPre_ofV hG hI rfl (hXm _ (by omega)) hFo10 rfl rfl) rfl rfl hl.1 rfl (lv_room (Nat.le_of_ble_eq_true rfl)) dX3_advise_5 ⟨Nat.le_of_ble_eq_true rfl, Nat.le_of_ble_eq_true rfl⟩) hI (fun r1 E2 H locs hp hI => ?_)
  obtain ⟨he, hq⟩ := hp
  rw [hq] at hI
  refine lv_if_ne (tgt := 21) hx hb dX3_advise_8 (by decide) (fun c_8 => ?_) (fun c_8 => ?_)
  · have p_8 := bl_t he c_8
    obtain ⟨i, hi, hxi⟩ := ix_nat p_8 (by omega)
    subst hxi
    have hcl : (nI i).toNatClampNeg = i := nI_clamp (by omega)
    obtain ⟨hCF, hSF⟩ := hF10.2.2 i (by omega)
    refine lv_iload_n hx hb dX3_advise_21 rfl (lv_at hl 2 rfl) ?_
    refine lv_iconst (v := 1) hx hb dX3_advise_22 (by decide) ?_
    refine lv_icmp_lt (tgt := 32) hx hb dX3_advise_23 (by decide) (fun c_23 => ?_) (fun c_23 => ?_)
    · have n_23 := i_nle.mpr c_23
      exact f_throw (cls := fIA) (text := "ticks are 1 to 60") hQ (Or.inr ⟨by simp [c_advise, c_8, if_pos p_8, p_8, hcl, c_23, n_23], rfl⟩) hl9 hx hb hG hI hown hT hlocks (hl.1.trans hml.symm) (hts (.classLink RX3 37 fIA) (by decide +kernel)) (hts (.initialized fIA) (by decide +kernel)) (fun w hw => hts w (List.mem_cons_of_mem _ (List.mem_append_right _ hw))) vxf_IA vxn_41 vxg_41 (by decide +kernel) dX3_advise_32 dX3_advise_35 dX3_advise_36 dX3_advise_38 dX3_advise_41 (by decide +kernel) (Nat.le_of_ble_eq_true rfl) (Nat.le_of_ble_eq_true rfl) (Nat.le_of_ble_eq_true rfl) (by omega) (by omega)
    · have n_23 := c_23
      have c_23 := i_nlt.mp n_23
      refine lv_iload_n hx hb dX3_advise_26 rfl (lv_at hl 2 rfl) ?_
      refine lv_bipush (v := 60) hx hb dX3_advise_27 (by decide) ?_
      refine lv_icmp_le (tgt := 42) hx hb dX3_advise_29 (by decide) (fun c_29 => ?_) (fun c_29 => ?_)
      · have n_29 := i_nlt.mpr c_29
        obtain ⟨u, hu, hxu⟩ := le_nat (n := 60) (one_le c_23) c_29 (by omega)
        subst hxu
        have hcu : (nI u).toNatClampNeg = u := nI_clamp (by omega)
        refine lv_iconst (v := 0) hx hb dX3_advise_42 (by decide) ?_
        refine lv_istore_n (lv' := [(3, .int 0), (0, .ref (ad 0)), (1, .int (nI i)), (2, .int (nI u))]) hx hb dX3_advise_43 rfl hl (by decide) rfl (fun ls hl => ?_)
        refine lv_iconst (v := -1) hx hb dX3_advise_44 (by decide) ?_
        refine lv_istore (lv' := [(4, .int (-1)), (3, .int 0), (0, .ref (ad 0)), (1, .int (nI i)), (2, .int (nI u))]) hx hb dX3_advise_45 hl (by decide) rfl (fun ls hl => ?_)
        refine lv_iconst (v := 0) hx hb dX3_advise_47 (by decide) ?_
        refine lv_istore (lv' := [(5, .int 0), (4, .int (-1)), (3, .int 0), (0, .ref (ad 0)), (1, .int (nI i)), (2, .int (nI u))]) hx hb dX3_advise_48 hl (by decide) rfl (fun ls hl => ?_)
        have Kih : ∀ (k fi : Nat), fi ≤ 4 → 4 + 1 ≤ fi + k → ∀ (Ea : Nat → va_E) (H : Heap) (locs : List Loc) (ls : Array Slot), (x_at cI cB ad Ea w p g nw n T Bs Fs) → (∀ q : Nat, 44 ≤ q → Ea q = E q) → fI D (fA z) s.heap ad L Ea H locs → lv_has ls 9 [(0, .ref (ad 0)), (1, .int (nI i)), (2, .int (nI u)), (3, .int ((p_advi w p g nw T (Fs i) (Bs i) u (4 * fi)).1)), (4, .int ((p_advi w p g nw T (Fs i) (Bs i) u (4 * fi)).2)), (5, .int (nI fi))] → W pr l e ({ frames := 6, cells := 1, slots := 6, locals := 107 } : Room) s m args below meth c H locs 0 0 Q (F0 m 50 ls []) := by
          intro k
          induction k with
          | zero => intro fi h1 h2; exact absurd h2 (by omega)
          | succ k ih =>
            intro fi hi1fi hi2fi Ea H locs ls hXa hfr hI hl
            refine lv_iload hx hb dX3_advise_50 (lv_at hl 5 rfl) ?_
            refine lv_iconst (v := 3) hx hb dX3_advise_52 (by decide) ?_
            refine lv_icmp_gt (tgt := 111) hx hb dX3_advise_53 (by decide) (fun c_53 => ?_) (fun c_53 => ?_)
            · have n_53 := i_nle.mpr c_53
              have hfe : fi = 4 := by have := (nI_ltI (by omega) (by omega) (a := 3)).mp c_53; omega
              refine lv_iload_n hx hb dX3_advise_111 rfl (lv_at hl 3 rfl) ?_
              exact f_xreti hQ hx hb hr hlocks hI.2.2 (by omega) (by omega) dX3_advise_112 Ea (fB_of hI) (⟨by simp [c_advise, c_8, if_pos p_8, p_8, hcl, c_23, n_23, c_29, n_29, c_53, n_53], by rw [hcl, hcu, hfe], hXa, hfr⟩)
            · have n_53 := c_53
              have c_53 := i_nlt.mp n_53
              have hfe : fi ≤ 3 := (nI_leI (by omega) (by omega) (b := 3)).mp c_53
              refine lv_iconst (v := 0) hx hb dX3_advise_56 (by decide) ?_
              refine lv_istore (lv' := [(6, .int 0), (0, .ref (ad 0)), (1, .int (nI i)), (2, .int (nI u)), (3, .int ((p_advi w p g nw T (Fs i) (Bs i) u (4 * fi)).1)), (4, .int ((p_advi w p g nw T (Fs i) (Bs i) u (4 * fi)).2)), (5, .int (nI fi))]) hx hb dX3_advise_57 hl (by decide) rfl (fun ls hl => ?_)
              have Kih2 : ∀ (k2 se : Nat), se ≤ 4 → 4 + 1 ≤ se + k2 → ∀ (Eb : Nat → va_E) (H : Heap) (locs : List Loc) (ls : Array Slot), (x_at cI cB ad Eb w p g nw n T Bs Fs) → (∀ q : Nat, 44 ≤ q → Eb q = E q) → fI D (fA z) s.heap ad L Eb H locs → lv_has ls 9 [(0, .ref (ad 0)), (1, .int (nI i)), (2, .int (nI u)), (3, .int ((p_advi w p g nw T (Fs i) (Bs i) u (4 * fi + se)).1)), (4, .int ((p_advi w p g nw T (Fs i) (Bs i) u (4 * fi + se)).2)), (5, .int (nI fi)), (6, .int (nI se))] → W pr l e ({ frames := 6, cells := 1, slots := 6, locals := 107 } : Room) s m args below meth c H locs 0 0 Q (F0 m 59 ls []) := by
                intro k2
                induction k2 with
                | zero => intro se h1 h2; exact absurd h2 (by omega)
                | succ k2 ih2 =>
                  intro se hi1se hi2se Eb H locs ls hXa hfr hI hl
                  have hX0 := hXa.1
                  refine lv_iload hx hb dX3_advise_59 (lv_at hl 6 rfl) ?_
                  refine lv_iconst (v := 3) hx hb dX3_advise_61 (by decide) ?_
                  refine lv_icmp_gt (tgt := 105) hx hb dX3_advise_62 (by decide) (fun c_62 => ?_) (fun c_62 => ?_)
                  · have n_62 := i_nle.mpr c_62
                    have hse : se = 4 := by have := (nI_ltI (by omega) (by omega) (a := 3)).mp c_62; omega
                    refine lv_iinc (v := (nI (fi + 1))) (lv' := [(5, .int (nI (fi + 1))), (0, .ref (ad 0)), (1, .int (nI i)), (2, .int (nI u)), (3, .int ((p_advi w p g nw T (Fs i) (Bs i) u (4 * fi + se)).1)), (4, .int ((p_advi w p g nw T (Fs i) (Bs i) u (4 * fi + se)).2)), (6, .int (nI se))]) hx hb dX3_advise_105 hl (k := 5) rfl (nI_1 fi) (by decide) rfl (fun ls hl => ?_)
                    refine lv_goto (tgt := 50) hx hb dX3_advise_108 (by decide) ?_
                    rw [hse, show 4 * fi + 4 = 4 * (fi + 1) by omega] at hl
                    exact ih (fi + 1) (by omega) (by omega) Eb H locs ls hXa hfr hI (lv_sub hl [1, 2, 3, 4, 5, 0] rfl)
                  · have n_62 := c_62
                    have c_62 := i_nlt.mp n_62
                    have hse : se ≤ 3 := (nI_leI (by omega) (by omega) (b := 3)).mp c_62
                    have had := p_adt_of fi se (by omega)
                    refine lv_iload hx hb dX3_advise_65 (lv_at hl 5 rfl) ?_
                    refine lv_bipush (v := 10) hx hb dX3_advise_67 (by decide) ?_
                    refine lv_imul hx hb dX3_advise_69 ?_
                    refine lv_topi (fun tv etv => ?_)
                    have etv : tv = nI (fi * 10) := etv.trans (pk_mul fi 10)
                    subst etv
                    refine lv_iload hx hb dX3_advise_70 (lv_at hl 6 rfl) ?_
                    refine lv_iadd hx hb dX3_advise_72 ?_
                    refine lv_topi (fun tv etv => ?_)
                    have etv : tv = nI (fi * 10 + se) := etv.trans (nI_add (fi * 10) se)
                    subst etv
                    refine lv_istore (lv' := [(7, .int (nI (fi * 10 + se))), (0, .ref (ad 0)), (1, .int (nI i)), (2, .int (nI u)), (3, .int ((p_advi w p g nw T (Fs i) (Bs i) u (4 * fi + se)).1)), (4, .int ((p_advi w p g nw T (Fs i) (Bs i) u (4 * fi + se)).2)), (5, .int (nI fi)), (6, .int (nI se))]) hx hb dX3_advise_73 hl (by decide) rfl (fun ls hl => ?_)
                    refine lv_aload_n hx hb dX3_advise_75 rfl (lv_at hl 1 rfl) ?_
                    refine lv_iload_n hx hb dX3_advise_76 rfl (lv_at hl 2 rfl) ?_
                    refine lv_iload hx hb dX3_advise_77 (lv_at hl 0 rfl) ?_
                    refine lv_iload_n hx hb dX3_advise_79 rfl (lv_at hl 3 rfl) ?_
                    refine f_calli1 (va_runV (As := [.int (nI i), .int (nI (fi * 10 + se)), .int (nI u)]) (rest := []) ⟨hx, hb, hml, hown, hts⟩ (m_X3_placeWith l hXa hnw hn6 hTb h8 hXm hi (nI (fi * 10 + se)) (m9 := u) hu) (cwV 3 hts gX3_advise_X3_placeWith rfl rfl rfl (by decide +kernel) ⟨Nat.le_of_ble_eq_true rfl, Nat.le_of_ble_eq_true rfl⟩) (fPre_ofV hG hI rfl (hXm _ (by omega)) hX0 rfl rfl) rfl rfl hl.1 rfl (lv_room (Nat.le_of_ble_eq_true rfl)) dX3_advise_80 ⟨Nat.le_of_ble_eq_true rfl, Nat.le_of_ble_eq_true rfl⟩) hI (fun r3 E4 H locs hp hI => ?_)
                    obtain ⟨he7, hXa, hn8⟩ := hp
                    have hfr : ∀ q : Nat, 44 ≤ q → E4 q = E q := fun q hq => (hn8 q hq).trans (hfr q hq)
                    subst he7
                    refine lv_istore (lv' := [(8, .int (p_far w p g nw T (Fs i) (Bs i) u (nI (fi * 10 + se)))), (7, .int (nI (fi * 10 + se))), (0, .ref (ad 0)), (1, .int (nI i)), (2, .int (nI u)), (3, .int ((p_advi w p g nw T (Fs i) (Bs i) u (4 * fi + se)).1)), (4, .int ((p_advi w p g nw T (Fs i) (Bs i) u (4 * fi + se)).2)), (5, .int (nI fi)), (6, .int (nI se))]) hx hb dX3_advise_83 hl (by decide) rfl (fun ls hl => ?_)
                    refine lv_iload hx hb dX3_advise_85 (lv_at hl 0 rfl) ?_
                    refine lv_iload hx hb dX3_advise_87 (lv_at hl 6 rfl) ?_
                    refine lv_icmp_le (tgt := 99) hx hb dX3_advise_89 (by decide) (fun c_89 => ?_) (fun c_89 => ?_)
                    · have n_89 := i_nlt.mpr c_89
                      refine lv_iinc (v := (nI (se + 1))) (lv' := [(6, .int (nI (se + 1))), (8, .int (p_far w p g nw T (Fs i) (Bs i) u (nI (fi * 10 + se)))), (7, .int (nI (fi * 10 + se))), (0, .ref (ad 0)), (1, .int (nI i)), (2, .int (nI u)), (3, .int ((p_advi w p g nw T (Fs i) (Bs i) u (4 * fi + se)).1)), (4, .int ((p_advi w p g nw T (Fs i) (Bs i) u (4 * fi + se)).2)), (5, .int (nI fi))]) hx hb dX3_advise_99 hl (k := 8) rfl (nI_1 se) (by decide) rfl (fun ls hl => ?_)
                      refine lv_goto (tgt := 59) hx hb dX3_advise_102 (by decide) ?_
                      have h9 : (p_advi w p g nw T (Fs i) (Bs i) u (4 * fi + (se + 1))) = (p_advi w p g nw T (Fs i) (Bs i) u (4 * fi + se)) := by rw [show 4 * fi + (se + 1) = (4 * fi + se) + 1 by omega, p_advi, had, if_neg n_89]
                      rw [← h9] at hl
                      exact ih2 (se + 1) (by omega) (by omega) E4 H locs ls hXa hfr hI (lv_sub hl [3, 4, 5, 6, 7, 8, 0] rfl)
                    · have n_89 := c_89
                      have c_89 := i_nle.mp n_89
                      refine lv_iload hx hb dX3_advise_92 (lv_at hl 0 rfl) ?_
                      refine lv_istore (lv' := [(4, .int (p_far w p g nw T (Fs i) (Bs i) u (nI (fi * 10 + se)))), (8, .int (p_far w p g nw T (Fs i) (Bs i) u (nI (fi * 10 + se)))), (7, .int (nI (fi * 10 + se))), (0, .ref (ad 0)), (1, .int (nI i)), (2, .int (nI u)), (3, .int ((p_advi w p g nw T (Fs i) (Bs i) u (4 * fi + se)).1)), (5, .int (nI fi)), (6, .int (nI se))]) hx hb dX3_advise_94 hl (by decide) rfl (fun ls hl => ?_)
                      refine lv_iload hx hb dX3_advise_96 (lv_at hl 2 rfl) ?_
                      refine lv_istore_n (lv' := [(3, .int (nI (fi * 10 + se))), (4, .int (p_far w p g nw T (Fs i) (Bs i) u (nI (fi * 10 + se)))), (8, .int (p_far w p g nw T (Fs i) (Bs i) u (nI (fi * 10 + se)))), (7, .int (nI (fi * 10 + se))), (0, .ref (ad 0)), (1, .int (nI i)), (2, .int (nI u)), (5, .int (nI fi)), (6, .int (nI se))]) hx hb dX3_advise_98 rfl hl (by decide) rfl (fun ls hl => ?_)
                      refine lv_iinc (v := (nI (se + 1))) (lv' := [(6, .int (nI (se + 1))), (3, .int (nI (fi * 10 + se))), (4, .int (p_far w p g nw T (Fs i) (Bs i) u (nI (fi * 10 + se)))), (8, .int (p_far w p g nw T (Fs i) (Bs i) u (nI (fi * 10 + se)))), (7, .int (nI (fi * 10 + se))), (0, .ref (ad 0)), (1, .int (nI i)), (2, .int (nI u)), (5, .int (nI fi))]) hx hb dX3_advise_99 hl (k := 8) rfl (nI_1 se) (by decide) rfl (fun ls hl => ?_)
                      refine lv_goto (tgt := 59) hx hb dX3_advise_102 (by decide) ?_
                      have h9 : (p_advi w p g nw T (Fs i) (Bs i) u (4 * fi + (se + 1))) = (nI (fi * 10 + se), p_far w p g nw T (Fs i) (Bs i) u (nI (fi * 10 + se))) := by rw [show 4 * fi + (se + 1) = (4 * fi + se) + 1 by omega, p_advi, had, if_pos c_89]
                      exact ih2 (se + 1) (by omega) (by omega) E4 H locs ls hXa hfr hI (by rw [h9]; exact lv_sub hl [5, 6, 7, 1, 2, 8, 0] rfl)
              exact Kih2 (4 + 1) 0 (Nat.zero_le _) (by omega) Ea H locs ls hXa hfr hI (lv_sub hl [1, 2, 3, 4, 5, 6, 0] rfl)
        exact Kih (4 + 1) 0 (Nat.zero_le _) (by omega) E H locs ls hX (fun _ _ => rfl) hI (lv_sub hl [3, 4, 5, 2, 1, 0] rfl)
      · have n_29 := c_29
        have c_29 := i_nle.mp n_29
        exact f_throw (cls := fIA) (text := "ticks are 1 to 60") hQ (Or.inr ⟨by simp [c_advise, c_8, if_pos p_8, p_8, hcl, c_23, n_23, c_29, n_29], rfl⟩) hl9 hx hb hG hI hown hT hlocks (hl.1.trans hml.symm) (hts (.classLink RX3 37 fIA) (by decide +kernel)) (hts (.initialized fIA) (by decide +kernel)) (fun w hw => hts w (List.mem_cons_of_mem _ (List.mem_append_right _ hw))) vxf_IA vxn_41 vxg_41 (by decide +kernel) dX3_advise_32 dX3_advise_35 dX3_advise_36 dX3_advise_38 dX3_advise_41 (by decide +kernel) (Nat.le_of_ble_eq_true rfl) (Nat.le_of_ble_eq_true rfl) (Nat.le_of_ble_eq_true rfl) (by omega) (by omega)
  · have p_8 := bl_f he c_8
    exact f_throw (cls := fIO) (text := "no such boat") hQ (Or.inl ⟨by simp [c_advise, c_8, if_neg p_8], rfl⟩) hl9 hx hb hG hI hown hT hlocks (hl.1.trans hml.symm) (hts (.classLink RX3 30 fIO) (by decide +kernel)) (hts (.initialized fIO) (by decide +kernel)) (fun w hw => hts w (List.mem_cons_of_mem _ (List.mem_append_left _ (List.mem_append_right _ hw)))) vxf_IO vxn_34 vxg_34 (by decide +kernel) dX3_advise_11 dX3_advise_14 dX3_advise_15 dX3_advise_17 dX3_advise_20 (by decide +kernel) (Nat.le_of_ble_eq_true rfl) (Nat.le_of_ble_eq_true rfl) (Nat.le_of_ble_eq_true rfl) (by omega) (by omega)

set_option maxHeartbeats 4000000 in
set_option maxRecDepth 100000 in
theorem m_X3_mean (l : Launch) {D : va_G} {cI cJ cB : ClassId} {t0 z : Nat} {tx ad : Nat → Nat} {L : List Nat} {E : Nat → va_E} {w p g : Nat → Int32} {nw n T : Nat} {Bs Fs : Nat → Nat → Int32} (hX : x_at cI cB ad E w p g nw n T Bs Fs) (hnw : nw ≤ 6) (hn6 : n ≤ 6) (hTb : T < 2 ^ 30) (h8 : ∀ i, i < n → Bs i 8 = 0 ∨ Bs i 8 = 1) (hXm : ∀ k, k < 5 ∨ (10 ≤ k ∧ k < 24) ∨ (30 ≤ k ∧ k < 44) → k ∈ L) (hne : ¬ nI n < 1 → vf_n64 (FP.ddiv (FP.i2d (p_psum Bs n)) (FP.i2d (nI n)))) : Met l yX3_mean wsX3_mean ({ frames := 1, cells := 0, slots := 0, locals := 22 } : Room) (va_Pc [.ref (ad 0)] (fPre D cI cJ cB t0 z tx ad L E)) (va_Qd (fun (r : UInt64) (E1 : Nat → va_E) => r = p_mean n Bs ∧ E1 = E) (fB D z ad L) (fA z)) 0 0 (fA z) := by
  refine f_ofW (cc := cX3_mean) (maxL := 1) (ret := some .double) (by decide) rfl (Nat.le_of_ble_eq_true rfl) ?_
  intro pr e s m args below meth c Q hx hb hr hml hts hown hlocks hin hG H locs hI hQ ls hl
  have hl : lv_has ls 1 [(0, .ref (ad 0))] := hl
  obtain ⟨hX0, ⟨hR, hRw, hRp, hRg⟩, hF10, nt, Tt, Bt, Ft, hnt, hF30⟩ := id hX
  have hr1 : 1 ∈ L := hXm _ (by omega)
  have hr2 : 2 ∈ L := hXm _ (by omega)
  have hr3 : 3 ∈ L := hXm _ (by omega)
  have hr4 : 4 ∈ L := hXm _ (by omega)
  obtain ⟨hFo10, hFr10, -⟩ := id hF10
  obtain ⟨hFo30, hFr30, -⟩ := id hF30
  have hX0 : E 0 = .inr (3, [.ref (ad 1), .ref (ad 10), .ref (ad 30)]) := hX0
  have hR : E 1 = .inr (2, [.ref (ad 2), .ref (ad 3), .ref (ad 4), .int (nI nw)]) := hR
  have hRw : E 2 = .inl (cI, 5, .inl w) := hRw
  have hRp : E 3 = .inl (cI, 6, .inl p) := hRp
  have hRg : E 4 = .inl (cI, 6, .inl g) := hRg
  have hFo10 : E 10 = .inr (1, [.ref (ad (10 + 1)), .int (nI n), .int (nI T)]) := hFo10
  have hFr10 : E (10 + 1) = .inl (cB, 6, .inr (.inr (.inr (.inr (fl_row ad 10))))) := hFr10
  have hFo30 : E 30 = .inr (1, [.ref (ad (30 + 1)), .int (nI nt), .int (nI Tt)]) := hFo30
  have hFr30 : E (30 + 1) = .inl (cB, 6, .inr (.inr (.inr (.inr (fl_row ad 30))))) := hFr30
  refine lv_aload_n hx hb dX3_mean_0 rfl (lv_at hl 0 rfl) ?_
  refine f_get (ci := 3) (v := .ref (ad 10)) (C := RX3) (T := TX3) (N := 3) hx hb hts (by decide +kernel) hown hG.1 hI rfl (hXm _ (by omega)) hX0 rfl 1 (by decide) (hts (.fieldLink RX3 19 "CoracleRace" "fleet" "LCoracleRace$Fleet;") (by decide +kernel)) rfl dX3_mean_1 ?_
  refine f_get (ci := 1) (v := .int (nI n)) (C := RX1) (T := TX1) (N := 3) hx hb hts (by decide +kernel) hown hG.1 hI rfl (hXm _ (by omega)) hFo10 rfl 1 (by decide) (hts (.fieldLink RX3 74 "CoracleRace$Fleet" "size" "I") (by decide +kernel)) rfl dX3_mean_4 ?_
  refine lv_iconst (v := 1) hx hb dX3_mean_7 (by decide) ?_
  refine lv_icmp_ge (tgt := 13) hx hb dX3_mean_8 (by decide) (fun c_8 => ?_) (fun c_8 => ?_)
  · have n_8 := i_nlt.mpr c_8
    refine lv_aload_n hx hb dX3_mean_13 rfl (lv_at hl 0 rfl) ?_
    refine f_get (ci := 3) (v := .ref (ad 10)) (C := RX3) (T := TX3) (N := 3) hx hb hts (by decide +kernel) hown hG.1 hI rfl (hXm _ (by omega)) hX0 rfl 1 (by decide) (hts (.fieldLink RX3 19 "CoracleRace" "fleet" "LCoracleRace$Fleet;") (by decide +kernel)) rfl dX3_mean_14 ?_
    refine f_calli1 (va_runV (As := []) (rest := []) ⟨hx, hb, hml, hown, hts⟩ (m_X1_placesAdded l (fb := 10) rfl (by decide) (fun k h1 h2 => hXm k (by omega)) hn6 hF10) (cwV 0 hts gX3_mean_X1_placesAdded rfl rfl rfl (by decide +kernel) ⟨Nat.le_of_ble_eq_true rfl, Nat.le_of_ble_eq_true rfl⟩) (fPre_ofV hG hI rfl (hXm _ (by omega)) hFo10 rfl rfl) rfl rfl hl.1 rfl (lv_room (Nat.le_of_ble_eq_true rfl)) dX3_mean_17 ⟨Nat.le_of_ble_eq_true rfl, Nat.le_of_ble_eq_true rfl⟩) hI (fun r1 E2 H locs hp hI => ?_)
    obtain ⟨he, hq⟩ := hp
    rw [hq] at hI
    have he : r1 = (p_psum Bs n) := he
    subst he
    refine lv_i2d hx hb dX3_mean_20 ?_
    refine lv_aload_n hx hb dX3_mean_21 rfl (lv_at hl 0 rfl) ?_
    refine f_get (ci := 3) (v := .ref (ad 10)) (C := RX3) (T := TX3) (N := 3) hx hb hts (by decide +kernel) hown hG.1 hI rfl (hXm _ (by omega)) hX0 rfl 1 (by decide) (hts (.fieldLink RX3 19 "CoracleRace" "fleet" "LCoracleRace$Fleet;") (by decide +kernel)) rfl dX3_mean_22 ?_
    refine f_get (ci := 1) (v := .int (nI n)) (C := RX1) (T := TX1) (N := 3) hx hb hts (by decide +kernel) hown hG.1 hI rfl (hXm _ (by omega)) hFo10 rfl 1 (by decide) (hts (.fieldLink RX3 74 "CoracleRace$Fleet" "size" "I") (by decide +kernel)) rfl dX3_mean_25 ?_
    refine lv_i2d hx hb dX3_mean_28 ?_
    refine lv_ddiv hx hb dX3_mean_29 (hne n_8) ?_
    exact f_retd hQ hx hb hr hlocks hI.2.2 (by omega) (by omega) dX3_mean_30 E (fB_of hI) (⟨by simp [p_mean, c_8, n_8], rfl⟩)
  · have n_8 := c_8
    have c_8 := i_nle.mp n_8
    refine lv_dconst0 hx hb dX3_mean_11 ?_
    exact f_retd hQ hx hb hr hlocks hI.2.2 (by omega) (by omega) dX3_mean_12 E (fB_of hI) (⟨by simp [p_mean, c_8, n_8], rfl⟩)

set_option maxHeartbeats 4000000 in
set_option maxRecDepth 100000 in
theorem m_X3_digestWith (l : Launch) {D : va_G} {cI cJ cB : ClassId} {t0 z : Nat} {tx ad : Nat → Nat} {L : List Nat} {E : Nat → va_E} {w p g : Nat → Int32} {nw n T : Nat} {Bs Fs : Nat → Nat → Int32} (hX : x_at cI cB ad E w p g nw n T Bs Fs) (hnw : nw ≤ 6) (hn6 : n ≤ 6) (hTb : T < 2 ^ 30) (h8 : ∀ i, i < n → Bs i 8 = 0 ∨ Bs i 8 = 1) (hXm : ∀ k, k < 5 ∨ (10 ≤ k ∧ k < 24) ∨ (30 ≤ k ∧ k < 44) → k ∈ L) {ko ao : Nat} (hao : ad ko = ao) (hko : ko ∈ L) {o : Nat → Int32} (hO : E ko = bE ad ko o) {f : Nat → Int32} (hko1 : ko + 1 ∈ L) (hOF : E (ko + 1) = .inl (cI, 6, .inl f)) {len : Nat} (hlen : o 1 = nI len) (hl6 : len ≤ 6) (d : Int64) : Met l yX3_digestWith wsX3_digestWith ({ frames := 3, cells := 0, slots := 0, locals := 64 } : Room) (va_Pc [.ref (ad 0), .long d, .ref ao] (fPre D cI cJ cB t0 z tx ad L E)) (va_Ql (fun (r : Int64) (E1 : Nat → va_E) => r = p_dgB n Bs f o len d ∧ E1 = E) (fB D z ad L) (fA z)) 0 0 (fA z) := by
  refine f_ofW (cc := cX3_digestWith) (maxL := 7) (ret := some .long) (by decide) rfl (Nat.le_of_ble_eq_true rfl) ?_
  intro pr e s m args below meth c Q hx hb hr hml hts hown hlocks hin hG H locs hI hQ ls hl
  have hl : lv_has ls 7 [(0, .ref (ad 0)), (1, .long d), (3, .ref ao)] := hl
  obtain ⟨hX0, ⟨hR, hRw, hRp, hRg⟩, hF10, nt, Tt, Bt, Ft, hnt, hF30⟩ := id hX
  have hr1 : 1 ∈ L := hXm _ (by omega)
  have hr2 : 2 ∈ L := hXm _ (by omega)
  have hr3 : 3 ∈ L := hXm _ (by omega)
  have hr4 : 4 ∈ L := hXm _ (by omega)
  obtain ⟨hFo10, hFr10, -⟩ := id hF10
  obtain ⟨hFo30, hFr30, -⟩ := id hF30
  have hX0 : E 0 = .inr (3, [.ref (ad 1), .ref (ad 10), .ref (ad 30)]) := hX0
  have hR : E 1 = .inr (2, [.ref (ad 2), .ref (ad 3), .ref (ad 4), .int (nI nw)]) := hR
  have hRw : E 2 = .inl (cI, 5, .inl w) := hRw
  have hRp : E 3 = .inl (cI, 6, .inl p) := hRp
  have hRg : E 4 = .inl (cI, 6, .inl g) := hRg
  have hFo10 : E 10 = .inr (1, [.ref (ad (10 + 1)), .int (nI n), .int (nI T)]) := hFo10
  have hFr10 : E (10 + 1) = .inl (cB, 6, .inr (.inr (.inr (.inr (fl_row ad 10))))) := hFr10
  have hFo30 : E 30 = .inr (1, [.ref (ad (30 + 1)), .int (nI nt), .int (nI Tt)]) := hFo30
  have hFr30 : E (30 + 1) = .inl (cB, 6, .inr (.inr (.inr (.inr (fl_row ad 30))))) := hFr30
  have hO : E ko = .inr (0, [.ref (ad (ko + 1)), .int (o 1), .int (o 2), .int (o 3), .int (o 4), .int (o 5), .int (o 6), .int (o 7), .int (o 8), .int (o 9), .int (o 10), .int (o 11)]) := hO
  have hOF : E (ko + 1) = .inl (cI, 6, .inl f) := hOF
  refine lv_lload_n hx hb dX3_digestWith_0 rfl (lv_at hl 1 rfl) ?_
  refine lv_lstore (lv' := [(4, .long d), (0, .ref (ad 0)), (1, .long d), (3, .ref ao)]) hx hb dX3_digestWith_1 hl (by decide) rfl (fun ls hl => ?_)
  refine lv_iconst (v := 0) hx hb dX3_digestWith_3 (by decide) ?_
  refine lv_istore (lv' := [(6, .int 0), (4, .long d), (0, .ref (ad 0)), (1, .long d), (3, .ref ao)]) hx hb dX3_digestWith_4 hl (by decide) rfl (fun ls hl => ?_)
  have Ki1 : ∀ (ki1 i1 : Nat), i1 ≤ 9 → 9 + 1 ≤ i1 + ki1 → ∀ (H : Heap) (locs : List Loc) (ls : Array Slot), fI D (fA z) s.heap ad L E H locs → lv_has ls 7 [(0, .ref (ad 0)), (3, .ref ao), (4, .long (p_dgF o d i1)), (6, .int (nI i1))] → W pr l e ({ frames := 3, cells := 0, slots := 0, locals := 64 } : Room) s m args below meth c H locs 0 0 Q (F0 m 6 ls []) := by
    intro ki1
    induction ki1 with
    | zero => intro i1 h1 h2; exact absurd h2 (by omega)
    | succ ki1 ihi1 =>
      intro i1 hi1i1 hi2i1 H locs ls hI hl
      refine lv_iload hx hb dX3_digestWith_6 (lv_at hl 3 rfl) ?_
      refine lv_bipush (v := 8) hx hb dX3_digestWith_8 (by decide) ?_
      refine lv_icmp_gt (tgt := 35) hx hb dX3_digestWith_10 (by decide) (fun c_10 => ?_) (fun c_10 => ?_)
      · have n_10 := i_nle.mpr c_10
        have hi1 : i1 = 9 := by have := (nI_ltI (by omega) (by omega) (a := 8)).mp c_10; omega
        refine lv_iconst (v := 0) hx hb dX3_digestWith_35 (by decide) ?_
        refine lv_istore (lv' := [(6, .int 0), (0, .ref (ad 0)), (3, .ref ao), (4, .long (p_dgF o d i1))]) hx hb dX3_digestWith_36 hl (by decide) rfl (fun ls hl => ?_)
        have Ki2 : ∀ (ki2 i2 : Nat), i2 ≤ len → len + 1 ≤ i2 + ki2 → ∀ (H : Heap) (locs : List Loc) (ls : Array Slot), fI D (fA z) s.heap ad L E H locs → lv_has ls 7 [(0, .ref (ad 0)), (3, .ref ao), (4, .long (p_dgS f (p_dgF o d i1) i2)), (6, .int (nI i2))] → W pr l e ({ frames := 3, cells := 0, slots := 0, locals := 64 } : Room) s m args below meth c H locs 0 0 Q (F0 m 38 ls []) := by
          intro ki2
          induction ki2 with
          | zero => intro i2 h1 h2; exact absurd h2 (by omega)
          | succ ki2 ihi2 =>
            intro i2 hi1i2 hi2i2 H locs ls hI hl
            refine lv_iload hx hb dX3_digestWith_38 (lv_at hl 3 rfl) ?_
            refine lv_aload_n hx hb dX3_digestWith_40 rfl (lv_at hl 1 rfl) ?_
            refine f_get (ci := 0) (v := .int (o 1)) (C := RX0) (T := TX0) (N := 12) hx hb hts (by decide +kernel) hown hG.1 hI hao hko hO rfl 1 (by decide) (hts (.fieldLink RX3 100 "CoracleRace$Boat" "length" "I") (by decide +kernel)) rfl dX3_digestWith_41 ?_
            refine lv_topi (fun tv etv => ?_)
            have etv : tv = nI len := etv.trans (hlen)
            subst etv
            refine lv_icmp_ge (tgt := 70) hx hb dX3_digestWith_44 (by decide) (fun c_44 => ?_) (fun c_44 => ?_)
            · have n_44 := i_nlt.mpr c_44
              have hi2 : i2 = len := by have := (nI_leI (by omega) (by omega)).mp c_44; omega
              refine lv_lload hx hb dX3_digestWith_70 (lv_at hl 2 rfl) ?_
              refine lv_ldc2 (v := 31) hx hb hown (hts (.constantLong RX3 172 (31)) (by decide +kernel)) dX3_digestWith_72 ?_
              refine lv_lmul hx hb dX3_digestWith_75 ?_
              refine lv_aload_n hx hb dX3_digestWith_76 rfl (lv_at hl 0 rfl) ?_
              refine f_get (ci := 3) (v := .ref (ad 10)) (C := RX3) (T := TX3) (N := 3) hx hb hts (by decide +kernel) hown hG.1 hI rfl (hXm _ (by omega)) hX0 rfl 1 (by decide) (hts (.fieldLink RX3 19 "CoracleRace" "fleet" "LCoracleRace$Fleet;") (by decide +kernel)) rfl dX3_digestWith_77 ?_
              refine lv_aload_n hx hb dX3_digestWith_80 rfl (lv_at hl 1 rfl) ?_
              refine f_calli1 (va_runV (As := [.ref ao]) (rest := [.long ((p_dgS f (p_dgF o d i1) i2) * 31)]) ⟨hx, hb, hml, hown, hts⟩ (m_X1_rankOf l (fb := 10) rfl (by decide) (fun k h1 h2 => hXm k (by omega)) hn6 hF10 hao hko (o := o) hO) (cwV 1 hts gX3_digestWith_X1_rankOf rfl rfl rfl (by decide +kernel) ⟨Nat.le_of_ble_eq_true rfl, Nat.le_of_ble_eq_true rfl⟩) (fPre_ofV hG hI rfl (hXm _ (by omega)) hFo10 rfl rfl) rfl rfl hl.1 rfl (lv_room (Nat.le_of_ble_eq_true rfl)) dX3_digestWith_81 ⟨Nat.le_of_ble_eq_true rfl, Nat.le_of_ble_eq_true rfl⟩) hI (fun r1 E2 H locs hp hI => ?_)
              obtain ⟨he, hq⟩ := hp
              rw [hq] at hI
              have he : r1 = (1 + p_rk Bs o n) := he
              subst he
              refine lv_i2l hx hb dX3_digestWith_84 rfl ?_
              refine lv_ladd hx hb dX3_digestWith_85 ?_
              exact f_retl hQ hx hb hr hlocks hI.2.2 (by omega) (by omega) dX3_digestWith_86 E (fB_of hI) (⟨by rw [hi2, hi1]; rfl, rfl⟩)
            · have n_44 := c_44
              have c_44 := i_nle.mp n_44
              have hi2 : i2 < len := (nI_ltI (by omega) (by omega)).mp c_44
              have hcl : (nI i2).toNatClampNeg = i2 := nI_clamp (by omega)
              refine lv_lload hx hb dX3_digestWith_47 (lv_at hl 2 rfl) ?_
              refine lv_ldc2 (v := 31) hx hb hown (hts (.constantLong RX3 172 (31)) (by decide +kernel)) dX3_digestWith_49 ?_
              refine lv_lmul hx hb dX3_digestWith_52 ?_
              refine lv_aload_n hx hb dX3_digestWith_53 rfl (lv_at hl 1 rfl) ?_
              refine f_get (ci := 0) (v := .ref (ad (ko + 1))) (C := RX0) (T := TX0) (N := 12) hx hb hts (by decide +kernel) hown hG.1 hI hao hko hO rfl 0 (by decide) (hts (.fieldLink RX3 184 "CoracleRace$Boat" "strokes" "[I") (by decide +kernel)) rfl dX3_digestWith_54 ?_
              refine lv_iload hx hb dX3_digestWith_57 (lv_at hl 3 rfl) ?_
              refine f_iald hx hb hG.1 hI rfl hko1 hOF (vp_in_nI (by omega) (by omega)) dX3_digestWith_59 ?_
              rw [hcl]
              refine lv_i2l hx hb dX3_digestWith_60 rfl ?_
              refine lv_ladd hx hb dX3_digestWith_61 ?_
              refine lv_lstore (lv' := [(4, .long (((p_dgS f (p_dgF o d i1) i2) * 31) + ((f i2)).toInt64)), (0, .ref (ad 0)), (3, .ref ao), (6, .int (nI i2))]) hx hb dX3_digestWith_62 hl (by decide) rfl (fun ls hl => ?_)
              refine lv_iinc (v := (nI (i2 + 1))) (lv' := [(6, .int (nI (i2 + 1))), (4, .long (((p_dgS f (p_dgF o d i1) i2) * 31) + ((f i2)).toInt64)), (0, .ref (ad 0)), (3, .ref ao)]) hx hb dX3_digestWith_64 hl (k := 3) rfl (nI_1 i2) (by decide) rfl (fun ls hl => ?_)
              refine lv_goto (tgt := 38) hx hb dX3_digestWith_67 (by decide) ?_
              refine ihi2 (i2 + 1) (by omega) (by omega) H locs ls hI ?_
              rw [show p_dgS f (p_dgF o d i1) (i2 + 1) = (((p_dgS f (p_dgF o d i1) i2) * 31) + ((f i2)).toInt64) by first | rfl | (rw [p_dgS]; simp [c_10, n_10, c_44, n_44]; done)]
              exact lv_sub hl [2, 3, 1, 0] rfl
        exact Ki2 (len + 1) 0 (Nat.zero_le _) (by omega) H locs ls hI (lv_sub hl [1, 2, 3, 0] rfl)
      · have n_10 := c_10
        have c_10 := i_nlt.mp n_10
        have hi1 : i1 ≤ 8 := (nI_leI (by omega) (by omega) (b := 8)).mp c_10
        have hcl : (nI i1).toNatClampNeg = i1 := nI_clamp (by omega)
        refine lv_lload hx hb dX3_digestWith_13 (lv_at hl 2 rfl) ?_
        refine lv_ldc2 (v := 31) hx hb hown (hts (.constantLong RX3 172 (31)) (by decide +kernel)) dX3_digestWith_15 ?_
        refine lv_lmul hx hb dX3_digestWith_18 ?_
        refine lv_aload_n hx hb dX3_digestWith_19 rfl (lv_at hl 1 rfl) ?_
        refine lv_iload hx hb dX3_digestWith_20 (lv_at hl 3 rfl) ?_
        refine f_calli1 (va_runV (As := [.int (nI i1)]) (rest := [.long ((p_dgF o d i1) * 31)]) ⟨hx, hb, hml, hown, hts⟩ (m_X0_fact l hao hko (b := o) hO i1 (by omega)) (cwV 1 hts gX3_digestWith_X0_fact rfl rfl rfl (by decide +kernel) ⟨Nat.le_of_ble_eq_true rfl, Nat.le_of_ble_eq_true rfl⟩) (fPre_ofV hG hI hao hko hO rfl rfl) rfl rfl hl.1 rfl (lv_room (Nat.le_of_ble_eq_true rfl)) dX3_digestWith_22 ⟨Nat.le_of_ble_eq_true rfl, Nat.le_of_ble_eq_true rfl⟩) hI (fun r3 E4 H locs hp hI => ?_)
        obtain ⟨he, hq⟩ := hp
        rw [hq] at hI
        have he : r3 = (p_fact o i1) := he
        subst he
        refine lv_i2l hx hb dX3_digestWith_25 rfl ?_
        refine lv_ladd hx hb dX3_digestWith_26 ?_
        refine lv_lstore (lv' := [(4, .long (((p_dgF o d i1) * 31) + ((p_fact o i1)).toInt64)), (0, .ref (ad 0)), (3, .ref ao), (6, .int (nI i1))]) hx hb dX3_digestWith_27 hl (by decide) rfl (fun ls hl => ?_)
        refine lv_iinc (v := (nI (i1 + 1))) (lv' := [(6, .int (nI (i1 + 1))), (4, .long (((p_dgF o d i1) * 31) + ((p_fact o i1)).toInt64)), (0, .ref (ad 0)), (3, .ref ao)]) hx hb dX3_digestWith_29 hl (k := 3) rfl (nI_1 i1) (by decide) rfl (fun ls hl => ?_)
        refine lv_goto (tgt := 6) hx hb dX3_digestWith_32 (by decide) ?_
        refine ihi1 (i1 + 1) (by omega) (by omega) H locs ls hI ?_
        rw [show p_dgF o d (i1 + 1) = (((p_dgF o d i1) * 31) + ((p_fact o i1)).toInt64) by first | rfl | (rw [p_dgF]; simp [c_10, n_10]; done)]
        exact lv_sub hl [2, 3, 1, 0] rfl
  exact Ki1 (9 + 1) 0 (Nat.zero_le _) (by omega) H locs ls hI (lv_sub hl [2, 4, 1, 0] rfl)

set_option maxHeartbeats 4000000 in
set_option maxRecDepth 100000 in
theorem m_X3_digest (l : Launch) {D : va_G} {cI cJ cB : ClassId} {t0 z : Nat} {tx ad : Nat → Nat} {L : List Nat} {E : Nat → va_E} {w p g : Nat → Int32} {nw n T : Nat} {Bs Fs : Nat → Nat → Int32} (hX : x_at cI cB ad E w p g nw n T Bs Fs) (hnw : nw ≤ 6) (hn6 : n ≤ 6) (hTb : T < 2 ^ 30) (h8 : ∀ i, i < n → Bs i 8 = 0 ∨ Bs i 8 = 1) (hXm : ∀ k, k < 5 ∨ (10 ≤ k ∧ k < 24) ∨ (30 ≤ k ∧ k < 44) → k ∈ L) {Ln : Nat → Nat} (hLn : ∀ i, i < n → Bs i 1 = nI (Ln i) ∧ Ln i ≤ 6) : Met l yX3_digest wsX3_digest ({ frames := 4, cells := 0, slots := 0, locals := 90 } : Room) (va_Pc [.ref (ad 0)] (fPre D cI cJ cB t0 z tx ad L E)) (va_Ql (fun (r : Int64) (E1 : Nat → va_E) => r = p_dig w p g nw n T Bs Fs Ln ∧ E1 = E) (fB D z ad L) (fA z)) 0 0 (fA z) := by
  refine f_ofW (cc := cX3_digest) (maxL := 4) (ret := some .long) (by decide) rfl (Nat.le_of_ble_eq_true rfl) ?_
  intro pr e s m args below meth c Q hx hb hr hml hts hown hlocks hin hG H locs hI hQ ls hl
  have hl : lv_has ls 4 [(0, .ref (ad 0))] := hl
  obtain ⟨hX0, ⟨hR, hRw, hRp, hRg⟩, hF10, nt, Tt, Bt, Ft, hnt, hF30⟩ := id hX
  have hr1 : 1 ∈ L := hXm _ (by omega)
  have hr2 : 2 ∈ L := hXm _ (by omega)
  have hr3 : 3 ∈ L := hXm _ (by omega)
  have hr4 : 4 ∈ L := hXm _ (by omega)
  obtain ⟨hFo10, hFr10, -⟩ := id hF10
  obtain ⟨hFo30, hFr30, -⟩ := id hF30
  have hX0 : E 0 = .inr (3, [.ref (ad 1), .ref (ad 10), .ref (ad 30)]) := hX0
  have hR : E 1 = .inr (2, [.ref (ad 2), .ref (ad 3), .ref (ad 4), .int (nI nw)]) := hR
  have hRw : E 2 = .inl (cI, 5, .inl w) := hRw
  have hRp : E 3 = .inl (cI, 6, .inl p) := hRp
  have hRg : E 4 = .inl (cI, 6, .inl g) := hRg
  have hFo10 : E 10 = .inr (1, [.ref (ad (10 + 1)), .int (nI n), .int (nI T)]) := hFo10
  have hFr10 : E (10 + 1) = .inl (cB, 6, .inr (.inr (.inr (.inr (fl_row ad 10))))) := hFr10
  have hFo30 : E 30 = .inr (1, [.ref (ad (30 + 1)), .int (nI nt), .int (nI Tt)]) := hFo30
  have hFr30 : E (30 + 1) = .inl (cB, 6, .inr (.inr (.inr (.inr (fl_row ad 30))))) := hFr30
  refine lv_ldc2 (v := 1163) hx hb hown (hts (.constantLong RX3 170 (1163)) (by decide +kernel)) dX3_digest_0 ?_
  refine lv_lstore_n (lv' := [(1, .long 1163), (0, .ref (ad 0))]) hx hb dX3_digest_3 rfl hl (by decide) rfl (fun ls hl => ?_)
  refine lv_iconst (v := 0) hx hb dX3_digest_4 (by decide) ?_
  refine lv_istore_n (lv' := [(3, .int 0), (1, .long 1163), (0, .ref (ad 0))]) hx hb dX3_digest_5 rfl hl (by decide) rfl (fun ls hl => ?_)
  have Ki1 : ∀ (ki1 i1 : Nat), i1 ≤ 7 → 7 + 1 ≤ i1 + ki1 → ∀ (H : Heap) (locs : List Loc) (ls : Array Slot), fI D (fA z) s.heap ad L E H locs → lv_has ls 4 [(0, .ref (ad 0)), (1, .long (p_dgC nw n T Bs i1)), (3, .int (nI i1))] → W pr l e ({ frames := 4, cells := 0, slots := 0, locals := 90 } : Room) s m args below meth c H locs 0 0 Q (F0 m 6 ls []) := by
    intro ki1
    induction ki1 with
    | zero => intro i1 h1 h2; exact absurd h2 (by omega)
    | succ ki1 ihi1 =>
      intro i1 hi1i1 hi2i1 H locs ls hI hl
      refine lv_iload_n hx hb dX3_digest_6 rfl (lv_at hl 2 rfl) ?_
      refine lv_bipush (v := 6) hx hb dX3_digest_7 (by decide) ?_
      refine lv_icmp_gt (tgt := 35) hx hb dX3_digest_9 (by decide) (fun c_9 => ?_) (fun c_9 => ?_)
      · have n_9 := i_nle.mpr c_9
        have hi1 : i1 = 7 := by have := (nI_ltI (by omega) (by omega) (a := 6)).mp c_9; omega
        refine lv_iconst (v := 0) hx hb dX3_digest_35 (by decide) ?_
        refine lv_istore_n (lv' := [(3, .int 0), (0, .ref (ad 0)), (1, .long (p_dgC nw n T Bs i1))]) hx hb dX3_digest_36 rfl hl (by decide) rfl (fun ls hl => ?_)
        have Ki2 : ∀ (ki2 i2 : Nat), i2 ≤ 5 → 5 + 1 ≤ i2 + ki2 → ∀ (H : Heap) (locs : List Loc) (ls : Array Slot), fI D (fA z) s.heap ad L E H locs → lv_has ls 4 [(0, .ref (ad 0)), (1, .long (p_dgS w (p_dgC nw n T Bs i1) i2)), (3, .int (nI i2))] → W pr l e ({ frames := 4, cells := 0, slots := 0, locals := 90 } : Room) s m args below meth c H locs 0 0 Q (F0 m 37 ls []) := by
          intro ki2
          induction ki2 with
          | zero => intro i2 h1 h2; exact absurd h2 (by omega)
          | succ ki2 ihi2 =>
            intro i2 hi1i2 hi2i2 H locs ls hI hl
            refine lv_iload_n hx hb dX3_digest_37 rfl (lv_at hl 2 rfl) ?_
            refine lv_iconst (v := 5) hx hb dX3_digest_38 (by decide) ?_
            refine lv_icmp_ge (tgt := 65) hx hb dX3_digest_39 (by decide) (fun c_39 => ?_) (fun c_39 => ?_)
            · have n_39 := i_nlt.mpr c_39
              have hi2 : i2 = 5 := by have := (nI_leI (by omega) (by omega) (a := 5)).mp c_39; omega
              refine lv_iconst (v := 0) hx hb dX3_digest_65 (by decide) ?_
              refine lv_istore_n (lv' := [(3, .int 0), (0, .ref (ad 0)), (1, .long (p_dgS w (p_dgC nw n T Bs i1) i2))]) hx hb dX3_digest_66 rfl hl (by decide) rfl (fun ls hl => ?_)
              have Ki3 : ∀ (ki3 i3 : Nat), i3 ≤ nw → nw + 1 ≤ i3 + ki3 → ∀ (H : Heap) (locs : List Loc) (ls : Array Slot), fI D (fA z) s.heap ad L E H locs → lv_has ls 4 [(0, .ref (ad 0)), (1, .long (p_dgR p g (p_dgS w (p_dgC nw n T Bs i1) i2) i3)), (3, .int (nI i3))] → W pr l e ({ frames := 4, cells := 0, slots := 0, locals := 90 } : Room) s m args below meth c H locs 0 0 Q (F0 m 67 ls []) := by
                intro ki3
                induction ki3 with
                | zero => intro i3 h1 h2; exact absurd h2 (by omega)
                | succ ki3 ihi3 =>
                  intro i3 hi1i3 hi2i3 H locs ls hI hl
                  refine lv_iload_n hx hb dX3_digest_67 rfl (lv_at hl 2 rfl) ?_
                  refine lv_aload_n hx hb dX3_digest_68 rfl (lv_at hl 0 rfl) ?_
                  refine f_get (ci := 3) (v := .ref (ad 1)) (C := RX3) (T := TX3) (N := 3) hx hb hts (by decide +kernel) hown hG.1 hI rfl (hXm _ (by omega)) hX0 rfl 0 (by decide) (hts (.fieldLink RX3 10 "CoracleRace" "river" "LCoracleRace$River;") (by decide +kernel)) rfl dX3_digest_69 ?_
                  refine f_get (ci := 2) (v := .int (nI nw)) (C := RX2) (T := TX2) (N := 4) hx hb hts (by decide +kernel) hown hG.1 hI rfl hr1 hR rfl 3 (by decide) (hts (.fieldLink RX3 50 "CoracleRace$River" "weirs" "I") (by decide +kernel)) rfl dX3_digest_72 ?_
                  refine lv_icmp_ge (tgt := 118) hx hb dX3_digest_75 (by decide) (fun c_75 => ?_) (fun c_75 => ?_)
                  · have n_75 := i_nlt.mpr c_75
                    have hi3 : i3 = nw := by have := (nI_leI (by omega) (by omega)).mp c_75; omega
                    refine lv_iconst (v := 0) hx hb dX3_digest_118 (by decide) ?_
                    refine lv_istore_n (lv' := [(3, .int 0), (0, .ref (ad 0)), (1, .long (p_dgR p g (p_dgS w (p_dgC nw n T Bs i1) i2) i3))]) hx hb dX3_digest_119 rfl hl (by decide) rfl (fun ls hl => ?_)
                    have Ki4 : ∀ (ki4 i4 : Nat), i4 ≤ n → n + 1 ≤ i4 + ki4 → ∀ (H : Heap) (locs : List Loc) (ls : Array Slot), fI D (fA z) s.heap ad L E H locs → lv_has ls 4 [(0, .ref (ad 0)), (1, .long (p_dgA n Bs Fs Ln (p_dgR p g (p_dgS w (p_dgC nw n T Bs i1) i2) i3) i4)), (3, .int (nI i4))] → W pr l e ({ frames := 4, cells := 0, slots := 0, locals := 90 } : Room) s m args below meth c H locs 0 0 Q (F0 m 120 ls []) := by
                      intro ki4
                      induction ki4 with
                      | zero => intro i4 h1 h2; exact absurd h2 (by omega)
                      | succ ki4 ihi4 =>
                        intro i4 hi1i4 hi2i4 H locs ls hI hl
                        refine lv_iload_n hx hb dX3_digest_120 rfl (lv_at hl 2 rfl) ?_
                        refine lv_aload_n hx hb dX3_digest_121 rfl (lv_at hl 0 rfl) ?_
                        refine f_get (ci := 3) (v := .ref (ad 10)) (C := RX3) (T := TX3) (N := 3) hx hb hts (by decide +kernel) hown hG.1 hI rfl (hXm _ (by omega)) hX0 rfl 1 (by decide) (hts (.fieldLink RX3 19 "CoracleRace" "fleet" "LCoracleRace$Fleet;") (by decide +kernel)) rfl dX3_digest_122 ?_
                        refine f_get (ci := 1) (v := .int (nI n)) (C := RX1) (T := TX1) (N := 3) hx hb hts (by decide +kernel) hown hG.1 hI rfl (hXm _ (by omega)) hFo10 rfl 1 (by decide) (hts (.fieldLink RX3 74 "CoracleRace$Fleet" "size" "I") (by decide +kernel)) rfl dX3_digest_125 ?_
                        refine lv_icmp_ge (tgt := 152) hx hb dX3_digest_128 (by decide) (fun c_128 => ?_) (fun c_128 => ?_)
                        · have n_128 := i_nlt.mpr c_128
                          have hi4 : i4 = n := by have := (nI_leI (by omega) (by omega)).mp c_128; omega
                          refine lv_lload_n hx hb dX3_digest_152 rfl (lv_at hl 1 rfl) ?_
                          exact f_retl hQ hx hb hr hlocks hI.2.2 (by omega) (by omega) dX3_digest_153 E (fB_of hI) (⟨by rw [hi4, hi3, hi2, hi1]; rfl, rfl⟩)
                        · have n_128 := c_128
                          have c_128 := i_nle.mp n_128
                          have hi4 : i4 < n := (nI_ltI (by omega) (by omega)).mp c_128
                          have hcl : (nI i4).toNatClampNeg = i4 := nI_clamp (by omega)
                          obtain ⟨hCF, hSF⟩ := hF10.2.2 i4 (by omega)
                          refine lv_aload_n hx hb dX3_digest_131 rfl (lv_at hl 0 rfl) ?_
                          refine lv_lload_n hx hb dX3_digest_132 rfl (lv_at hl 1 rfl) ?_
                          refine lv_aload_n hx hb dX3_digest_133 rfl (lv_at hl 0 rfl) ?_
                          refine f_get (ci := 3) (v := .ref (ad 10)) (C := RX3) (T := TX3) (N := 3) hx hb hts (by decide +kernel) hown hG.1 hI rfl (hXm _ (by omega)) hX0 rfl 1 (by decide) (hts (.fieldLink RX3 19 "CoracleRace" "fleet" "LCoracleRace$Fleet;") (by decide +kernel)) rfl dX3_digest_134 ?_
                          refine f_get (ci := 1) (v := .ref (ad (10 + 1))) (C := RX1) (T := TX1) (N := 3) hx hb hts (by decide +kernel) hown hG.1 hI rfl (hXm _ (by omega)) hFo10 rfl 0 (by decide) (hts (.fieldLink RX3 96 "CoracleRace$Fleet" "boats" "[LCoracleRace$Boat;") (by decide +kernel)) rfl dX3_digest_137 ?_
                          refine lv_iload_n hx hb dX3_digest_140 rfl (lv_at hl 2 rfl) ?_
                          refine f_aldq hx hb hG.1 hI rfl (hXm _ (by omega)) hFr10 (vp_in_nI (by omega) (by omega)) (v := .ref (ad (10 + 2 + 2 * i4))) (by rw [hcl]; exact fl_row_at (by omega)) dX3_digest_141 ?_
                          refine f_calll1 (va_runV (As := [.long (p_dgA n Bs Fs Ln (p_dgR p g (p_dgS w (p_dgC nw n T Bs i1) i2) i3) i4), .ref (ad (10 + 2 + 2 * i4))]) (rest := []) ⟨hx, hb, hml, hown, hts⟩ (m_X3_digestWith l hX hnw hn6 hTb h8 hXm rfl (hXm _ (by omega)) (o := Bs i4) hCF (f := Fs i4) (hXm _ (by omega)) hSF (len := Ln i4) (hLn i4 hi4).1 (hLn i4 hi4).2 (p_dgA n Bs Fs Ln (p_dgR p g (p_dgS w (p_dgC nw n T Bs i1) i2) i3) i4)) (cwV 2 hts gX3_digest_X3_digestWith rfl rfl rfl (by decide +kernel) ⟨Nat.le_of_ble_eq_true rfl, Nat.le_of_ble_eq_true rfl⟩) (fPre_ofV hG hI rfl (hXm _ (by omega)) hX0 rfl rfl) rfl rfl hl.1 rfl (lv_room (Nat.le_of_ble_eq_true rfl)) dX3_digest_142 ⟨Nat.le_of_ble_eq_true rfl, Nat.le_of_ble_eq_true rfl⟩) hI (fun r1 E2 H locs hp hI => ?_)
                          obtain ⟨he, hq⟩ := hp
                          rw [hq] at hI
                          have he : r1 = (p_dgB n Bs (Fs i4) (Bs i4) (Ln i4) (p_dgA n Bs Fs Ln (p_dgR p g (p_dgS w (p_dgC nw n T Bs i1) i2) i3) i4)) := he
                          subst he
                          refine lv_lstore_n (lv' := [(1, .long (p_dgB n Bs (Fs i4) (Bs i4) (Ln i4) (p_dgA n Bs Fs Ln (p_dgR p g (p_dgS w (p_dgC nw n T Bs i1) i2) i3) i4))), (0, .ref (ad 0)), (3, .int (nI i4))]) hx hb dX3_digest_145 rfl hl (by decide) rfl (fun ls hl => ?_)
                          refine lv_iinc (v := (nI (i4 + 1))) (lv' := [(3, .int (nI (i4 + 1))), (1, .long (p_dgB n Bs (Fs i4) (Bs i4) (Ln i4) (p_dgA n Bs Fs Ln (p_dgR p g (p_dgS w (p_dgC nw n T Bs i1) i2) i3) i4))), (0, .ref (ad 0))]) hx hb dX3_digest_146 hl (k := 2) rfl (nI_1 i4) (by decide) rfl (fun ls hl => ?_)
                          refine lv_goto (tgt := 120) hx hb dX3_digest_149 (by decide) ?_
                          refine ihi4 (i4 + 1) (by omega) (by omega) H locs ls hI ?_
                          rw [show p_dgA n Bs Fs Ln (p_dgR p g (p_dgS w (p_dgC nw n T Bs i1) i2) i3) (i4 + 1) = (p_dgB n Bs (Fs i4) (Bs i4) (Ln i4) (p_dgA n Bs Fs Ln (p_dgR p g (p_dgS w (p_dgC nw n T Bs i1) i2) i3) i4)) by first | rfl | (rw [p_dgA]; simp [c_9, n_9, c_39, n_39, c_75, n_75, c_128, n_128]; done)]
                          exact lv_sub hl [2, 1, 0] rfl
                    exact Ki4 (n + 1) 0 (Nat.zero_le _) (by omega) H locs ls hI (lv_sub hl [1, 2, 0] rfl)
                  · have n_75 := c_75
                    have c_75 := i_nle.mp n_75
                    have hi3 : i3 < nw := (nI_ltI (by omega) (by omega)).mp c_75
                    have hcl : (nI i3).toNatClampNeg = i3 := nI_clamp (by omega)
                    refine lv_lload_n hx hb dX3_digest_78 rfl (lv_at hl 1 rfl) ?_
                    refine lv_ldc2 (v := 31) hx hb hown (hts (.constantLong RX3 172 (31)) (by decide +kernel)) dX3_digest_79 ?_
                    refine lv_lmul hx hb dX3_digest_82 ?_
                    refine lv_aload_n hx hb dX3_digest_83 rfl (lv_at hl 0 rfl) ?_
                    refine f_get (ci := 3) (v := .ref (ad 1)) (C := RX3) (T := TX3) (N := 3) hx hb hts (by decide +kernel) hown hG.1 hI rfl (hXm _ (by omega)) hX0 rfl 0 (by decide) (hts (.fieldLink RX3 10 "CoracleRace" "river" "LCoracleRace$River;") (by decide +kernel)) rfl dX3_digest_84 ?_
                    refine f_get (ci := 2) (v := .ref (ad 3)) (C := RX2) (T := TX2) (N := 4) hx hb hts (by decide +kernel) hown hG.1 hI rfl hr1 hR rfl 1 (by decide) (hts (.fieldLink RX3 174 "CoracleRace$River" "places" "[I") (by decide +kernel)) rfl dX3_digest_87 ?_
                    refine lv_iload_n hx hb dX3_digest_90 rfl (lv_at hl 2 rfl) ?_
                    refine f_iald hx hb hG.1 hI rfl hr3 hRp (vp_in_nI (by omega) (by omega)) dX3_digest_91 ?_
                    rw [hcl]
                    refine lv_i2l hx hb dX3_digest_92 rfl ?_
                    refine lv_ladd hx hb dX3_digest_93 ?_
                    refine lv_lstore_n (lv' := [(1, .long (((p_dgR p g (p_dgS w (p_dgC nw n T Bs i1) i2) i3) * 31) + ((p i3)).toInt64)), (0, .ref (ad 0)), (3, .int (nI i3))]) hx hb dX3_digest_94 rfl hl (by decide) rfl (fun ls hl => ?_)
                    refine lv_lload_n hx hb dX3_digest_95 rfl (lv_at hl 0 rfl) ?_
                    refine lv_ldc2 (v := 31) hx hb hown (hts (.constantLong RX3 172 (31)) (by decide +kernel)) dX3_digest_96 ?_
                    refine lv_lmul hx hb dX3_digest_99 ?_
                    refine lv_aload_n hx hb dX3_digest_100 rfl (lv_at hl 1 rfl) ?_
                    refine f_get (ci := 3) (v := .ref (ad 1)) (C := RX3) (T := TX3) (N := 3) hx hb hts (by decide +kernel) hown hG.1 hI rfl (hXm _ (by omega)) hX0 rfl 0 (by decide) (hts (.fieldLink RX3 10 "CoracleRace" "river" "LCoracleRace$River;") (by decide +kernel)) rfl dX3_digest_101 ?_
                    refine f_get (ci := 2) (v := .ref (ad 4)) (C := RX2) (T := TX2) (N := 4) hx hb hts (by decide +kernel) hown hG.1 hI rfl hr1 hR rfl 2 (by decide) (hts (.fieldLink RX3 177 "CoracleRace$River" "gaps" "[I") (by decide +kernel)) rfl dX3_digest_104 ?_
                    refine lv_iload_n hx hb dX3_digest_107 rfl (lv_at hl 2 rfl) ?_
                    refine f_iald hx hb hG.1 hI rfl hr4 hRg (vp_in_nI (by omega) (by omega)) dX3_digest_108 ?_
                    rw [hcl]
                    refine lv_i2l hx hb dX3_digest_109 rfl ?_
                    refine lv_ladd hx hb dX3_digest_110 ?_
                    refine lv_lstore_n (lv' := [(1, .long (((((p_dgR p g (p_dgS w (p_dgC nw n T Bs i1) i2) i3) * 31) + ((p i3)).toInt64) * 31) + ((g i3)).toInt64)), (0, .ref (ad 0)), (3, .int (nI i3))]) hx hb dX3_digest_111 rfl hl (by decide) rfl (fun ls hl => ?_)
                    refine lv_iinc (v := (nI (i3 + 1))) (lv' := [(3, .int (nI (i3 + 1))), (1, .long (((((p_dgR p g (p_dgS w (p_dgC nw n T Bs i1) i2) i3) * 31) + ((p i3)).toInt64) * 31) + ((g i3)).toInt64)), (0, .ref (ad 0))]) hx hb dX3_digest_112 hl (k := 2) rfl (nI_1 i3) (by decide) rfl (fun ls hl => ?_)
                    refine lv_goto (tgt := 67) hx hb dX3_digest_115 (by decide) ?_
                    refine ihi3 (i3 + 1) (by omega) (by omega) H locs ls hI ?_
                    rw [show p_dgR p g (p_dgS w (p_dgC nw n T Bs i1) i2) (i3 + 1) = (((((p_dgR p g (p_dgS w (p_dgC nw n T Bs i1) i2) i3) * 31) + ((p i3)).toInt64) * 31) + ((g i3)).toInt64) by first | rfl | (rw [p_dgR]; simp [c_9, n_9, c_39, n_39, c_75, n_75]; done)]
                    exact lv_sub hl [2, 1, 0] rfl
              exact Ki3 (nw + 1) 0 (Nat.zero_le _) (by omega) H locs ls hI (lv_sub hl [1, 2, 0] rfl)
            · have n_39 := c_39
              have c_39 := i_nle.mp n_39
              have hi2 : i2 < 5 := (nI_ltI (by omega) (by omega) (b := 5)).mp c_39
              have hcl : (nI i2).toNatClampNeg = i2 := nI_clamp (by omega)
              refine lv_lload_n hx hb dX3_digest_42 rfl (lv_at hl 1 rfl) ?_
              refine lv_ldc2 (v := 31) hx hb hown (hts (.constantLong RX3 172 (31)) (by decide +kernel)) dX3_digest_43 ?_
              refine lv_lmul hx hb dX3_digest_46 ?_
              refine lv_aload_n hx hb dX3_digest_47 rfl (lv_at hl 0 rfl) ?_
              refine f_get (ci := 3) (v := .ref (ad 1)) (C := RX3) (T := TX3) (N := 3) hx hb hts (by decide +kernel) hown hG.1 hI rfl (hXm _ (by omega)) hX0 rfl 0 (by decide) (hts (.fieldLink RX3 10 "CoracleRace" "river" "LCoracleRace$River;") (by decide +kernel)) rfl dX3_digest_48 ?_
              refine f_get (ci := 2) (v := .ref (ad 2)) (C := RX2) (T := TX2) (N := 4) hx hb hts (by decide +kernel) hown hG.1 hI rfl hr1 hR rfl 0 (by decide) (hts (.fieldLink RX3 42 "CoracleRace$River" "water" "[I") (by decide +kernel)) rfl dX3_digest_51 ?_
              refine lv_iload_n hx hb dX3_digest_54 rfl (lv_at hl 2 rfl) ?_
              refine f_iald hx hb hG.1 hI rfl hr2 hRw (vp_in_nI (by omega) (by omega)) dX3_digest_55 ?_
              rw [hcl]
              refine lv_i2l hx hb dX3_digest_56 rfl ?_
              refine lv_ladd hx hb dX3_digest_57 ?_
              refine lv_lstore_n (lv' := [(1, .long (((p_dgS w (p_dgC nw n T Bs i1) i2) * 31) + ((w i2)).toInt64)), (0, .ref (ad 0)), (3, .int (nI i2))]) hx hb dX3_digest_58 rfl hl (by decide) rfl (fun ls hl => ?_)
              refine lv_iinc (v := (nI (i2 + 1))) (lv' := [(3, .int (nI (i2 + 1))), (1, .long (((p_dgS w (p_dgC nw n T Bs i1) i2) * 31) + ((w i2)).toInt64)), (0, .ref (ad 0))]) hx hb dX3_digest_59 hl (k := 2) rfl (nI_1 i2) (by decide) rfl (fun ls hl => ?_)
              refine lv_goto (tgt := 37) hx hb dX3_digest_62 (by decide) ?_
              refine ihi2 (i2 + 1) (by omega) (by omega) H locs ls hI ?_
              rw [show p_dgS w (p_dgC nw n T Bs i1) (i2 + 1) = (((p_dgS w (p_dgC nw n T Bs i1) i2) * 31) + ((w i2)).toInt64) by first | rfl | (rw [p_dgS]; simp [c_9, n_9, c_39, n_39]; done)]
              exact lv_sub hl [2, 1, 0] rfl
        exact Ki2 (5 + 1) 0 (Nat.zero_le _) (by omega) H locs ls hI (lv_sub hl [1, 2, 0] rfl)
      · have n_9 := c_9
        have c_9 := i_nlt.mp n_9
        have hi1 : i1 ≤ 6 := (nI_leI (by omega) (by omega) (b := 6)).mp c_9
        have hcl : (nI i1).toNatClampNeg = i1 := nI_clamp (by omega)
        refine lv_lload_n hx hb dX3_digest_12 rfl (lv_at hl 1 rfl) ?_
        refine lv_ldc2 (v := 31) hx hb hown (hts (.constantLong RX3 172 (31)) (by decide +kernel)) dX3_digest_13 ?_
        refine lv_lmul hx hb dX3_digest_16 ?_
        refine lv_aload_n hx hb dX3_digest_17 rfl (lv_at hl 0 rfl) ?_
        refine lv_aload_n hx hb dX3_digest_18 rfl (lv_at hl 0 rfl) ?_
        refine f_get (ci := 3) (v := .ref (ad 10)) (C := RX3) (T := TX3) (N := 3) hx hb hts (by decide +kernel) hown hG.1 hI rfl (hXm _ (by omega)) hX0 rfl 1 (by decide) (hts (.fieldLink RX3 19 "CoracleRace" "fleet" "LCoracleRace$Fleet;") (by decide +kernel)) rfl dX3_digest_19 ?_
        refine lv_iload_n hx hb dX3_digest_22 rfl (lv_at hl 2 rfl) ?_
        refine f_calli1 (va_runV (As := [.ref (ad 10), .int (nI i1)]) (rest := [.long ((p_dgC nw n T Bs i1) * 31)]) ⟨hx, hb, hml, hown, hts⟩ (m_X3_countIn l (fb := 10) rfl (by decide) (fun k h1 h2 => hXm k (by omega)) hn6 hF10 (nw := nw) hX0 (hXm _ (by omega)) hr1 hR h8 i1 (by omega)) (cwV 2 hts gX3_digest_X3_countIn rfl rfl rfl (by decide +kernel) ⟨Nat.le_of_ble_eq_true rfl, Nat.le_of_ble_eq_true rfl⟩) (fPre_ofV hG hI rfl (hXm _ (by omega)) hX0 rfl rfl) rfl rfl hl.1 rfl (lv_room (Nat.le_of_ble_eq_true rfl)) dX3_digest_23 ⟨Nat.le_of_ble_eq_true rfl, Nat.le_of_ble_eq_true rfl⟩) hI (fun r3 E4 H locs hp hI => ?_)
        obtain ⟨he, hq⟩ := hp
        rw [hq] at hI
        have he : r3 = (p_cnt nw n T Bs i1) := he
        subst he
        refine lv_i2l hx hb dX3_digest_26 rfl ?_
        refine lv_ladd hx hb dX3_digest_27 ?_
        refine lv_lstore_n (lv' := [(1, .long (((p_dgC nw n T Bs i1) * 31) + ((p_cnt nw n T Bs i1)).toInt64)), (0, .ref (ad 0)), (3, .int (nI i1))]) hx hb dX3_digest_28 rfl hl (by decide) rfl (fun ls hl => ?_)
        refine lv_iinc (v := (nI (i1 + 1))) (lv' := [(3, .int (nI (i1 + 1))), (1, .long (((p_dgC nw n T Bs i1) * 31) + ((p_cnt nw n T Bs i1)).toInt64)), (0, .ref (ad 0))]) hx hb dX3_digest_29 hl (k := 2) rfl (nI_1 i1) (by decide) rfl (fun ls hl => ?_)
        refine lv_goto (tgt := 6) hx hb dX3_digest_32 (by decide) ?_
        refine ihi1 (i1 + 1) (by omega) (by omega) H locs ls hI ?_
        rw [show p_dgC nw n T Bs (i1 + 1) = (((p_dgC nw n T Bs i1) * 31) + ((p_cnt nw n T Bs i1)).toInt64) by first | rfl | (rw [p_dgC]; simp [c_9, n_9]; done)]
        exact lv_sub hl [2, 1, 0] rfl
  exact Ki1 (7 + 1) 0 (Nat.zero_le _) (by omega) H locs ls hI (lv_sub hl [2, 1, 0] rfl)
