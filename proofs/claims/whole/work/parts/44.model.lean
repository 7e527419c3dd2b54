set_option maxHeartbeats 4000000 in
set_option maxRecDepth 100000 in
theorem m_X5_digest (l : Launch) {D : va_G} {cI cJ cB : ClassId} {t0 z : Nat} {tx ad : Nat → Nat} {L : List Nat} {E : Nat → va_E} {th : Int32} {w p g : Nat → Int32} {nw n T : Nat} {str : Nat → Int32} {S : Nat → Nat → Int32} (hMS : mm cI ad E th w p g nw n T str S) (hMm : ∀ k, (50 ≤ k ∧ k < 55) ∨ (60 ≤ k ∧ k < 71) ∨ (80 ≤ k ∧ k < 91) → k ∈ L) (hNW : nw ≤ 6) (hN6 : n ≤ 6) (hTb : T < 2 ^ 30) (hrv : okr w p nw) (hok : ∀ q, q < n → okb (mb S str q)) (h99 : 99 ∉ L) : Met l yX5_digest wsX5_digest ({ frames := 4, cells := 61, slots := 535, locals := 87 } : Room) (va_Pc [.ref (ad 50)] (fPre D cI cJ cB t0 z tx ad L E)) (va_Ql (fun (r : Int64) (E1 : Nat → va_E) => r = p_dig w p g nw n T (mb S str) (fun i => m_row (S 9 i) (S 8 i)) (fun i => (S 8 i).toNatClampNeg) ∧ mm cI ad E1 0 w p g nw n T str S ∧ ∀ q : Nat, (q < 50 ∨ 91 ≤ q) → E1 q = E q) (fB D z ad L) (fA z)) 61 535 (fA z) := by
  refine f_ofW (cc := cX5_digest) (maxL := 7) (ret := some .long) (by decide) rfl (Nat.le_of_ble_eq_true rfl) ?_
  intro pr e s m args below meth c Q hx hb hr hml hts hown hlocks hin hG H locs hI hQ ls hl
  have hl : lv_has ls 7 [(0, .ref (ad 50))] := hl
  have hfr : ∀ q : Nat, (q < 50 ∨ 91 ≤ q) → E q = E q := fun _ _ => rfl
  obtain ⟨hM, hS, Ta, Sa, hTa, hA⟩ := id hMS
  refine lv_aload_n hx hb dX5_digest_0 rfl (lv_at hl 0 rfl) ?_
  refine lv_iconst (v := 0) hx hb dX5_digest_1 (by decide) ?_
  refine f_put (ci := 5) (v := .int 0) (C := RX5) (T := TX5) (N := 9) hx hb hts (by decide +kernel) tyX5 tyX5_ok nmX5 hown hG.1 hI rfl (hMm _ (by omega)) (hM.1) rfl 0 (by decide) (hts (.fieldLink RX5 34 "CoracleRaceModel" "thrown" "I") (by decide +kernel)) rfl rfl rfl (Nat.le_of_ble_eq_true rfl) dX5_digest_2 (fun E1 H locs hE2 hn3 hI => ?_)
  have hM := hM.top (th1 := 0) (nw1 := nw) (n1 := n) hE2 (fun q hq => hn3 q hq)
  have hS := hS.kept (fun q h1 h2 => hn3 q (by omega))
  have hA := hA.kept (fun q h1 h2 => hn3 q (by omega))
  have hfr : ∀ q : Nat, (q < 50 ∨ 91 ≤ q) → E1 q = E q := fun q hq => (hn3 q (by omega)).trans (hfr q hq)
  refine lv_ldc2 (v := 1163) hx hb hown (hts (.constantLong RX5 128 (1163)) (by decide +kernel)) dX5_digest_5 ?_
  refine lv_lstore_n (lv' := [(1, .long 1163), (0, .ref (ad 50))]) hx hb dX5_digest_8 rfl hl (by decide) rfl (fun ls hl => ?_)
  refine lv_iconst (v := 0) hx hb dX5_digest_9 (by decide) ?_
  refine lv_istore_n (lv' := [(3, .int 0), (1, .long 1163), (0, .ref (ad 50))]) hx hb dX5_digest_10 rfl hl (by decide) rfl (fun ls hl => ?_)
  have Ki1 : ∀ (ki1 i1 : Nat), i1 ≤ 7 → 7 + 1 ≤ i1 + ki1 → ∀ (H : Heap) (locs : List Loc) (ls : Array Slot), fI D (fA z) s.heap ad L E1 H locs → lv_has ls 7 [(0, .ref (ad 50)), (1, .long (p_dgC nw n T (mb S str) i1)), (3, .int (nI i1))] → W pr l e ({ frames := 4, cells := 61, slots := 535, locals := 87 } : Room) s m args below meth c H locs i1 (7 * i1) Q (F0 m 11 ls []) := by
    intro ki1
    induction ki1 with
    | zero => intro i1 h1 h2; exact absurd h2 (by omega)
    | succ ki1 ihi1 =>
      intro i1 hi1i1 hi2i1 H locs ls hI hl
      refine lv_iload_n hx hb dX5_digest_11 rfl (lv_at hl 2 rfl) ?_
      refine lv_bipush (v := 7) hx hb dX5_digest_12 (by decide) ?_
      refine lv_icmp_ge (tgt := 39) hx hb dX5_digest_14 (by decide) (fun c_14 => ?_) (fun c_14 => ?_)
      · have n_14 := i_nlt.mpr c_14
        have hi1 : i1 = 7 := by have := (nI_leI (by omega) (by omega) (a := 7)).mp c_14; omega
        subst hi1
        refine lv_aload_n hx hb dX5_digest_39 rfl (lv_at hl 0 rfl) ?_
        refine f_get (ci := 5) (v := .ref (ad 51)) (C := RX5) (T := TX5) (N := 9) hx hb hts (by decide +kernel) hown hG.1 hI rfl (hMm _ (by omega)) (hM.1) rfl 1 (by decide) (hts (.fieldLink RX5 7 "CoracleRaceModel" "water" "[I") (by decide +kernel)) rfl dX5_digest_40 ?_
        refine lv_astore_n (lv' := [(3, .ref (ad 51)), (0, .ref (ad 50)), (1, .long (p_dgC nw n T (mb S str) 7))]) hx hb dX5_digest_43 rfl hl (by decide) rfl (fun ls hl => ?_)
        refine lv_aload_n hx hb dX5_digest_44 rfl (lv_at hl 0 rfl) ?_
        refine f_alen hx hb hG.1 hI rfl (hMm _ (by omega)) (hM.2.1) (v := 5) (by decide) dX5_digest_45 ?_
        refine lv_istore (lv' := [(4, .int 5), (3, .ref (ad 51)), (0, .ref (ad 50)), (1, .long (p_dgC nw n T (mb S str) 7))]) hx hb dX5_digest_46 hl (by decide) rfl (fun ls hl => ?_)
        refine lv_iconst (v := 0) hx hb dX5_digest_48 (by decide) ?_
        refine lv_istore (lv' := [(5, .int 0), (4, .int 5), (3, .ref (ad 51)), (0, .ref (ad 50)), (1, .long (p_dgC nw n T (mb S str) 7))]) hx hb dX5_digest_49 hl (by decide) rfl (fun ls hl => ?_)
        have Ki2 : ∀ (ki2 i2 : Nat), i2 ≤ 5 → 5 + 1 ≤ i2 + ki2 → ∀ (H : Heap) (locs : List Loc) (ls : Array Slot), fI D (fA z) s.heap ad L E1 H locs → lv_has ls 7 [(0, .ref (ad 50)), (1, .long (p_dgS w (p_dgC nw n T (mb S str) 7) i2)), (3, .ref (ad 51)), (4, .int 5), (5, .int (nI i2))] → W pr l e ({ frames := 4, cells := 61, slots := 535, locals := 87 } : Room) s m args below meth c H locs 7 49 Q (F0 m 51 ls []) := by
          intro ki2
          induction ki2 with
          | zero => intro i2 h1 h2; exact absurd h2 (by omega)
          | succ ki2 ihi2 =>
            intro i2 hi1i2 hi2i2 H locs ls hI hl
            refine lv_iload hx hb dX5_digest_51 (lv_at hl 4 rfl) ?_
            refine lv_iload hx hb dX5_digest_53 (lv_at hl 3 rfl) ?_
            refine lv_icmp_ge (tgt := 80) hx hb dX5_digest_55 (by decide) (fun c_55 => ?_) (fun c_55 => ?_)
            · have n_55 := i_nlt.mpr c_55
              have hi2 : i2 = 5 := by have := (nI_leI (by omega) (by omega) (a := 5)).mp c_55; omega
              subst hi2
              refine lv_iconst (v := 0) hx hb dX5_digest_80 (by decide) ?_
              refine lv_istore_n (lv' := [(3, .int 0), (0, .ref (ad 50)), (1, .long (p_dgS w (p_dgC nw n T (mb S str) 7) 5)), (4, .int 5), (5, .int (nI 5))]) hx hb dX5_digest_81 rfl hl (by decide) rfl (fun ls hl => ?_)
              have Ki3 : ∀ (ki3 i3 : Nat), i3 ≤ nw → nw + 1 ≤ i3 + ki3 → ∀ (H : Heap) (locs : List Loc) (ls : Array Slot), fI D (fA z) s.heap ad L E1 H locs → lv_has ls 7 [(0, .ref (ad 50)), (1, .long (p_dgR p g (p_dgS w (p_dgC nw n T (mb S str) 7) 5) i3)), (3, .int (nI i3))] → W pr l e ({ frames := 4, cells := 61, slots := 535, locals := 87 } : Room) s m args below meth c H locs 7 49 Q (F0 m 82 ls []) := by
                intro ki3
                induction ki3 with
                | zero => intro i3 h1 h2; exact absurd h2 (by omega)
                | succ ki3 ihi3 =>
                  intro i3 hi1i3 hi2i3 H locs ls hI hl
                  refine lv_iload_n hx hb dX5_digest_82 rfl (lv_at hl 2 rfl) ?_
                  refine lv_aload_n hx hb dX5_digest_83 rfl (lv_at hl 0 rfl) ?_
                  refine f_get (ci := 5) (v := .int (nI nw)) (C := RX5) (T := TX5) (N := 9) hx hb hts (by decide +kernel) hown hG.1 hI rfl (hMm _ (by omega)) (hM.1) rfl 2 (by decide) (hts (.fieldLink RX5 49 "CoracleRaceModel" "weirs" "I") (by decide +kernel)) rfl dX5_digest_84 ?_
                  refine lv_icmp_ge (tgt := 122) hx hb dX5_digest_87 (by decide) (fun c_87 => ?_) (fun c_87 => ?_)
                  · have n_87 := i_nlt.mpr c_87
                    have hi3 : i3 = nw := by have := (nI_leI (by omega) (by omega)).mp c_87; omega
                    rw [hi3] at hl
                    refine lv_iconst (v := 0) hx hb dX5_digest_122 (by decide) ?_
                    refine lv_istore_n (lv' := [(3, .int 0), (0, .ref (ad 50)), (1, .long (p_dgR p g (p_dgS w (p_dgC nw n T (mb S str) 7) 5) nw))]) hx hb dX5_digest_123 rfl hl (by decide) rfl (fun ls hl => ?_)
                    have Ki4 : ∀ (ki4 i4 : Nat), i4 ≤ n → n + 1 ≤ i4 + ki4 → ∀ (H : Heap) (locs : List Loc) (ls : Array Slot), fI D (fA z) s.heap ad L E1 H locs → lv_has ls 7 [(0, .ref (ad 50)), (1, .long (p_dgA n (mb S str) (fun i => m_row (S 9 i) (S 8 i)) (fun i => (S 8 i).toNatClampNeg) (p_dgR p g (p_dgS w (p_dgC nw n T (mb S str) 7) 5) nw) i4)), (3, .int (nI i4))] → W pr l e ({ frames := 4, cells := 61, slots := 535, locals := 87 } : Room) s m args below meth c H locs (7 + 9 * i4) (49 + 81 * i4) Q (F0 m 124 ls []) := by
                      intro ki4
                      induction ki4 with
                      | zero => intro i4 h1 h2; exact absurd h2 (by omega)
                      | succ ki4 ihi4 =>
                        intro i4 hi1i4 hi2i4 H locs ls hI hl
                        refine lv_iload_n hx hb dX5_digest_124 rfl (lv_at hl 2 rfl) ?_
                        refine lv_aload_n hx hb dX5_digest_125 rfl (lv_at hl 0 rfl) ?_
                        refine f_get (ci := 5) (v := .int (nI n)) (C := RX5) (T := TX5) (N := 9) hx hb hts (by decide +kernel) hown hG.1 hI rfl (hMm _ (by omega)) (hM.1) rfl 5 (by decide) (hts (.fieldLink RX5 38 "CoracleRaceModel" "boats" "I") (by decide +kernel)) rfl dX5_digest_126 ?_
                        refine lv_icmp_ge (tgt := 223) hx hb dX5_digest_129 (by decide) (fun c_129 => ?_) (fun c_129 => ?_)
                        · have n_129 := i_nlt.mpr c_129
                          have hi4 : i4 = n := by have := (nI_leI (by omega) (by omega)).mp c_129; omega
                          refine lv_lload_n hx hb dX5_digest_223 rfl (lv_at hl 1 rfl) ?_
                          exact f_retl hQ hx hb hr hlocks hI.2.2 (by omega) (by omega) dX5_digest_224 E1 (fB_of hI) (⟨by rw [hi4]; rfl, ⟨hM, hS, _, _, hTa, hA⟩, hfr⟩)
                        · have n_129 := c_129
                          have c_129 := i_nle.mp n_129
                          have hi4 : i4 < n := (nI_ltI (by omega) (by omega)).mp c_129
                          obtain ⟨e1, e2, e3⟩ := okb_len (hok i4 hi4)
                          have e1 : S 8 i4 = nI (S 8 i4).toNatClampNeg := e1
                          have e3 : (S 8 i4).toNatClampNeg ≤ 6 := e3
                          refine lv_iconst (v := 0) hx hb dX5_digest_132 (by decide) ?_
                          refine lv_istore (lv' := [(4, .int 0), (0, .ref (ad 50)), (1, .long (p_dgA n (mb S str) (fun i => m_row (S 9 i) (S 8 i)) (fun i => (S 8 i).toNatClampNeg) (p_dgR p g (p_dgS w (p_dgC nw n T (mb S str) 7) 5) nw) i4)), (3, .int (nI i4))]) hx hb dX5_digest_133 hl (by decide) rfl (fun ls hl => ?_)
                          have Ki5 : ∀ (ki5 i5 : Nat), i5 ≤ 9 → 9 + 1 ≤ i5 + ki5 → ∀ (H : Heap) (locs : List Loc) (ls : Array Slot), fI D (fA z) s.heap ad L E1 H locs → lv_has ls 7 [(0, .ref (ad 50)), (1, .long (p_dgF (mb S str i4) (p_dgA n (mb S str) (fun i => m_row (S 9 i) (S 8 i)) (fun i => (S 8 i).toNatClampNeg) (p_dgR p g (p_dgS w (p_dgC nw n T (mb S str) 7) 5) nw) i4) i5)), (3, .int (nI i4)), (4, .int (nI i5))] → W pr l e ({ frames := 4, cells := 61, slots := 535, locals := 87 } : Room) s m args below meth c H locs (7 + 9 * i4 + i5) (49 + 81 * i4 + 9 * i5) Q (F0 m 135 ls []) := by
                            intro ki5
                            induction ki5 with
                            | zero => intro i5 h1 h2; exact absurd h2 (by omega)
                            | succ ki5 ihi5 =>
                              intro i5 hi1i5 hi2i5 H locs ls hI hl
                              refine lv_iload hx hb dX5_digest_135 (lv_at hl 3 rfl) ?_
                              refine lv_bipush (v := 9) hx hb dX5_digest_137 (by decide) ?_
                              refine lv_icmp_ge (tgt := 163) hx hb dX5_digest_139 (by decide) (fun c_139 => ?_) (fun c_139 => ?_)
                              · have n_139 := i_nlt.mpr c_139
                                have hi5 : i5 = 9 := by have := (nI_leI (by omega) (by omega) (a := 9)).mp c_139; omega
                                subst hi5
                                refine lv_iconst (v := 0) hx hb dX5_digest_163 (by decide) ?_
                                refine lv_istore (lv' := [(4, .int 0), (0, .ref (ad 50)), (1, .long (p_dgF (mb S str i4) (p_dgA n (mb S str) (fun i => m_row (S 9 i) (S 8 i)) (fun i => (S 8 i).toNatClampNeg) (p_dgR p g (p_dgS w (p_dgC nw n T (mb S str) 7) 5) nw) i4) 9)), (3, .int (nI i4))]) hx hb dX5_digest_164 hl (by decide) rfl (fun ls hl => ?_)
                                have Ki6 : ∀ (ki6 i6 : Nat), i6 ≤ (S 8 i4).toNatClampNeg → (S 8 i4).toNatClampNeg + 1 ≤ i6 + ki6 → ∀ (H : Heap) (locs : List Loc) (ls : Array Slot), fI D (fA z) s.heap ad L E1 H locs → lv_has ls 7 [(0, .ref (ad 50)), (1, .long (p_dgS (m_row (S 9 i4) (S 8 i4)) (p_dgF (mb S str i4) (p_dgA n (mb S str) (fun i => m_row (S 9 i) (S 8 i)) (fun i => (S 8 i).toNatClampNeg) (p_dgR p g (p_dgS w (p_dgC nw n T (mb S str) 7) 5) nw) i4) 9) i6)), (3, .int (nI i4)), (4, .int (nI i6))] → W pr l e ({ frames := 4, cells := 61, slots := 535, locals := 87 } : Room) s m args below meth c H locs (7 + 9 * i4 + 9) (49 + 81 * i4 + 81) Q (F0 m 166 ls []) := by
                                  intro ki6
                                  induction ki6 with
                                  | zero => intro i6 h1 h2; exact absurd h2 (by omega)
                                  | succ ki6 ihi6 =>
                                    intro i6 hi1i6 hi2i6 H locs ls hI hl
                                    refine lv_iload hx hb dX5_digest_166 (lv_at hl 3 rfl) ?_
                                    refine lv_aload_n hx hb dX5_digest_168 rfl (lv_at hl 0 rfl) ?_
                                    refine f_get (ci := 5) (v := .ref (ad 60)) (C := RX5) (T := TX5) (N := 9) hx hb hts (by decide +kernel) hown hG.1 hI rfl (hMm _ (by omega)) (hM.1) rfl 7 (by decide) (hts (.fieldLink RX5 27 "CoracleRaceModel" "s" "LCoracleRaceModel$State;") (by decide +kernel)) rfl dX5_digest_169 ?_
                                    refine f_getN (ci := 4) (v := .ref (ad (60 + 1 + 8))) (C := RX4) (T := TX4) (N := 12) hx hb hts (by decide +kernel) hown hG.1 hI rfl (hMm _ (by omega)) (hS.1) rfl 9 (by decide) (hG.2.1 (.fieldLinkNest RX5 58 RX4 "length" "[I" RX5) (by simp [fNest])) rfl dX5_digest_172 ?_
                                    refine lv_iload_n hx hb dX5_digest_175 rfl (lv_at hl 2 rfl) ?_
                                    refine f_iald hx hb hG.1 hI rfl (hMm _ (by omega)) (hS.2 8 (by decide)) (vp_in_nI (by omega) (by omega)) dX5_digest_176 ?_
                                    refine lv_topi (fun tv etv => ?_)
                                    have etv : tv = (nI (S 8 i4).toNatClampNeg) := etv.trans (by rw [show (nI i4).toNatClampNeg = i4 from nI_clamp (by omega)]; exact e1)
                                    subst etv
                                    refine lv_icmp_ge (tgt := 204) hx hb dX5_digest_177 (by decide) (fun c_177 => ?_) (fun c_177 => ?_)
                                    · have n_177 := i_nlt.mpr c_177
                                      have hi6 : i6 = (S 8 i4).toNatClampNeg := by have := (nI_leI (by omega) (by omega)).mp c_177; omega
                                      rw [hi6] at hl
                                      refine lv_lload_n hx hb dX5_digest_204 rfl (lv_at hl 1 rfl) ?_
                                      refine lv_ldc2 (v := 31) hx hb hown (hts (.constantLong RX5 130 (31)) (by decide +kernel)) dX5_digest_205 ?_
                                      refine lv_lmul hx hb dX5_digest_208 ?_
                                      refine lv_aload_n hx hb dX5_digest_209 rfl (lv_at hl 0 rfl) ?_
                                      refine lv_iload_n hx hb dX5_digest_210 rfl (lv_at hl 2 rfl) ?_
                                      refine f_calli1 (va_runV (As := [.int (nI i4)]) (rest := [.long ((p_dgS (m_row (S 9 i4) (S 8 i4)) (p_dgF (mb S str i4) (p_dgA n (mb S str) (fun i => m_row (S 9 i) (S 8 i)) (fun i => (S 8 i).toNatClampNeg) (p_dgR p g (p_dgS w (p_dgC nw n T (mb S str) 7) 5) nw) i4) 9) (S 8 i4).toNatClampNeg) * 31)]) ⟨hx, hb, hml, hown, hts⟩ (m_X5_rankOf l ⟨hM, hS, _, _, hTa, hA⟩ hMm hNW hN6 hTb hrv hok h99 (u := i4) (by omega)) (cwV 1 hts gX5_digest_X5_rankOf rfl rfl rfl (by decide +kernel) ⟨Nat.le_of_ble_eq_true rfl, Nat.le_of_ble_eq_true rfl⟩) (fPre_ofV hG hI rfl (hMm _ (by omega)) (hM.1) rfl rfl) rfl rfl hl.1 rfl (lv_room (Nat.le_of_ble_eq_true rfl)) dX5_digest_211 ⟨(by show _ ≤ 61; omega), (by show _ ≤ 535; omega)⟩) hI (fun r4 E5 H locs hp hI => ?_)
                                      obtain ⟨he, hq⟩ := hp
                                      rw [hq] at hI
                                      have he : r4 = (1 + p_rk (mb S str) (mb S str i4) n) := he
                                      subst he
                                      refine lv_i2l hx hb dX5_digest_214 rfl ?_
                                      refine lv_ladd hx hb dX5_digest_215 ?_
                                      refine lv_lstore_n (lv' := [(1, .long (((p_dgS (m_row (S 9 i4) (S 8 i4)) (p_dgF (mb S str i4) (p_dgA n (mb S str) (fun i => m_row (S 9 i) (S 8 i)) (fun i => (S 8 i).toNatClampNeg) (p_dgR p g (p_dgS w (p_dgC nw n T (mb S str) 7) 5) nw) i4) 9) (S 8 i4).toNatClampNeg) * 31) + ((1 + p_rk (mb S str) (mb S str i4) n)).toInt64)), (0, .ref (ad 50)), (3, .int (nI i4)), (4, .int (nI (S 8 i4).toNatClampNeg))]) hx hb dX5_digest_216 rfl hl (by decide) rfl (fun ls hl => ?_)
                                      refine lv_iinc (v := (nI (i4 + 1))) (lv' := [(3, .int (nI (i4 + 1))), (1, .long (((p_dgS (m_row (S 9 i4) (S 8 i4)) (p_dgF (mb S str i4) (p_dgA n (mb S str) (fun i => m_row (S 9 i) (S 8 i)) (fun i => (S 8 i).toNatClampNeg) (p_dgR p g (p_dgS w (p_dgC nw n T (mb S str) 7) 5) nw) i4) 9) (S 8 i4).toNatClampNeg) * 31) + ((1 + p_rk (mb S str) (mb S str i4) n)).toInt64)), (0, .ref (ad 50)), (4, .int (nI (S 8 i4).toNatClampNeg))]) hx hb dX5_digest_217 hl (k := 2) rfl (nI_1 i4) (by decide) rfl (fun ls hl => ?_)
                                      refine lv_goto (tgt := 124) hx hb dX5_digest_220 (by decide) ?_
                                      refine ihi4 (i4 + 1) (by omega) (by omega) H locs ls hI ?_
                                      rw [show (p_dgA n (mb S str) (fun i => m_row (S 9 i) (S 8 i)) (fun i => (S 8 i).toNatClampNeg) (p_dgR p g (p_dgS w (p_dgC nw n T (mb S str) 7) 5) nw) (i4 + 1)) = (((p_dgS (m_row (S 9 i4) (S 8 i4)) (p_dgF (mb S str i4) (p_dgA n (mb S str) (fun i => m_row (S 9 i) (S 8 i)) (fun i => (S 8 i).toNatClampNeg) (p_dgR p g (p_dgS w (p_dgC nw n T (mb S str) 7) 5) nw) i4) 9) (S 8 i4).toNatClampNeg) * 31) + ((1 + p_rk (mb S str) (mb S str i4) n)).toInt64) from rfl]
                                      exact lv_sub hl [2, 1, 0] rfl
                                    · have n_177 := c_177
                                      have c_177 := i_nle.mp n_177
                                      have hi6 : i6 < (S 8 i4).toNatClampNeg := (nI_ltI (by omega) (by omega)).mp c_177
                                      refine lv_lload_n hx hb dX5_digest_180 rfl (lv_at hl 1 rfl) ?_
                                      refine lv_ldc2 (v := 31) hx hb hown (hts (.constantLong RX5 130 (31)) (by decide +kernel)) dX5_digest_181 ?_
                                      refine lv_lmul hx hb dX5_digest_184 ?_
                                      refine lv_aload_n hx hb dX5_digest_185 rfl (lv_at hl 0 rfl) ?_
                                      refine f_get (ci := 5) (v := .ref (ad 60)) (C := RX5) (T := TX5) (N := 9) hx hb hts (by decide +kernel) hown hG.1 hI rfl (hMm _ (by omega)) (hM.1) rfl 7 (by decide) (hts (.fieldLink RX5 27 "CoracleRaceModel" "s" "LCoracleRaceModel$State;") (by decide +kernel)) rfl dX5_digest_186 ?_
                                      refine lv_iload_n hx hb dX5_digest_189 rfl (lv_at hl 2 rfl) ?_
                                      refine lv_iload hx hb dX5_digest_190 (lv_at hl 3 rfl) ?_
                                      refine f_calli1 (va_runV (As := [.int (nI i4), .int (nI i6)]) (rest := [.long ((p_dgS (m_row (S 9 i4) (S 8 i4)) (p_dgF (mb S str i4) (p_dgA n (mb S str) (fun i => m_row (S 9 i) (S 8 i)) (fun i => (S 8 i).toNatClampNeg) (p_dgR p g (p_dgS w (p_dgC nw n T (mb S str) 7) 5) nw) i4) 9) i6) * 31)]) ⟨hx, hb, hml, hown, hts⟩ (m_X4_stroke l (sb := 60) rfl (by decide) (fun k h1 h2 => hMm k (by omega)) (by omega) (u := i4) (by omega) hS (t := i6) (len := (S 8 i4).toNatClampNeg) hi6 e3 e1) (cwV 2 hts gX5_digest_X4_stroke rfl rfl rfl (by decide +kernel) ⟨Nat.le_of_ble_eq_true rfl, Nat.le_of_ble_eq_true rfl⟩) (fPre_ofV hG hI rfl (hMm _ (by omega)) (hS.1) rfl rfl) rfl rfl hl.1 rfl (lv_room (Nat.le_of_ble_eq_true rfl)) dX5_digest_192 ⟨(by show _ ≤ 61; omega), (by show _ ≤ 535; omega)⟩) hI (fun r6 E7 H locs hp hI => ?_)
                                      obtain ⟨he, hq⟩ := hp
                                      rw [hq] at hI
                                      have he : r6 = m_row (S 9 i4) (S 8 i4) i6 := by rw [← e1] at he; exact he
                                      subst he
                                      refine lv_i2l hx hb dX5_digest_195 rfl ?_
                                      refine lv_ladd hx hb dX5_digest_196 ?_
                                      refine lv_lstore_n (lv' := [(1, .long (((p_dgS (m_row (S 9 i4) (S 8 i4)) (p_dgF (mb S str i4) (p_dgA n (mb S str) (fun i => m_row (S 9 i) (S 8 i)) (fun i => (S 8 i).toNatClampNeg) (p_dgR p g (p_dgS w (p_dgC nw n T (mb S str) 7) 5) nw) i4) 9) i6) * 31) + ((m_row (S 9 i4) (S 8 i4) i6)).toInt64)), (0, .ref (ad 50)), (3, .int (nI i4)), (4, .int (nI i6))]) hx hb dX5_digest_197 rfl hl (by decide) rfl (fun ls hl => ?_)
                                      refine lv_iinc (v := (nI (i6 + 1))) (lv' := [(4, .int (nI (i6 + 1))), (1, .long (((p_dgS (m_row (S 9 i4) (S 8 i4)) (p_dgF (mb S str i4) (p_dgA n (mb S str) (fun i => m_row (S 9 i) (S 8 i)) (fun i => (S 8 i).toNatClampNeg) (p_dgR p g (p_dgS w (p_dgC nw n T (mb S str) 7) 5) nw) i4) 9) i6) * 31) + ((m_row (S 9 i4) (S 8 i4) i6)).toInt64)), (0, .ref (ad 50)), (3, .int (nI i4))]) hx hb dX5_digest_198 hl (k := 3) rfl (nI_1 i6) (by decide) rfl (fun ls hl => ?_)
                                      refine lv_goto (tgt := 166) hx hb dX5_digest_201 (by decide) ?_
                                      refine ihi6 (i6 + 1) (by omega) (by omega) H locs ls hI ?_
                                      rw [show (p_dgS (m_row (S 9 i4) (S 8 i4)) (p_dgF (mb S str i4) (p_dgA n (mb S str) (fun i => m_row (S 9 i) (S 8 i)) (fun i => (S 8 i).toNatClampNeg) (p_dgR p g (p_dgS w (p_dgC nw n T (mb S str) 7) 5) nw) i4) 9) (i6 + 1)) = (((p_dgS (m_row (S 9 i4) (S 8 i4)) (p_dgF (mb S str i4) (p_dgA n (mb S str) (fun i => m_row (S 9 i) (S 8 i)) (fun i => (S 8 i).toNatClampNeg) (p_dgR p g (p_dgS w (p_dgC nw n T (mb S str) 7) 5) nw) i4) 9) i6) * 31) + ((m_row (S 9 i4) (S 8 i4) i6)).toInt64) from rfl]
                                      exact lv_sub hl [2, 1, 3, 0] rfl
                                exact Ki6 ((S 8 i4).toNatClampNeg + 1) 0 (Nat.zero_le _) (by omega) H locs ls hI (lv_sub hl [1, 2, 3, 0] rfl)
                              · have n_139 := c_139
                                have c_139 := i_nle.mp n_139
                                have hi5 : i5 < 9 := (nI_ltI (by omega) (by omega) (b := 9)).mp c_139
                                refine lv_lload_n hx hb dX5_digest_142 rfl (lv_at hl 1 rfl) ?_
                                refine lv_ldc2 (v := 31) hx hb hown (hts (.constantLong RX5 130 (31)) (by decide +kernel)) dX5_digest_143 ?_
                                refine lv_lmul hx hb dX5_digest_146 ?_
                                refine lv_aload_n hx hb dX5_digest_147 rfl (lv_at hl 0 rfl) ?_
                                refine lv_iload_n hx hb dX5_digest_148 rfl (lv_at hl 2 rfl) ?_
                                refine lv_iload hx hb dX5_digest_149 (lv_at hl 3 rfl) ?_
                                refine f_calli1 (va_runV (As := [.int (nI i4), .int (nI i5)]) (rest := [.long ((p_dgF (mb S str i4) (p_dgA n (mb S str) (fun i => m_row (S 9 i) (S 8 i)) (fun i => (S 8 i).toNatClampNeg) (p_dgR p g (p_dgS w (p_dgC nw n T (mb S str) 7) 5) nw) i4) i5) * 31)]) ⟨hx, hb, hml, hown, hts⟩ (m_X5_boatTold l ⟨hM, hS, _, _, hTa, hA⟩ hMm hNW hN6 hTb hrv hok h99 (u := i4) (v := i5) (by omega) (by omega)) (cwV 2 hts gX5_digest_X5_boatTold rfl rfl rfl (by decide +kernel) ⟨Nat.le_of_ble_eq_true rfl, Nat.le_of_ble_eq_true rfl⟩) (fPre_ofV hG hI rfl (hMm _ (by omega)) (hM.1) rfl rfl) rfl rfl hl.1 rfl (lv_room (Nat.le_of_ble_eq_true rfl)) dX5_digest_151 ⟨(by show _ ≤ 61; omega), (by show _ ≤ 535; omega)⟩) hI (fun r8 E9 H locs hp hI => ?_)
                                obtain ⟨he, hq⟩ := hp
                                rw [hq] at hI
                                have he : r8 = (p_fact (mb S str i4) i5) := he
                                subst he
                                refine lv_i2l hx hb dX5_digest_154 rfl ?_
                                refine lv_ladd hx hb dX5_digest_155 ?_
                                refine lv_lstore_n (lv' := [(1, .long (((p_dgF (mb S str i4) (p_dgA n (mb S str) (fun i => m_row (S 9 i) (S 8 i)) (fun i => (S 8 i).toNatClampNeg) (p_dgR p g (p_dgS w (p_dgC nw n T (mb S str) 7) 5) nw) i4) i5) * 31) + ((p_fact (mb S str i4) i5)).toInt64)), (0, .ref (ad 50)), (3, .int (nI i4)), (4, .int (nI i5))]) hx hb dX5_digest_156 rfl hl (by decide) rfl (fun ls hl => ?_)
                                refine lv_iinc (v := (nI (i5 + 1))) (lv' := [(4, .int (nI (i5 + 1))), (1, .long (((p_dgF (mb S str i4) (p_dgA n (mb S str) (fun i => m_row (S 9 i) (S 8 i)) (fun i => (S 8 i).toNatClampNeg) (p_dgR p g (p_dgS w (p_dgC nw n T (mb S str) 7) 5) nw) i4) i5) * 31) + ((p_fact (mb S str i4) i5)).toInt64)), (0, .ref (ad 50)), (3, .int (nI i4))]) hx hb dX5_digest_157 hl (k := 3) rfl (nI_1 i5) (by decide) rfl (fun ls hl => ?_)
                                refine lv_goto (tgt := 135) hx hb dX5_digest_160 (by decide) ?_
                                refine ihi5 (i5 + 1) (by omega) (by omega) H locs ls hI ?_
                                rw [show (p_dgF (mb S str i4) (p_dgA n (mb S str) (fun i => m_row (S 9 i) (S 8 i)) (fun i => (S 8 i).toNatClampNeg) (p_dgR p g (p_dgS w (p_dgC nw n T (mb S str) 7) 5) nw) i4) (i5 + 1)) = (((p_dgF (mb S str i4) (p_dgA n (mb S str) (fun i => m_row (S 9 i) (S 8 i)) (fun i => (S 8 i).toNatClampNeg) (p_dgR p g (p_dgS w (p_dgC nw n T (mb S str) 7) 5) nw) i4) i5) * 31) + ((p_fact (mb S str i4) i5)).toInt64) from rfl]
                                exact lv_sub hl [2, 1, 3, 0] rfl
                          exact Ki5 (9 + 1) 0 (Nat.zero_le _) (by omega) H locs ls hI (lv_sub hl [1, 2, 3, 0] rfl)
                    exact Ki4 (n + 1) 0 (Nat.zero_le _) (by omega) H locs ls hI (lv_sub hl [1, 2, 0] rfl)
                  · have n_87 := c_87
                    have c_87 := i_nle.mp n_87
                    have hi3 : i3 < nw := (nI_ltI (by omega) (by omega)).mp c_87
                    refine lv_lload_n hx hb dX5_digest_90 rfl (lv_at hl 1 rfl) ?_
                    refine lv_ldc2 (v := 31) hx hb hown (hts (.constantLong RX5 130 (31)) (by decide +kernel)) dX5_digest_91 ?_
                    refine lv_lmul hx hb dX5_digest_94 ?_
                    refine lv_aload_n hx hb dX5_digest_95 rfl (lv_at hl 0 rfl) ?_
                    refine f_get (ci := 5) (v := .ref (ad 52)) (C := RX5) (T := TX5) (N := 9) hx hb hts (by decide +kernel) hown hG.1 hI rfl (hMm _ (by omega)) (hM.1) rfl 3 (by decide) (hts (.fieldLink RX5 13 "CoracleRaceModel" "weirAt" "[I") (by decide +kernel)) rfl dX5_digest_96 ?_
                    refine lv_iload_n hx hb dX5_digest_99 rfl (lv_at hl 2 rfl) ?_
                    refine f_iald hx hb hG.1 hI rfl (hMm _ (by omega)) (hM.2.2.1) (vp_in_nI (by omega) (by omega)) dX5_digest_100 ?_
                    rw [show (nI i3).toNatClampNeg = i3 from nI_clamp (by omega)]
                    refine lv_i2l hx hb dX5_digest_101 rfl ?_
                    refine lv_ladd hx hb dX5_digest_102 ?_
                    refine lv_ldc2 (v := 31) hx hb hown (hts (.constantLong RX5 130 (31)) (by decide +kernel)) dX5_digest_103 ?_
                    refine lv_lmul hx hb dX5_digest_106 ?_
                    refine lv_aload_n hx hb dX5_digest_107 rfl (lv_at hl 0 rfl) ?_
                    refine f_get (ci := 5) (v := .ref (ad 53)) (C := RX5) (T := TX5) (N := 9) hx hb hts (by decide +kernel) hown hG.1 hI rfl (hMm _ (by omega)) (hM.1) rfl 4 (by decide) (hts (.fieldLink RX5 16 "CoracleRaceModel" "gap" "[I") (by decide +kernel)) rfl dX5_digest_108 ?_
                    refine lv_iload_n hx hb dX5_digest_111 rfl (lv_at hl 2 rfl) ?_
                    refine f_iald hx hb hG.1 hI rfl (hMm _ (by omega)) (hM.2.2.2.1) (vp_in_nI (by omega) (by omega)) dX5_digest_112 ?_
                    rw [show (nI i3).toNatClampNeg = i3 from nI_clamp (by omega)]
                    refine lv_i2l hx hb dX5_digest_113 rfl ?_
                    refine lv_ladd hx hb dX5_digest_114 ?_
                    refine lv_lstore_n (lv' := [(1, .long (((((p_dgR p g (p_dgS w (p_dgC nw n T (mb S str) 7) 5) i3) * 31) + ((p i3)).toInt64) * 31) + ((g i3)).toInt64)), (0, .ref (ad 50)), (3, .int (nI i3))]) hx hb dX5_digest_115 rfl hl (by decide) rfl (fun ls hl => ?_)
                    refine lv_iinc (v := (nI (i3 + 1))) (lv' := [(3, .int (nI (i3 + 1))), (1, .long (((((p_dgR p g (p_dgS w (p_dgC nw n T (mb S str) 7) 5) i3) * 31) + ((p i3)).toInt64) * 31) + ((g i3)).toInt64)), (0, .ref (ad 50))]) hx hb dX5_digest_116 hl (k := 2) rfl (nI_1 i3) (by decide) rfl (fun ls hl => ?_)
                    refine lv_goto (tgt := 82) hx hb dX5_digest_119 (by decide) ?_
                    refine ihi3 (i3 + 1) (by omega) (by omega) H locs ls hI ?_
                    rw [show (p_dgR p g (p_dgS w (p_dgC nw n T (mb S str) 7) 5) (i3 + 1)) = (((((p_dgR p g (p_dgS w (p_dgC nw n T (mb S str) 7) 5) i3) * 31) + ((p i3)).toInt64) * 31) + ((g i3)).toInt64) from rfl]
                    exact lv_sub hl [2, 1, 0] rfl
              exact Ki3 (nw + 1) 0 (Nat.zero_le _) (by omega) H locs ls hI (lv_sub hl [1, 2, 0] rfl)
            · have n_55 := c_55
              have c_55 := i_nle.mp n_55
              have hi2 : i2 < 5 := (nI_ltI (by omega) (by omega) (b := 5)).mp c_55
              refine lv_aload_n hx hb dX5_digest_58 rfl (lv_at hl 2 rfl) ?_
              refine lv_iload hx hb dX5_digest_59 (lv_at hl 4 rfl) ?_
              refine f_iald hx hb hG.1 hI rfl (hMm _ (by omega)) (hM.2.1) (vp_in_nI (by omega) (by omega)) dX5_digest_61 ?_
              rw [show (nI i2).toNatClampNeg = i2 from nI_clamp (by omega)]
              refine lv_istore (lv' := [(6, .int (w i2)), (0, .ref (ad 50)), (1, .long (p_dgS w (p_dgC nw n T (mb S str) 7) i2)), (3, .ref (ad 51)), (4, .int 5), (5, .int (nI i2))]) hx hb dX5_digest_62 hl (by decide) rfl (fun ls hl => ?_)
              refine lv_lload_n hx hb dX5_digest_64 rfl (lv_at hl 2 rfl) ?_
              refine lv_ldc2 (v := 31) hx hb hown (hts (.constantLong RX5 130 (31)) (by decide +kernel)) dX5_digest_65 ?_
              refine lv_lmul hx hb dX5_digest_68 ?_
              refine lv_iload hx hb dX5_digest_69 (lv_at hl 0 rfl) ?_
              refine lv_i2l hx hb dX5_digest_71 rfl ?_
              refine lv_ladd hx hb dX5_digest_72 ?_
              refine lv_lstore_n (lv' := [(1, .long (((p_dgS w (p_dgC nw n T (mb S str) 7) i2) * 31) + ((w i2)).toInt64)), (6, .int (w i2)), (0, .ref (ad 50)), (3, .ref (ad 51)), (4, .int 5), (5, .int (nI i2))]) hx hb dX5_digest_73 rfl hl (by decide) rfl (fun ls hl => ?_)
              refine lv_iinc (v := (nI (i2 + 1))) (lv' := [(5, .int (nI (i2 + 1))), (1, .long (((p_dgS w (p_dgC nw n T (mb S str) 7) i2) * 31) + ((w i2)).toInt64)), (6, .int (w i2)), (0, .ref (ad 50)), (3, .ref (ad 51)), (4, .int 5)]) hx hb dX5_digest_74 hl (k := 5) rfl (nI_1 i2) (by decide) rfl (fun ls hl => ?_)
              refine lv_goto (tgt := 51) hx hb dX5_digest_77 (by decide) ?_
              refine ihi2 (i2 + 1) (by omega) (by omega) H locs ls hI ?_
              rw [show (p_dgS w (p_dgC nw n T (mb S str) 7) (i2 + 1)) = (((p_dgS w (p_dgC nw n T (mb S str) 7) i2) * 31) + ((w i2)).toInt64) from rfl]
              exact lv_sub hl [3, 1, 4, 5, 0] rfl
        exact Ki2 (5 + 1) 0 (Nat.zero_le _) (by omega) H locs ls hI (lv_sub hl [3, 4, 2, 1, 0] rfl)
      · have n_14 := c_14
        have c_14 := i_nle.mp n_14
        have hi1 : i1 < 7 := (nI_ltI (by omega) (by omega) (b := 7)).mp c_14
        refine lv_lload_n hx hb dX5_digest_17 rfl (lv_at hl 1 rfl) ?_
        refine lv_ldc2 (v := 31) hx hb hown (hts (.constantLong RX5 130 (31)) (by decide +kernel)) dX5_digest_18 ?_
        refine lv_lmul hx hb dX5_digest_21 ?_
        refine lv_aload_n hx hb dX5_digest_22 rfl (lv_at hl 0 rfl) ?_
        refine f_get (ci := 5) (v := .ref (ad 60)) (C := RX5) (T := TX5) (N := 9) hx hb hts (by decide +kernel) hown hG.1 hI rfl (hMm _ (by omega)) (hM.1) rfl 7 (by decide) (hts (.fieldLink RX5 27 "CoracleRaceModel" "s" "LCoracleRaceModel$State;") (by decide +kernel)) rfl dX5_digest_23 ?_
        refine lv_iload_n hx hb dX5_digest_26 rfl (lv_at hl 2 rfl) ?_
        refine f_calli1 (va_runV (As := [.int (nI i1)]) (rest := [.long ((p_dgC nw n T (mb S str) i1) * 31)]) ⟨hx, hb, hml, hown, hts⟩ (m_X4_counted l (sb := 60) rfl (by decide) (fun k h1 h2 => hMm k (by omega)) (by omega) hS (fun k h1 h2 => hMm k (by omega)) hM hNW hN6 (fun q hq => (hok q hq).2.2.1.1) h99 (by decide) i1 (by omega)) (cwV 1 hts gX5_digest_X4_counted rfl rfl rfl (by decide +kernel) ⟨Nat.le_of_ble_eq_true rfl, Nat.le_of_ble_eq_true rfl⟩) (fPre_ofV hG hI rfl (hMm _ (by omega)) (hS.1) rfl rfl) rfl rfl hl.1 rfl (lv_room (Nat.le_of_ble_eq_true rfl)) dX5_digest_27 ⟨(by show _ ≤ 61; omega), (by show _ ≤ 535; omega)⟩) hI (fun r10 E11 H locs hp hI => ?_)
        obtain ⟨he, hq⟩ := hp
        rw [hq] at hI
        have he : r10 = (p_cnt nw n T (mb S str) i1) := he
        subst he
        refine lv_i2l hx hb dX5_digest_30 rfl ?_
        refine lv_ladd hx hb dX5_digest_31 ?_
        refine lv_lstore_n (lv' := [(1, .long (((p_dgC nw n T (mb S str) i1) * 31) + ((p_cnt nw n T (mb S str) i1)).toInt64)), (0, .ref (ad 50)), (3, .int (nI i1))]) hx hb dX5_digest_32 rfl hl (by decide) rfl (fun ls hl => ?_)
        refine lv_iinc (v := (nI (i1 + 1))) (lv' := [(3, .int (nI (i1 + 1))), (1, .long (((p_dgC nw n T (mb S str) i1) * 31) + ((p_cnt nw n T (mb S str) i1)).toInt64)), (0, .ref (ad 50))]) hx hb dX5_digest_33 hl (k := 2) rfl (nI_1 i1) (by decide) rfl (fun ls hl => ?_)
        refine lv_goto (tgt := 11) hx hb dX5_digest_36 (by decide) ?_
        refine ihi1 (i1 + 1) (by omega) (by omega) H locs ls hI ?_
        rw [show (p_dgC nw n T (mb S str) (i1 + 1)) = (((p_dgC nw n T (mb S str) i1) * 31) + ((p_cnt nw n T (mb S str) i1)).toInt64) from rfl]
        exact lv_sub hl [2, 1, 0] rfl
  exact Ki1 (7 + 1) 0 (Nat.zero_le _) (by omega) H locs ls hI (lv_sub hl [2, 1, 0] rfl)
