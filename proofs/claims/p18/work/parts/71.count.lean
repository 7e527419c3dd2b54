theorem pre_sub (n : Nat) : nI n - 1 = p_pre n := by
  rw [← p_pre_m n]; grind
set_option maxHeartbeats 4000000 in
set_option maxRecDepth 100000 in
theorem m_X4_counts (l : Launch) {D : va_G} {cI cJ cB : ClassId} {t0 z : Nat} {tx ad : Nat → Nat} {L : List Nat} {E : Nat → va_E} {w p g : Nat → Int32} {nw n T : Nat} {B F : Nat → Nat → Int32} (hS : s_at cI cJ ad E w p g nw n T B F) (hSm : ∀ k, (50 ≤ k ∧ k < 55) ∨ (60 ≤ k ∧ k < 60 + n) ∨ (70 ≤ k ∧ k < 70 + n) → k ∈ L) (hn6 : n ≤ 6) (hok : ∀ i, i < n → okc T (B i)) {kn : Nat} (hkn : kn ∉ L) : Met l yX4_counts wsX4_counts ({ frames := 1, cells := 1, slots := 7, locals := 21 } : Room) (va_Pc [.ref (ad 50)] (fPre D cI cJ cB t0 z tx ad L E)) (va_Qr (fun (u : (Nat → Nat) × (Nat → va_E)) => (∀ q : Nat, q ≠ kn → u.1 q = ad q) ∧ (∀ q : Nat, q ≠ kn → u.2 q = E q) ∧ u.2 kn = .inl (cI, 7, .inl (p_cnt nw n T B))) (fun u r t => fB D z u.1 (L ++ [kn]) u.2 t ∧ u.1 kn = r) (fA z)) 1 7 (fA z) := by
  refine f_ofW (cc := cX4_counts) (maxL := 7) (ret := some (.array .int)) (by decide) rfl (Nat.le_of_ble_eq_true rfl) ?_
  intro pr e s m args below meth c Q hx hb hr hml hts hown hlocks hin hG H locs hI hQ ls hl
  have hl : lv_has ls 7 [(0, .ref (ad 50))] := hl
  obtain ⟨hS50, -, -, hS53, -, -⟩ := id hS
  have h3 : ∀ i, i < n → 0 ≤ B i 3 := fun i hi => (hok i hi).1.2.2.1.1
  have hS50 : E 50 = .inr (4, [.int (nI T), .ref (ad 51), .ref (ad 52), .int (nI nw), .ref (ad 53), .ref (ad 54)]) := hS50
  have hS53 : E 53 = .inl (cJ, n, .inr (.inr (.inr (.inr (row_at ad 60 n))))) := hS53
  refine lv_iconst (v := 0) hx hb dX4_counts_0 (by decide) ?_
  refine lv_istore_n (lv' := [(1, .int 0), (0, .ref (ad 50))]) hx hb dX4_counts_1 rfl hl (by decide) rfl (fun ls hl => ?_)
  refine lv_iconst (v := 0) hx hb dX4_counts_2 (by decide) ?_
  refine lv_istore_n (lv' := [(2, .int 0), (1, .int 0), (0, .ref (ad 50))]) hx hb dX4_counts_3 rfl hl (by decide) rfl (fun ls hl => ?_)
  refine lv_iconst (v := -1) hx hb dX4_counts_4 (by decide) ?_
  refine lv_istore_n (lv' := [(3, .int (-1)), (2, .int 0), (1, .int 0), (0, .ref (ad 50))]) hx hb dX4_counts_5 rfl hl (by decide) rfl (fun ls hl => ?_)
  refine lv_iconst (v := -1) hx hb dX4_counts_6 (by decide) ?_
  refine lv_istore (lv' := [(4, .int (-1)), (3, .int (-1)), (2, .int 0), (1, .int 0), (0, .ref (ad 50))]) hx hb dX4_counts_7 hl (by decide) rfl (fun ls hl => ?_)
  refine lv_aload_n hx hb dX4_counts_9 rfl (lv_at hl 4 rfl) ?_
  refine f_get (ci := 4) (v := .ref (ad 53)) (C := RX4) (T := TX4) (N := 6) hx hb hts (by decide +kernel) hown hG.1 hI rfl (hSm _ (by omega)) hS50 rfl 4 (by decide) (hts (.fieldLink RX4 17 "CoracleRaceLaw$Sim" "boats" "[[I") (by decide +kernel)) rfl dX4_counts_10 ?_
  refine f_alenA hx hb hG.1 hI rfl (hSm _ (by omega)) hS53 (v := nI n) rfl dX4_counts_13 ?_
  refine lv_iconst (v := 1) hx hb dX4_counts_14 (by decide) ?_
  refine lv_isub hx hb dX4_counts_15 ?_
  refine lv_istore (lv' := [(5, .int ((nI n) - 1)), (4, .int (-1)), (3, .int (-1)), (2, .int 0), (1, .int 0), (0, .ref (ad 50))]) hx hb dX4_counts_16 hl (by decide) rfl (fun ls hl => ?_)
  have K9 : ∀ (j : Nat), j ≤ n → ∀ (c1 f1 L1 W1 : Int32), p_in B j + c1 = p_in B n → p_fsum B j + f1 = p_fsum B n → s_lead B n j L1 → s_win B n j W1 → ∀ (H : Heap) (locs : List Loc) (ls : Array Slot), fI D (fA z) s.heap ad L E H locs → lv_has ls 7 [(0, .ref (ad 50)), (1, .int c1), (2, .int f1), (3, .int L1), (4, .int W1), (5, .int (p_pre j))] → W pr l e ({ frames := 1, cells := 1, slots := 7, locals := 21 } : Room) s m args below meth c H locs 0 0 Q (F0 m 18 ls []) := by
    intro j
    induction j with
    | zero =>
      intro hj c1 f1 L1 W1 hc1 hf1 hL1 hW1 H locs ls hI hl
      have hl : lv_has ls 7 [(0, .ref (ad 50)), (1, .int c1), (2, .int f1), (3, .int L1), (4, .int W1), (5, .int (-1))] := hl
      refine lv_iload hx hb dX4_counts_18 (lv_at hl 5 rfl) ?_
      refine lv_if_lt (tgt := 109) hx hb dX4_counts_20 (by decide) (fun c_20 => ?_) (fun c_20 => ?_)
      · have n_20 := i_nle.mpr c_20
        refine lv_bipush (v := 7) hx hb dX4_counts_109 (by decide) ?_
        refine f_newi (k := kn) (N := 7) hx hb (hts (.arrayClass .int) (by decide +kernel)) hG.1 hI (fG_A hG) (by decide) (by decide) (by decide) hkn (Nat.le_of_ble_eq_true rfl) (Nat.le_of_ble_eq_true rfl) dX4_counts_111 (fun aN0 adN0 EN0 H hk0 hr0 hEk0 hEr0 hI => ?_)
        have hz_sim : 50 ≠ kn := fun q9 => hkn (q9 ▸ (hSm _ (by omega)))
        have ha_sim : adN0 50 = (ad 50) := hr0 _ hz_sim
        have hc_sim : EN0 50 = .inr (4, [.int (nI T), .ref (ad 51), .ref (ad 52), .int (nI nw), .ref (ad 53), .ref (ad 54)]) := (hEr0 _ hz_sim).trans hS50
        have hz_kb : 53 ≠ kn := fun q9 => hkn (q9 ▸ (hSm _ (by omega)))
        have ha_kb : adN0 53 = (ad 53) := hr0 _ hz_kb
        have hc_kb : EN0 53 = .inl (cJ, n, .inr (.inr (.inr (.inr (row_at ad 60 n))))) := (hEr0 _ hz_kb).trans hS53
        have hc_due : EN0 kn = .inl (cI, 7, .inl (fun _ => 0)) := hEk0
        have ha_due : adN0 kn = aN0 := hk0
        have hfr : ∀ q, q ≠ kn → EN0 q = E q := hEr0
        refine lv_dup hx hb dX4_counts_113 rfl ?_
        refine lv_iconst (v := 0) hx hb dX4_counts_114 (by decide) ?_
        refine lv_aload_n hx hb dX4_counts_115 rfl (lv_at hl 0 rfl) ?_
        refine f_get (ci := 4) (v := .int (nI T)) (C := RX4) (T := TX4) (N := 6) hx hb hts (by decide +kernel) hown hG.1 hI ha_sim (List.mem_append_left _ (hSm _ (by omega))) hc_sim rfl 0 (by decide) (hts (.fieldLink RX4 30 "CoracleRaceLaw$Sim" "tick" "I") (by decide +kernel)) rfl dX4_counts_116 ?_
        refine f_iast hx hb hG.1 hI ha_due in_last hc_due (vp_in_iff.mpr ⟨by decide, by decide⟩) dX4_counts_119 (fun E1 H locs hE2 hn3 hI => ?_)
        have hc_due : E1 kn = .inl (cI, 7, .inl (upd (fun _ => 0) 0 (nI T))) := hE2
        have hfr : ∀ q, q ≠ kn → E1 q = E q := fun q hq => (hn3 q hq).trans (hfr q hq)
        have hc_sim : E1 50 = .inr (4, [.int (nI T), .ref (ad 51), .ref (ad 52), .int (nI nw), .ref (ad 53), .ref (ad 54)]) := (hn3 _ hz_sim).trans hc_sim
        have hc_kb : E1 53 = .inl (cJ, n, .inr (.inr (.inr (.inr (row_at ad 60 n))))) := (hn3 _ hz_kb).trans hc_kb
        refine lv_dup hx hb dX4_counts_120 rfl ?_
        refine lv_iconst (v := 1) hx hb dX4_counts_121 (by decide) ?_
        refine lv_aload_n hx hb dX4_counts_122 rfl (lv_at hl 0 rfl) ?_
        refine f_get (ci := 4) (v := .ref (ad 53)) (C := RX4) (T := TX4) (N := 6) hx hb hts (by decide +kernel) hown hG.1 hI ha_sim (List.mem_append_left _ (hSm _ (by omega))) hc_sim rfl 4 (by decide) (hts (.fieldLink RX4 17 "CoracleRaceLaw$Sim" "boats" "[[I") (by decide +kernel)) rfl dX4_counts_123 ?_
        refine f_alenA hx hb hG.1 hI ha_kb (List.mem_append_left _ (hSm _ (by omega))) hc_kb (v := nI n) rfl dX4_counts_126 ?_
        refine f_iast hx hb hG.1 hI ha_due in_last hc_due (vp_in_iff.mpr ⟨by decide, by decide⟩) dX4_counts_127 (fun E4 H locs hE5 hn6 hI => ?_)
        have hc_due : E4 kn = .inl (cI, 7, .inl (upd (upd (fun _ => 0) 0 (nI T)) 1 (nI n))) := hE5
        have hfr : ∀ q, q ≠ kn → E4 q = E q := fun q hq => (hn6 q hq).trans (hfr q hq)
        have hc_sim : E4 50 = .inr (4, [.int (nI T), .ref (ad 51), .ref (ad 52), .int (nI nw), .ref (ad 53), .ref (ad 54)]) := (hn6 _ hz_sim).trans hc_sim
        have hc_kb : E4 53 = .inl (cJ, n, .inr (.inr (.inr (.inr (row_at ad 60 n))))) := (hn6 _ hz_kb).trans hc_kb
        refine lv_dup hx hb dX4_counts_128 rfl ?_
        refine lv_iconst (v := 2) hx hb dX4_counts_129 (by decide) ?_
        refine lv_aload_n hx hb dX4_counts_130 rfl (lv_at hl 0 rfl) ?_
        refine f_get (ci := 4) (v := .int (nI nw)) (C := RX4) (T := TX4) (N := 6) hx hb hts (by decide +kernel) hown hG.1 hI ha_sim (List.mem_append_left _ (hSm _ (by omega))) hc_sim rfl 3 (by decide) (hts (.fieldLink RX4 52 "CoracleRaceLaw$Sim" "many" "I") (by decide +kernel)) rfl dX4_counts_131 ?_
        refine f_iast hx hb hG.1 hI ha_due in_last hc_due (vp_in_iff.mpr ⟨by decide, by decide⟩) dX4_counts_134 (fun E7 H locs hE8 hn9 hI => ?_)
        have hc_due : E7 kn = .inl (cI, 7, .inl (upd (upd (upd (fun _ => 0) 0 (nI T)) 1 (nI n)) 2 (nI nw))) := hE8
        have hfr : ∀ q, q ≠ kn → E7 q = E q := fun q hq => (hn9 q hq).trans (hfr q hq)
        have hc_sim : E7 50 = .inr (4, [.int (nI T), .ref (ad 51), .ref (ad 52), .int (nI nw), .ref (ad 53), .ref (ad 54)]) := (hn9 _ hz_sim).trans hc_sim
        have hc_kb : E7 53 = .inl (cJ, n, .inr (.inr (.inr (.inr (row_at ad 60 n))))) := (hn9 _ hz_kb).trans hc_kb
        refine lv_dup hx hb dX4_counts_135 rfl ?_
        refine lv_iconst (v := 3) hx hb dX4_counts_136 (by decide) ?_
        refine lv_iload_n hx hb dX4_counts_137 rfl (lv_at hl 1 rfl) ?_
        refine f_iast hx hb hG.1 hI ha_due in_last hc_due (vp_in_iff.mpr ⟨by decide, by decide⟩) dX4_counts_138 (fun E10 H locs hE11 hn12 hI => ?_)
        have hc_due : E10 kn = .inl (cI, 7, .inl (upd (upd (upd (upd (fun _ => 0) 0 (nI T)) 1 (nI n)) 2 (nI nw)) 3 c1)) := hE11
        have hfr : ∀ q, q ≠ kn → E10 q = E q := fun q hq => (hn12 q hq).trans (hfr q hq)
        have hc_sim : E10 50 = .inr (4, [.int (nI T), .ref (ad 51), .ref (ad 52), .int (nI nw), .ref (ad 53), .ref (ad 54)]) := (hn12 _ hz_sim).trans hc_sim
        have hc_kb : E10 53 = .inl (cJ, n, .inr (.inr (.inr (.inr (row_at ad 60 n))))) := (hn12 _ hz_kb).trans hc_kb
        refine lv_dup hx hb dX4_counts_139 rfl ?_
        refine lv_iconst (v := 4) hx hb dX4_counts_140 (by decide) ?_
        refine lv_iload_n hx hb dX4_counts_141 rfl (lv_at hl 2 rfl) ?_
        refine f_iast hx hb hG.1 hI ha_due in_last hc_due (vp_in_iff.mpr ⟨by decide, by decide⟩) dX4_counts_142 (fun E13 H locs hE14 hn15 hI => ?_)
        have hc_due : E13 kn = .inl (cI, 7, .inl (upd (upd (upd (upd (upd (fun _ => 0) 0 (nI T)) 1 (nI n)) 2 (nI nw)) 3 c1) 4 f1)) := hE14
        have hfr : ∀ q, q ≠ kn → E13 q = E q := fun q hq => (hn15 q hq).trans (hfr q hq)
        have hc_sim : E13 50 = .inr (4, [.int (nI T), .ref (ad 51), .ref (ad 52), .int (nI nw), .ref (ad 53), .ref (ad 54)]) := (hn15 _ hz_sim).trans hc_sim
        have hc_kb : E13 53 = .inl (cJ, n, .inr (.inr (.inr (.inr (row_at ad 60 n))))) := (hn15 _ hz_kb).trans hc_kb
        refine lv_dup hx hb dX4_counts_143 rfl ?_
        refine lv_iconst (v := 5) hx hb dX4_counts_144 (by decide) ?_
        refine lv_iload_n hx hb dX4_counts_145 rfl (lv_at hl 3 rfl) ?_
        refine f_iast hx hb hG.1 hI ha_due in_last hc_due (vp_in_iff.mpr ⟨by decide, by decide⟩) dX4_counts_146 (fun E16 H locs hE17 hn18 hI => ?_)
        have hc_due : E16 kn = .inl (cI, 7, .inl (upd (upd (upd (upd (upd (upd (fun _ => 0) 0 (nI T)) 1 (nI n)) 2 (nI nw)) 3 c1) 4 f1) 5 L1)) := hE17
        have hfr : ∀ q, q ≠ kn → E16 q = E q := fun q hq => (hn18 q hq).trans (hfr q hq)
        have hc_sim : E16 50 = .inr (4, [.int (nI T), .ref (ad 51), .ref (ad 52), .int (nI nw), .ref (ad 53), .ref (ad 54)]) := (hn18 _ hz_sim).trans hc_sim
        have hc_kb : E16 53 = .inl (cJ, n, .inr (.inr (.inr (.inr (row_at ad 60 n))))) := (hn18 _ hz_kb).trans hc_kb
        refine lv_dup hx hb dX4_counts_147 rfl ?_
        refine lv_bipush (v := 6) hx hb dX4_counts_148 (by decide) ?_
        refine lv_iload hx hb dX4_counts_150 (lv_at hl 4 rfl) ?_
        refine f_iast hx hb hG.1 hI ha_due in_last hc_due (vp_in_iff.mpr ⟨by decide, by decide⟩) dX4_counts_152 (fun E19 H locs hE20 hn21 hI => ?_)
        have hc_due : E19 kn = .inl (cI, 7, .inl (upd (upd (upd (upd (upd (upd (upd (fun _ => 0) 0 (nI T)) 1 (nI n)) 2 (nI nw)) 3 c1) 4 f1) 5 L1) 6 W1)) := hE20
        have hfr : ∀ q, q ≠ kn → E19 q = E q := fun q hq => (hn21 q hq).trans (hfr q hq)
        have hc_sim : E19 50 = .inr (4, [.int (nI T), .ref (ad 51), .ref (ad 52), .int (nI nw), .ref (ad 53), .ref (ad 54)]) := (hn21 _ hz_sim).trans hc_sim
        have hc_kb : E19 53 = .inl (cJ, n, .inr (.inr (.inr (.inr (row_at ad 60 n))))) := (hn21 _ hz_kb).trans hc_kb
        refine lv_astore (lv' := [(5, .ref aN0), (0, .ref (ad 50)), (1, .int c1), (2, .int f1), (3, .int L1), (4, .int W1)]) hx hb dX4_counts_153 hl (by decide) rfl (fun ls hl => ?_)
        refine lv_aload hx hb dX4_counts_155 (lv_at hl 0 rfl) ?_
        have hv9 : ∀ v, v < 7 → (upd (upd (upd (upd (upd (upd (upd (fun _ => 0) 0 (nI T)) 1 (nI n)) 2 (nI nw)) 3 c1) 4 f1) 5 L1) 6 W1) v = p_cnt nw n T B v := by
          intro v hv
          rcases (show v = 0 ∨ v = 1 ∨ v = 2 ∨ v = 3 ∨ v = 4 ∨ v = 5 ∨ v = 6 by omega) with rfl | rfl | rfl | rfl | rfl | rfl | rfl
          · rfl
          · rfl
          · rfl
          · exact (by rw [← hc1]; exact z_add.symm : c1 = p_in B n)
          · exact (by rw [← hf1]; exact z_add.symm : f1 = p_fsum B n)
          · exact s_lead_end hL1 h3
          · exact s_win_end hW1 (by omega)
        obtain ⟨E9, g1, g2, g3⟩ := fI_arr (f := p_cnt nw n T B) hI hc_due hv9
        exact f_retr hQ hx hb hr (Or.inr ⟨_, rfl⟩) hlocks g3.2.2 (by omega) (by omega) dX4_counts_157 (adN0, E9) (fBr_of g3 ha_due) ⟨hr0, fun q hq => (g2 q hq).trans (hfr q hq), g1⟩
      · exact absurd c_20 (by decide)
    | succ j ih =>
      intro hj c1 f1 L1 W1 hc1 hf1 hL1 hW1 H locs ls hI hl
      have hl : lv_has ls 7 [(0, .ref (ad 50)), (1, .int c1), (2, .int f1), (3, .int L1), (4, .int W1), (5, .int (nI j))] := hl
      have hcj : (nI j).toNatClampNeg = j := nI_clamp (by omega)
      refine lv_iload hx hb dX4_counts_18 (lv_at hl 5 rfl) ?_
      refine lv_if_lt (tgt := 109) hx hb dX4_counts_20 (by decide) (fun c_20 => ?_) (fun c_20 => ?_)
      · exact absurd c_20 (nI_pos (by omega))
      · have n_20 := c_20
        have c_20 := i_nlt.mp n_20
        refine lv_aload_n hx hb dX4_counts_23 rfl (lv_at hl 0 rfl) ?_
        refine f_get (ci := 4) (v := .ref (ad 53)) (C := RX4) (T := TX4) (N := 6) hx hb hts (by decide +kernel) hown hG.1 hI rfl (hSm _ (by omega)) hS50 rfl 4 (by decide) (hts (.fieldLink RX4 17 "CoracleRaceLaw$Sim" "boats" "[[I") (by decide +kernel)) rfl dX4_counts_24 ?_
        refine lv_iload hx hb dX4_counts_27 (lv_at hl 5 rfl) ?_
        refine f_aldA hx hb hG.1 hI rfl (hSm _ (by omega)) hS53 (vp_in_nI (by omega) (by omega)) (v := .ref (ad (60 + j))) (by rw [show (nI j).toNatClampNeg = j from nI_clamp (by omega)]; exact row_at_at (by omega)) dX4_counts_29 ?_
        refine lv_astore (lv' := [(6, .ref (ad (60 + j))), (0, .ref (ad 50)), (1, .int c1), (2, .int f1), (3, .int L1), (4, .int W1), (5, .int (nI j))]) hx hb dX4_counts_30 hl (by decide) rfl (fun ls hl => ?_)
        refine lv_iload_n hx hb dX4_counts_32 rfl (lv_at hl 3 rfl) ?_
        refine lv_aload hx hb dX4_counts_33 (lv_at hl 0 rfl) ?_
        refine lv_iconst (v := 4) hx hb dX4_counts_35 (by decide) ?_
        have hB_j : E (60 + j) = .inl (cI, 9, .inl (a9 ((B j) 3) ((B j) 4) ((B j) 5) ((B j) 6) ((B j) 7) (if (B j) 8 = 0 then -1 else (B j) 9) ((B j) 10) ((B j) 11) ((B j) 2))) := (hS.2.2.2.2.2 j (by omega)).1
        refine f_iald hx hb hG.1 hI rfl (hSm _ (by omega)) hB_j (vp_in_iff.mpr ⟨by decide, by decide⟩) dX4_counts_36 ?_
        refine lv_topi (fun tv etv => ?_)
        have etv : tv = ((B j) 7) := etv.trans rfl
        subst etv
        refine lv_iadd hx hb dX4_counts_37 ?_
        refine lv_istore_n (lv' := [(2, .int (f1 + ((B j) 7))), (6, .ref (ad (60 + j))), (0, .ref (ad 50)), (1, .int c1), (3, .int L1), (4, .int W1), (5, .int (nI j))]) hx hb dX4_counts_38 rfl hl (by decide) rfl (fun ls hl => ?_)
        refine lv_aload hx hb dX4_counts_39 (lv_at hl 1 rfl) ?_
        refine lv_iconst (v := 5) hx hb dX4_counts_41 (by decide) ?_
        refine f_iald hx hb hG.1 hI rfl (hSm _ (by omega)) hB_j (vp_in_iff.mpr ⟨by decide, by decide⟩) dX4_counts_42 ?_
        refine lv_topi (fun tv etv => ?_)
        have etv : tv = (if (B j) 8 = 0 then -1 else (B j) 9) := etv.trans rfl
        subst etv
        refine lv_if_ge (tgt := 71) hx hb dX4_counts_43 (by decide) (fun c_43 => ?_) (fun c_43 => ?_)
        · have n_43 := i_nlt.mpr c_43
          have h8j : ¬ B j 8 = 0 := fun q => n_43 (((tin_lt (fun q => ((hok j (by omega)).2.2.1 q).2))).mpr q)
          refine lv_iinc (v := c1 + 1) (lv' := [(1, .int (c1 + 1)), (2, .int (f1 + ((B j) 7))), (6, .ref (ad (60 + j))), (0, .ref (ad 50)), (3, .int L1), (4, .int W1), (5, .int (nI j))]) hx hb dX4_counts_71 hl (k := 3) rfl rfl (by decide) rfl (fun ls hl => ?_)
          refine lv_iload hx hb dX4_counts_74 (lv_at hl 5 rfl) ?_
          refine lv_if_lt (tgt := 99) hx hb dX4_counts_76 (by decide) (fun c_76 => ?_) (fun c_76 => ?_)
          · have n_76 := i_nle.mpr c_76
            refine lv_iload hx hb dX4_counts_99 (lv_at hl 6 rfl) ?_
            refine lv_istore (lv' := [(4, .int (nI j)), (1, .int (c1 + 1)), (2, .int (f1 + ((B j) 7))), (6, .ref (ad (60 + j))), (0, .ref (ad 50)), (3, .int L1), (5, .int (nI j))]) hx hb dX4_counts_101 hl (by decide) rfl (fun ls hl => ?_)
            refine lv_iinc (v := (nI j) + (-1)) (lv' := [(5, .int ((nI j) + (-1))), (4, .int (nI j)), (1, .int (c1 + 1)), (2, .int (f1 + ((B j) 7))), (6, .ref (ad (60 + j))), (0, .ref (ad 50)), (3, .int L1)]) hx hb dX4_counts_103 hl (k := 6) rfl rfl (by decide) rfl (fun ls hl => ?_)
            refine lv_goto (tgt := 18) hx hb dX4_counts_106 (by decide) ?_
            rw [p_pre_m j] at hl
            exact ih (by omega) (c1 + 1) (f1 + ((B j) 7)) L1 (nI j) (ps_in hc1 h8j) (ps_f hf1) (s_lead_in hL1 h8j) (s_win_none (by omega) hW1 c_76 h8j (by omega)) H locs ls hI (lv_sub hl [5, 2, 3, 6, 1, 0] rfl)
          · have n_76 := c_76
            have c_76 := i_nlt.mp n_76
            obtain ⟨q, hq, rfl⟩ := s_win_pos hW1 n_76
            have hcq : (nI q).toNatClampNeg = q := nI_clamp (by omega)
            refine lv_aload_n hx hb dX4_counts_79 rfl (lv_at hl 3 rfl) ?_
            refine lv_aload hx hb dX4_counts_80 (lv_at hl 2 rfl) ?_
            refine f_calli1 (va_runV (As := [.ref (ad (60 + j))]) (rest := []) ⟨hx, hb, hml, hown, hts⟩ (m_X4_time l rfl (hSm _ (by omega)) (b := (B j)) hB_j (fun q9 => ((hok j (by omega)).2.2.1 q9).2)) (cwV 1 hts gX4_counts_X4_time rfl rfl rfl (by decide +kernel) ⟨(Nat.le_of_ble_eq_true rfl), (Nat.le_of_ble_eq_true rfl)⟩) (fPre_ofV hG hI rfl (hSm _ (by omega)) hS50 rfl rfl) rfl rfl hl.1 rfl (lv_room (Nat.le_of_ble_eq_true rfl)) dX4_counts_82 ⟨(Nat.le_of_ble_eq_true rfl), (Nat.le_of_ble_eq_true rfl)⟩) hI (fun r22 E23 H locs hp hI => ?_)
            obtain ⟨he, hq9⟩ := hp
            rw [hq9] at hI
            have he : r22 = p_time (B j) := he
            subst he
            refine lv_aload_n hx hb dX4_counts_85 rfl (lv_at hl 3 rfl) ?_
            refine lv_aload_n hx hb dX4_counts_86 rfl (lv_at hl 3 rfl) ?_
            refine f_get (ci := 4) (v := .ref (ad 53)) (C := RX4) (T := TX4) (N := 6) hx hb hts (by decide +kernel) hown hG.1 hI rfl (hSm _ (by omega)) hS50 rfl 4 (by decide) (hts (.fieldLink RX4 17 "CoracleRaceLaw$Sim" "boats" "[[I") (by decide +kernel)) rfl dX4_counts_87 ?_
            refine lv_iload hx hb dX4_counts_90 (lv_at hl 5 rfl) ?_
            refine f_aldA hx hb hG.1 hI rfl (hSm _ (by omega)) hS53 (vp_in_nI (by omega) (by omega)) (v := .ref (ad (60 + q))) (by rw [show (nI q).toNatClampNeg = q from nI_clamp (by omega)]; exact row_at_at (by omega)) dX4_counts_92 ?_
            have hB_q : E (60 + q) = .inl (cI, 9, .inl (a9 ((B q) 3) ((B q) 4) ((B q) 5) ((B q) 6) ((B q) 7) (if (B q) 8 = 0 then -1 else (B q) 9) ((B q) 10) ((B q) 11) ((B q) 2))) := (hS.2.2.2.2.2 q (by omega)).1
            refine f_calli1 (va_runV (As := [.ref (ad (60 + q))]) (rest := [.int (p_time (B j))]) ⟨hx, hb, hml, hown, hts⟩ (m_X4_time l rfl (hSm _ (by omega)) (b := (B q)) hB_q (fun q9 => ((hok q (by omega)).2.2.1 q9).2)) (cwV 1 hts gX4_counts_X4_time rfl rfl rfl (by decide +kernel) ⟨(Nat.le_of_ble_eq_true rfl), (Nat.le_of_ble_eq_true rfl)⟩) (fPre_ofV hG hI rfl (hSm _ (by omega)) hS50 rfl rfl) rfl rfl hl.1 rfl (lv_room (Nat.le_of_ble_eq_true rfl)) dX4_counts_93 ⟨(Nat.le_of_ble_eq_true rfl), (Nat.le_of_ble_eq_true rfl)⟩) hI (fun r24 E25 H locs hp hI => ?_)
            obtain ⟨he, hq9⟩ := hp
            rw [hq9] at hI
            have he : r24 = p_time (B q) := he
            subst he
            refine lv_icmp_gt (tgt := 103) hx hb dX4_counts_96 (by decide) (fun c_96 => ?_) (fun c_96 => ?_)
            · have n_96 := i_nle.mpr c_96
              refine lv_iinc (v := (nI j) + (-1)) (lv' := [(5, .int ((nI j) + (-1))), (1, .int (c1 + 1)), (2, .int (f1 + ((B j) 7))), (6, .ref (ad (60 + j))), (0, .ref (ad 50)), (3, .int L1), (4, .int (nI q))]) hx hb dX4_counts_103 hl (k := 6) rfl rfl (by decide) rfl (fun ls hl => ?_)
              refine lv_goto (tgt := 18) hx hb dX4_counts_106 (by decide) ?_
              rw [p_pre_m j] at hl
              exact ih (by omega) (c1 + 1) (f1 + ((B j) 7)) L1 (nI q) (ps_in hc1 h8j) (ps_f hf1) (s_lead_in hL1 h8j) (s_win_old (by omega) hW1 c_96 (by omega)) H locs ls hI (lv_sub hl [4, 1, 2, 5, 6, 0] rfl)
            · have n_96 := c_96
              have c_96 := i_nlt.mp n_96
              refine lv_iload hx hb dX4_counts_99 (lv_at hl 6 rfl) ?_
              refine lv_istore (lv' := [(4, .int (nI j)), (1, .int (c1 + 1)), (2, .int (f1 + ((B j) 7))), (6, .ref (ad (60 + j))), (0, .ref (ad 50)), (3, .int L1), (5, .int (nI j))]) hx hb dX4_counts_101 hl (by decide) rfl (fun ls hl => ?_)
              refine lv_iinc (v := (nI j) + (-1)) (lv' := [(5, .int ((nI j) + (-1))), (4, .int (nI j)), (1, .int (c1 + 1)), (2, .int (f1 + ((B j) 7))), (6, .ref (ad (60 + j))), (0, .ref (ad 50)), (3, .int L1)]) hx hb dX4_counts_103 hl (k := 6) rfl rfl (by decide) rfl (fun ls hl => ?_)
              refine lv_goto (tgt := 18) hx hb dX4_counts_106 (by decide) ?_
              rw [p_pre_m j] at hl
              exact ih (by omega) (c1 + 1) (f1 + ((B j) 7)) L1 (nI j) (ps_in hc1 h8j) (ps_f hf1) (s_lead_in hL1 h8j) (s_win_new (by omega) (by omega) hW1 c_96 h8j (by omega)) H locs ls hI (lv_sub hl [5, 2, 3, 6, 1, 0] rfl)
        · have n_43 := c_43
          have c_43 := i_nle.mp n_43
          have h8j : B j 8 = 0 := ((tin_lt (fun q => ((hok j (by omega)).2.2.1 q).2))).mp c_43
          refine lv_iload_n hx hb dX4_counts_46 rfl (lv_at hl 4 rfl) ?_
          refine lv_if_lt (tgt := 65) hx hb dX4_counts_47 (by decide) (fun c_47 => ?_) (fun c_47 => ?_)
          · have n_47 := i_nle.mpr c_47
            refine lv_iload hx hb dX4_counts_65 (lv_at hl 6 rfl) ?_
            refine lv_istore_n (lv' := [(3, .int (nI j)), (2, .int (f1 + ((B j) 7))), (6, .ref (ad (60 + j))), (0, .ref (ad 50)), (1, .int c1), (4, .int W1), (5, .int (nI j))]) hx hb dX4_counts_67 rfl hl (by decide) rfl (fun ls hl => ?_)
            refine lv_goto (tgt := 103) hx hb dX4_counts_68 (by decide) ?_
            refine lv_iinc (v := (nI j) + (-1)) (lv' := [(5, .int ((nI j) + (-1))), (3, .int (nI j)), (2, .int (f1 + ((B j) 7))), (6, .ref (ad (60 + j))), (0, .ref (ad 50)), (1, .int c1), (4, .int W1)]) hx hb dX4_counts_103 hl (k := 6) rfl rfl (by decide) rfl (fun ls hl => ?_)
            refine lv_goto (tgt := 18) hx hb dX4_counts_106 (by decide) ?_
            rw [p_pre_m j] at hl
            exact ih (by omega) c1 (f1 + ((B j) 7)) (nI j) W1 (ps_out hc1 h8j) (ps_f hf1) (s_lead_none (by omega) hL1 c_47 h8j (by omega)) (s_win_out hW1 h8j) H locs ls hI (lv_sub hl [4, 5, 2, 1, 6, 0] rfl)
          · have n_47 := c_47
            have c_47 := i_nlt.mp n_47
            obtain ⟨q, hq, rfl⟩ := s_lead_pos hL1 n_47
            have hcq : (nI q).toNatClampNeg = q := nI_clamp (by omega)
            refine lv_aload hx hb dX4_counts_50 (lv_at hl 1 rfl) ?_
            refine lv_iconst (v := 0) hx hb dX4_counts_52 (by decide) ?_
            refine f_iald hx hb hG.1 hI rfl (hSm _ (by omega)) hB_j (vp_in_iff.mpr ⟨by decide, by decide⟩) dX4_counts_53 ?_
            refine lv_topi (fun tv etv => ?_)
            have etv : tv = ((B j) 3) := etv.trans rfl
            subst etv
            refine lv_aload_n hx hb dX4_counts_54 rfl (lv_at hl 2 rfl) ?_
            refine f_get (ci := 4) (v := .ref (ad 53)) (C := RX4) (T := TX4) (N := 6) hx hb hts (by decide +kernel) hown hG.1 hI rfl (hSm _ (by omega)) hS50 rfl 4 (by decide) (hts (.fieldLink RX4 17 "CoracleRaceLaw$Sim" "boats" "[[I") (by decide +kernel)) rfl dX4_counts_55 ?_
            refine lv_iload_n hx hb dX4_counts_58 rfl (lv_at hl 4 rfl) ?_
            refine f_aldA hx hb hG.1 hI rfl (hSm _ (by omega)) hS53 (vp_in_nI (by omega) (by omega)) (v := .ref (ad (60 + q))) (by rw [show (nI q).toNatClampNeg = q from nI_clamp (by omega)]; exact row_at_at (by omega)) dX4_counts_59 ?_
            refine lv_iconst (v := 0) hx hb dX4_counts_60 (by decide) ?_
            have hB_q : E (60 + q) = .inl (cI, 9, .inl (a9 ((B q) 3) ((B q) 4) ((B q) 5) ((B q) 6) ((B q) 7) (if (B q) 8 = 0 then -1 else (B q) 9) ((B q) 10) ((B q) 11) ((B q) 2))) := (hS.2.2.2.2.2 q (by omega)).1
            refine f_iald hx hb hG.1 hI rfl (hSm _ (by omega)) hB_q (vp_in_iff.mpr ⟨by decide, by decide⟩) dX4_counts_61 ?_
            refine lv_topi (fun tv etv => ?_)
            have etv : tv = ((B q) 3) := etv.trans rfl
            subst etv
            refine lv_icmp_lt (tgt := 103) hx hb dX4_counts_62 (by decide) (fun c_62 => ?_) (fun c_62 => ?_)
            · have n_62 := i_nle.mpr c_62
              refine lv_iinc (v := (nI j) + (-1)) (lv' := [(5, .int ((nI j) + (-1))), (2, .int (f1 + ((B j) 7))), (6, .ref (ad (60 + j))), (0, .ref (ad 50)), (1, .int c1), (3, .int (nI q)), (4, .int W1)]) hx hb dX4_counts_103 hl (k := 6) rfl rfl (by decide) rfl (fun ls hl => ?_)
              refine lv_goto (tgt := 18) hx hb dX4_counts_106 (by decide) ?_
              rw [p_pre_m j] at hl
              exact ih (by omega) c1 (f1 + ((B j) 7)) (nI q) W1 (ps_out hc1 h8j) (ps_f hf1) (s_lead_old (by omega) hL1 c_62 (by omega)) (s_win_out hW1 h8j) H locs ls hI (lv_sub hl [3, 4, 1, 5, 6, 0] rfl)
            · have n_62 := c_62
              have c_62 := i_nlt.mp n_62
              refine lv_iload hx hb dX4_counts_65 (lv_at hl 6 rfl) ?_
              refine lv_istore_n (lv' := [(3, .int (nI j)), (2, .int (f1 + ((B j) 7))), (6, .ref (ad (60 + j))), (0, .ref (ad 50)), (1, .int c1), (4, .int W1), (5, .int (nI j))]) hx hb dX4_counts_67 rfl hl (by decide) rfl (fun ls hl => ?_)
              refine lv_goto (tgt := 103) hx hb dX4_counts_68 (by decide) ?_
              refine lv_iinc (v := (nI j) + (-1)) (lv' := [(5, .int ((nI j) + (-1))), (3, .int (nI j)), (2, .int (f1 + ((B j) 7))), (6, .ref (ad (60 + j))), (0, .ref (ad 50)), (1, .int c1), (4, .int W1)]) hx hb dX4_counts_103 hl (k := 6) rfl rfl (by decide) rfl (fun ls hl => ?_)
              refine lv_goto (tgt := 18) hx hb dX4_counts_106 (by decide) ?_
              rw [p_pre_m j] at hl
              exact ih (by omega) c1 (f1 + ((B j) 7)) (nI j) W1 (ps_out hc1 h8j) (ps_f hf1) (s_lead_new (by omega) (by omega) hL1 c_62 h8j (by omega)) (s_win_out hW1 h8j) H locs ls hI (lv_sub hl [4, 5, 2, 1, 6, 0] rfl)
  exact K9 n (Nat.le_refl _) 0 0 (-1) (-1) (by grind) (by grind) (s_lead_top B n) (s_win_top B n) H locs ls hI (by rw [← pre_sub n]; exact (lv_sub hl [5, 4, 3, 2, 1, 0] rfl))

set_option maxHeartbeats 4000000 in
set_option maxRecDepth 100000 in
theorem m_X4_rank (l : Launch) {D : va_G} {cI cJ cB : ClassId} {t0 z : Nat} {tx ad : Nat → Nat} {L : List Nat} {E : Nat → va_E} {w p g : Nat → Int32} {nw n T : Nat} {B F : Nat → Nat → Int32} (hS : s_at cI cJ ad E w p g nw n T B F) (hSm : ∀ k, (50 ≤ k ∧ k < 55) ∨ (60 ≤ k ∧ k < 60 + n) ∨ (70 ≤ k ∧ k < 70 + n) → k ∈ L) (hn6 : n ≤ 6) (hok : ∀ i, i < n → okc T (B i)) {ka a : Nat} (ha : ad ka = a) (hk : ka ∈ L) {b : Nat → Int32} (hO : E ka = .inl (cI, 9, .inl (sB b))) (h9 : ¬ b 8 = 0 → 0 ≤ b 9) : Met l yX4_rank wsX4_rank ({ frames := 1, cells := 0, slots := 0, locals := 21 } : Room) (va_Pc [.ref (ad 50), .ref a] (fPre D cI cJ cB t0 z tx ad L E)) (va_Qi (fun (r : Int32) (E1 : Nat → va_E) => r = 1 + p_rk B b n ∧ E1 = E) (fB D z ad L) (fA z)) 0 0 (fA z) := by
  refine f_ofW (cc := cX4_rank) (maxL := 7) (ret := some .int) (by decide) rfl (Nat.le_of_ble_eq_true rfl) ?_
  intro pr e s m args below meth c Q hx hb hr hml hts hown hlocks hin hG H locs hI hQ ls hl
  have hl : lv_has ls 7 [(0, .ref (ad 50)), (1, .ref a)] := hl
  obtain ⟨hS50, -, -, hS53, -, -⟩ := id hS
  have hS50 : E 50 = .inr (4, [.int (nI T), .ref (ad 51), .ref (ad 52), .int (nI nw), .ref (ad 53), .ref (ad 54)]) := hS50
  have hS53 : E 53 = .inl (cJ, n, .inr (.inr (.inr (.inr (row_at ad 60 n))))) := hS53
  have hO : E ka = .inl (cI, 9, .inl (a9 (b 3) (b 4) (b 5) (b 6) (b 7) (if b 8 = 0 then -1 else b 9) (b 10) (b 11) (b 2))) := hO
  refine lv_iconst (v := 1) hx hb dX4_rank_0 (by decide) ?_
  refine lv_istore_n (lv' := [(2, .int 1), (0, .ref (ad 50)), (1, .ref a)]) hx hb dX4_rank_1 rfl hl (by decide) rfl (fun ls hl => ?_)
  refine lv_aload_n hx hb dX4_rank_2 rfl (lv_at hl 1 rfl) ?_
  refine f_get (ci := 4) (v := .ref (ad 53)) (C := RX4) (T := TX4) (N := 6) hx hb hts (by decide +kernel) hown hG.1 hI rfl (hSm _ (by omega)) hS50 rfl 4 (by decide) (hts (.fieldLink RX4 17 "CoracleRaceLaw$Sim" "boats" "[[I") (by decide +kernel)) rfl dX4_rank_3 ?_
  refine lv_astore_n (lv' := [(3, .ref (ad 53)), (2, .int 1), (0, .ref (ad 50)), (1, .ref a)]) hx hb dX4_rank_6 rfl hl (by decide) rfl (fun ls hl => ?_)
  refine lv_aload_n hx hb dX4_rank_7 rfl (lv_at hl 0 rfl) ?_
  refine f_alenA hx hb hG.1 hI rfl (hSm _ (by omega)) hS53 (v := nI n) rfl dX4_rank_8 ?_
  refine lv_istore (lv' := [(4, .int (nI n)), (3, .ref (ad 53)), (2, .int 1), (0, .ref (ad 50)), (1, .ref a)]) hx hb dX4_rank_9 hl (by decide) rfl (fun ls hl => ?_)
  refine lv_iconst (v := 0) hx hb dX4_rank_11 (by decide) ?_
  refine lv_istore (lv' := [(5, .int 0), (4, .int (nI n)), (3, .ref (ad 53)), (2, .int 1), (0, .ref (ad 50)), (1, .ref a)]) hx hb dX4_rank_12 hl (by decide) rfl (fun ls hl => ?_)
  have K9 : ∀ (k i : Nat), i ≤ n → n + 1 ≤ i + k → ∀ (H : Heap) (locs : List Loc) (ls : Array Slot), fI D (fA z) s.heap ad L E H locs → lv_has ls 7 [(0, .ref (ad 50)), (1, .ref a), (2, .int (1 + p_rk B b i)), (3, .ref (ad 53)), (4, .int (nI n)), (5, .int (nI i))] → W pr l e ({ frames := 1, cells := 0, slots := 0, locals := 21 } : Room) s m args below meth c H locs 0 0 Q (F0 m 14 ls []) := by
    intro k
    induction k with
    | zero => intro i h1 h2; exact absurd h2 (by omega)
    | succ k ih =>
      intro i hi1 hi2 H locs ls hI hl
      refine lv_iload hx hb dX4_rank_14 (lv_at hl 5 rfl) ?_
      refine lv_iload hx hb dX4_rank_16 (lv_at hl 4 rfl) ?_
      refine lv_icmp_ge (tgt := 96) hx hb dX4_rank_18 (by decide) (fun c_18 => ?_) (fun c_18 => ?_)
      · have n_18 := i_nlt.mpr c_18
        have hi : i = n := by have := (nI_leI (by omega) (by omega)).mp c_18; omega
        refine lv_iload_n hx hb dX4_rank_96 rfl (lv_at hl 2 rfl) ?_
        exact f_reti hQ hx hb hr hlocks hI.2.2 (by omega) (by omega) dX4_rank_97 E (fB_of hI) (⟨by rw [hi], rfl⟩)
      · have n_18 := c_18
        have c_18 := i_nle.mp n_18
        have hi : i < n := (nI_ltI (by omega) (by omega)).mp c_18
        have hcl : (nI i).toNatClampNeg = i := nI_clamp (by omega)
        refine lv_aload_n hx hb dX4_rank_21 rfl (lv_at hl 3 rfl) ?_
        refine lv_iload hx hb dX4_rank_22 (lv_at hl 5 rfl) ?_
        refine f_aldA hx hb hG.1 hI rfl (hSm _ (by omega)) hS53 (vp_in_nI (by omega) (by omega)) (v := .ref (ad (60 + i))) (by rw [show (nI i).toNatClampNeg = i from nI_clamp (by omega)]; exact row_at_at (by omega)) dX4_rank_24 ?_
        refine lv_astore (lv' := [(6, .ref (ad (60 + i))), (0, .ref (ad 50)), (1, .ref a), (2, .int (1 + p_rk B b i)), (3, .ref (ad 53)), (4, .int (nI n)), (5, .int (nI i))]) hx hb dX4_rank_25 hl (by decide) rfl (fun ls hl => ?_)
        refine lv_aload_n hx hb dX4_rank_27 rfl (lv_at hl 2 rfl) ?_
        refine lv_iconst (v := 5) hx hb dX4_rank_28 (by decide) ?_
        refine f_iald hx hb hG.1 hI ha hk hO (vp_in_iff.mpr ⟨by decide, by decide⟩) dX4_rank_29 ?_
        refine lv_topi (fun tv etv => ?_)
        have etv : tv = (if b 8 = 0 then -1 else b 9) := etv.trans rfl
        subst etv
        refine lv_if_ge (tgt := 61) hx hb dX4_rank_30 (by decide) (fun c_30 => ?_) (fun c_30 => ?_)
        · have n_30 := i_nlt.mpr c_30
          have hzb : ¬ b 8 = 0 := fun q => n_30 ((tin_lt h9).mpr q)
          refine lv_iload_n hx hb dX4_rank_61 rfl (lv_at hl 3 rfl) ?_
          refine lv_aload hx hb dX4_rank_62 (lv_at hl 0 rfl) ?_
          refine lv_iconst (v := 5) hx hb dX4_rank_64 (by decide) ?_
          have hB_i : E (60 + i) = .inl (cI, 9, .inl (a9 ((B i) 3) ((B i) 4) ((B i) 5) ((B i) 6) ((B i) 7) (if (B i) 8 = 0 then -1 else (B i) 9) ((B i) 10) ((B i) 11) ((B i) 2))) := (hS.2.2.2.2.2 i (by omega)).1
          refine f_iald hx hb hG.1 hI rfl (hSm _ (by omega)) hB_i (vp_in_iff.mpr ⟨by decide, by decide⟩) dX4_rank_65 ?_
          refine lv_topi (fun tv etv => ?_)
          have etv : tv = (if (B i) 8 = 0 then -1 else (B i) 9) := etv.trans rfl
          subst etv
          refine lv_if_lt (tgt := 87) hx hb dX4_rank_66 (by decide) (fun c_66 => ?_) (fun c_66 => ?_)
          · have n_66 := i_nle.mpr c_66
            have hzi : B i 8 = 0 := ((tin_lt (fun q => ((hok i (by omega)).2.2.1 q).2))).mp c_66
            refine lv_iconst (v := 0) hx hb dX4_rank_87 (by decide) ?_
            refine lv_iadd hx hb dX4_rank_88 ?_
            refine lv_topi (fun tv etv => ?_)
            have etv : tv = 1 + p_rk B b (i + 1) := etv.trans (rk_s0 (by unfold p_ahead; simp [hzb, hzi]))
            subst etv
            refine lv_istore_n (lv' := [(2, .int (1 + p_rk B b (i + 1))), (6, .ref (ad (60 + i))), (0, .ref (ad 50)), (1, .ref a), (3, .ref (ad 53)), (4, .int (nI n)), (5, .int (nI i))]) hx hb dX4_rank_89 rfl hl (by decide) rfl (fun ls hl => ?_)
            refine lv_iinc (v := (nI (i + 1))) (lv' := [(5, .int (nI (i + 1))), (2, .int (1 + p_rk B b (i + 1))), (6, .ref (ad (60 + i))), (0, .ref (ad 50)), (1, .ref a), (3, .ref (ad 53)), (4, .int (nI n))]) hx hb dX4_rank_90 hl (k := 6) rfl (nI_1 i) (by decide) rfl (fun ls hl => ?_)
            refine lv_goto (tgt := 14) hx hb dX4_rank_93 (by decide) ?_
            exact ih (i + 1) (by omega) (by omega) H locs ls hI (lv_sub hl [3, 4, 1, 5, 6, 0] rfl)
          · have n_66 := c_66
            have c_66 := i_nlt.mp n_66
            have hzi : ¬ B i 8 = 0 := fun q => n_66 (((tin_lt (fun q => ((hok i (by omega)).2.2.1 q).2))).mpr q)
            refine lv_aload_n hx hb dX4_rank_69 rfl (lv_at hl 1 rfl) ?_
            refine lv_aload hx hb dX4_rank_70 (lv_at hl 0 rfl) ?_
            refine f_calli1 (va_runV (As := [.ref (ad (60 + i))]) (rest := [.int (1 + p_rk B b i)]) ⟨hx, hb, hml, hown, hts⟩ (m_X4_time l rfl (hSm _ (by omega)) (b := (B i)) hB_i (fun q9 => ((hok i (by omega)).2.2.1 q9).2)) (cwV 1 hts gX4_rank_X4_time rfl rfl rfl (by decide +kernel) ⟨(Nat.le_of_ble_eq_true rfl), (Nat.le_of_ble_eq_true rfl)⟩) (fPre_ofV hG hI rfl (hSm _ (by omega)) hS50 rfl rfl) rfl rfl hl.1 rfl (lv_room (Nat.le_of_ble_eq_true rfl)) dX4_rank_72 ⟨(Nat.le_of_ble_eq_true rfl), (Nat.le_of_ble_eq_true rfl)⟩) hI (fun r1 E2 H locs hp hI => ?_)
            obtain ⟨he, hq9⟩ := hp
            rw [hq9] at hI
            have he : r1 = p_time (B i) := he
            subst he
            refine lv_aload_n hx hb dX4_rank_75 rfl (lv_at hl 1 rfl) ?_
            refine lv_aload_n hx hb dX4_rank_76 rfl (lv_at hl 2 rfl) ?_
            refine f_calli1 (va_runV (As := [.ref a]) (rest := [.int (p_time (B i)), .int (1 + p_rk B b i)]) ⟨hx, hb, hml, hown, hts⟩ (m_X4_time l ha hk (b := b) hO h9) (cwV 1 hts gX4_rank_X4_time rfl rfl rfl (by decide +kernel) ⟨(Nat.le_of_ble_eq_true rfl), (Nat.le_of_ble_eq_true rfl)⟩) (fPre_ofV hG hI rfl (hSm _ (by omega)) hS50 rfl rfl) rfl rfl hl.1 rfl (lv_room (Nat.le_of_ble_eq_true rfl)) dX4_rank_77 ⟨(Nat.le_of_ble_eq_true rfl), (Nat.le_of_ble_eq_true rfl)⟩) hI (fun r3 E4 H locs hp hI => ?_)
            obtain ⟨he, hq9⟩ := hp
            rw [hq9] at hI
            have he : r3 = p_time b := he
            subst he
            refine lv_icmp_ge (tgt := 87) hx hb dX4_rank_80 (by decide) (fun c_80 => ?_) (fun c_80 => ?_)
            · have n_80 := i_nlt.mpr c_80
              refine lv_iconst (v := 0) hx hb dX4_rank_87 (by decide) ?_
              refine lv_iadd hx hb dX4_rank_88 ?_
              refine lv_topi (fun tv etv => ?_)
              have etv : tv = 1 + p_rk B b (i + 1) := etv.trans (rk_s0 (by unfold p_ahead; simp [hzb, hzi, n_80, c_80]))
              subst etv
              refine lv_istore_n (lv' := [(2, .int (1 + p_rk B b (i + 1))), (6, .ref (ad (60 + i))), (0, .ref (ad 50)), (1, .ref a), (3, .ref (ad 53)), (4, .int (nI n)), (5, .int (nI i))]) hx hb dX4_rank_89 rfl hl (by decide) rfl (fun ls hl => ?_)
              refine lv_iinc (v := (nI (i + 1))) (lv' := [(5, .int (nI (i + 1))), (2, .int (1 + p_rk B b (i + 1))), (6, .ref (ad (60 + i))), (0, .ref (ad 50)), (1, .ref a), (3, .ref (ad 53)), (4, .int (nI n))]) hx hb dX4_rank_90 hl (k := 6) rfl (nI_1 i) (by decide) rfl (fun ls hl => ?_)
              refine lv_goto (tgt := 14) hx hb dX4_rank_93 (by decide) ?_
              exact ih (i + 1) (by omega) (by omega) H locs ls hI (lv_sub hl [3, 4, 1, 5, 6, 0] rfl)
            · have n_80 := c_80
              have c_80 := i_nle.mp n_80
              refine lv_iconst (v := 1) hx hb dX4_rank_83 (by decide) ?_
              refine lv_goto (tgt := 88) hx hb dX4_rank_84 (by decide) ?_
              refine lv_iadd hx hb dX4_rank_88 ?_
              refine lv_topi (fun tv etv => ?_)
              have etv : tv = 1 + p_rk B b (i + 1) := etv.trans (rk_s1 (by unfold p_ahead; simp [hzb, hzi, n_80, c_80]))
              subst etv
              refine lv_istore_n (lv' := [(2, .int (1 + p_rk B b (i + 1))), (6, .ref (ad (60 + i))), (0, .ref (ad 50)), (1, .ref a), (3, .ref (ad 53)), (4, .int (nI n)), (5, .int (nI i))]) hx hb dX4_rank_89 rfl hl (by decide) rfl (fun ls hl => ?_)
              refine lv_iinc (v := (nI (i + 1))) (lv' := [(5, .int (nI (i + 1))), (2, .int (1 + p_rk B b (i + 1))), (6, .ref (ad (60 + i))), (0, .ref (ad 50)), (1, .ref a), (3, .ref (ad 53)), (4, .int (nI n))]) hx hb dX4_rank_90 hl (k := 6) rfl (nI_1 i) (by decide) rfl (fun ls hl => ?_)
              refine lv_goto (tgt := 14) hx hb dX4_rank_93 (by decide) ?_
              exact ih (i + 1) (by omega) (by omega) H locs ls hI (lv_sub hl [3, 4, 1, 5, 6, 0] rfl)
        · have n_30 := c_30
          have c_30 := i_nle.mp n_30
          have hzb : b 8 = 0 := (tin_lt h9).mp c_30
          refine lv_iload_n hx hb dX4_rank_33 rfl (lv_at hl 3 rfl) ?_
          refine lv_aload hx hb dX4_rank_34 (lv_at hl 0 rfl) ?_
          refine lv_iconst (v := 5) hx hb dX4_rank_36 (by decide) ?_
          have hB_i : E (60 + i) = .inl (cI, 9, .inl (a9 ((B i) 3) ((B i) 4) ((B i) 5) ((B i) 6) ((B i) 7) (if (B i) 8 = 0 then -1 else (B i) 9) ((B i) 10) ((B i) 11) ((B i) 2))) := (hS.2.2.2.2.2 i (by omega)).1
          refine f_iald hx hb hG.1 hI rfl (hSm _ (by omega)) hB_i (vp_in_iff.mpr ⟨by decide, by decide⟩) dX4_rank_37 ?_
          refine lv_topi (fun tv etv => ?_)
          have etv : tv = (if (B i) 8 = 0 then -1 else (B i) 9) := etv.trans rfl
          subst etv
          refine lv_if_ge (tgt := 51) hx hb dX4_rank_38 (by decide) (fun c_38 => ?_) (fun c_38 => ?_)
          · have n_38 := i_nlt.mpr c_38
            have hzi : ¬ B i 8 = 0 := fun q => n_38 (((tin_lt (fun q => ((hok i (by omega)).2.2.1 q).2))).mpr q)
            refine lv_iconst (v := 1) hx hb dX4_rank_51 (by decide) ?_
            refine lv_goto (tgt := 56) hx hb dX4_rank_52 (by decide) ?_
            refine lv_iadd hx hb dX4_rank_56 ?_
            refine lv_topi (fun tv etv => ?_)
            have etv : tv = 1 + p_rk B b (i + 1) := etv.trans (rk_s1 (by unfold p_ahead; simp [hzb, hzi]))
            subst etv
            refine lv_istore_n (lv' := [(2, .int (1 + p_rk B b (i + 1))), (6, .ref (ad (60 + i))), (0, .ref (ad 50)), (1, .ref a), (3, .ref (ad 53)), (4, .int (nI n)), (5, .int (nI i))]) hx hb dX4_rank_57 rfl hl (by decide) rfl (fun ls hl => ?_)
            refine lv_goto (tgt := 90) hx hb dX4_rank_58 (by decide) ?_
            refine lv_iinc (v := (nI (i + 1))) (lv' := [(5, .int (nI (i + 1))), (2, .int (1 + p_rk B b (i + 1))), (6, .ref (ad (60 + i))), (0, .ref (ad 50)), (1, .ref a), (3, .ref (ad 53)), (4, .int (nI n))]) hx hb dX4_rank_90 hl (k := 6) rfl (nI_1 i) (by decide) rfl (fun ls hl => ?_)
            refine lv_goto (tgt := 14) hx hb dX4_rank_93 (by decide) ?_
            exact ih (i + 1) (by omega) (by omega) H locs ls hI (lv_sub hl [3, 4, 1, 5, 6, 0] rfl)
          · have n_38 := c_38
            have c_38 := i_nle.mp n_38
            have hzi : B i 8 = 0 := ((tin_lt (fun q => ((hok i (by omega)).2.2.1 q).2))).mp c_38
            refine lv_aload hx hb dX4_rank_41 (lv_at hl 0 rfl) ?_
            refine lv_iconst (v := 0) hx hb dX4_rank_43 (by decide) ?_
            refine f_iald hx hb hG.1 hI rfl (hSm _ (by omega)) hB_i (vp_in_iff.mpr ⟨by decide, by decide⟩) dX4_rank_44 ?_
            refine lv_topi (fun tv etv => ?_)
            have etv : tv = ((B i) 3) := etv.trans rfl
            subst etv
            refine lv_aload_n hx hb dX4_rank_45 rfl (lv_at hl 2 rfl) ?_
            refine lv_iconst (v := 0) hx hb dX4_rank_46 (by decide) ?_
            refine f_iald hx hb hG.1 hI ha hk hO (vp_in_iff.mpr ⟨by decide, by decide⟩) dX4_rank_47 ?_
            refine lv_topi (fun tv etv => ?_)
            have etv : tv = (b 3) := etv.trans rfl
            subst etv
            refine lv_icmp_le (tgt := 55) hx hb dX4_rank_48 (by decide) (fun c_48 => ?_) (fun c_48 => ?_)
            · have n_48 := i_nlt.mpr c_48
              refine lv_iconst (v := 0) hx hb dX4_rank_55 (by decide) ?_
              refine lv_iadd hx hb dX4_rank_56 ?_
              refine lv_topi (fun tv etv => ?_)
              have etv : tv = 1 + p_rk B b (i + 1) := etv.trans (rk_s0 (by unfold p_ahead; simp [hzb, hzi, n_48, c_48]))
              subst etv
              refine lv_istore_n (lv' := [(2, .int (1 + p_rk B b (i + 1))), (6, .ref (ad (60 + i))), (0, .ref (ad 50)), (1, .ref a), (3, .ref (ad 53)), (4, .int (nI n)), (5, .int (nI i))]) hx hb dX4_rank_57 rfl hl (by decide) rfl (fun ls hl => ?_)
              refine lv_goto (tgt := 90) hx hb dX4_rank_58 (by decide) ?_
              refine lv_iinc (v := (nI (i + 1))) (lv' := [(5, .int (nI (i + 1))), (2, .int (1 + p_rk B b (i + 1))), (6, .ref (ad (60 + i))), (0, .ref (ad 50)), (1, .ref a), (3, .ref (ad 53)), (4, .int (nI n))]) hx hb dX4_rank_90 hl (k := 6) rfl (nI_1 i) (by decide) rfl (fun ls hl => ?_)
              refine lv_goto (tgt := 14) hx hb dX4_rank_93 (by decide) ?_
              exact ih (i + 1) (by omega) (by omega) H locs ls hI (lv_sub hl [3, 4, 1, 5, 6, 0] rfl)
            · have n_48 := c_48
              have c_48 := i_nle.mp n_48
              refine lv_iconst (v := 1) hx hb dX4_rank_51 (by decide) ?_
              refine lv_goto (tgt := 56) hx hb dX4_rank_52 (by decide) ?_
              refine lv_iadd hx hb dX4_rank_56 ?_
              refine lv_topi (fun tv etv => ?_)
              have etv : tv = 1 + p_rk B b (i + 1) := etv.trans (rk_s1 (by unfold p_ahead; simp [hzb, hzi, n_48, c_48]))
              subst etv
              refine lv_istore_n (lv' := [(2, .int (1 + p_rk B b (i + 1))), (6, .ref (ad (60 + i))), (0, .ref (ad 50)), (1, .ref a), (3, .ref (ad 53)), (4, .int (nI n)), (5, .int (nI i))]) hx hb dX4_rank_57 rfl hl (by decide) rfl (fun ls hl => ?_)
              refine lv_goto (tgt := 90) hx hb dX4_rank_58 (by decide) ?_
              refine lv_iinc (v := (nI (i + 1))) (lv' := [(5, .int (nI (i + 1))), (2, .int (1 + p_rk B b (i + 1))), (6, .ref (ad (60 + i))), (0, .ref (ad 50)), (1, .ref a), (3, .ref (ad 53)), (4, .int (nI n))]) hx hb dX4_rank_90 hl (k := 6) rfl (nI_1 i) (by decide) rfl (fun ls hl => ?_)
              refine lv_goto (tgt := 14) hx hb dX4_rank_93 (by decide) ?_
              exact ih (i + 1) (by omega) (by omega) H locs ls hI (lv_sub hl [3, 4, 1, 5, 6, 0] rfl)
  exact K9 (n + 1) 0 (Nat.zero_le _) (by omega) H locs ls hI (by rw [show (1 + p_rk B b 0 : Int32) = 1 from by show (1 : Int32) + 0 = 1; decide]; exact (lv_sub hl [4, 5, 3, 2, 1, 0] rfl))
