set_option maxHeartbeats 4000000 in
set_option maxRecDepth 100000 in
theorem m_X4_time (l : Launch) {D : va_G} {cI cJ cB : ClassId} {t0 z : Nat} {tx ad : Nat → Nat} {L : List Nat} {E : Nat → va_E} {ka a : Nat} (ha : ad ka = a) (hk : ka ∈ L) {b : Nat → Int32} (hO : E ka = .inl (cI, 9, .inl (sB b))) (h9 : ¬ b 8 = 0 → 0 ≤ b 9) : Met l yX4_time wsX4_time ({ frames := 0, cells := 0, slots := 0, locals := 0 } : Room) (va_Pc [.ref (ad 50), .ref a] (fPre D cI cJ cB t0 z tx ad L E)) (va_Qi (fun (r : Int32) (E1 : Nat → va_E) => r = p_time b ∧ E1 = E) (fB D z ad L) (fA z)) 0 0 (fA z) := by
  refine f_ofW (cc := cX4_time) (maxL := 2) (ret := some .int) (by decide) rfl (Nat.le_of_ble_eq_true rfl) ?_
  intro pr e s m args below meth c Q hx hb hr hml hts hown hlocks hin hG H locs hI hQ ls hl
  have hl : lv_has ls 2 [(0, .ref (ad 50)), (1, .ref a)] := hl
  have hO : E ka = .inl (cI, 9, .inl (a9 (b 3) (b 4) (b 5) (b 6) (b 7) (if b 8 = 0 then -1 else b 9) (b 10) (b 11) (b 2))) := hO
  refine lv_aload_n hx hb dX4_time_0 rfl (lv_at hl 1 rfl) ?_
  refine lv_iconst (v := 5) hx hb dX4_time_1 (by decide) ?_
  refine f_iald hx hb hG.1 hI ha hk hO (vp_in_iff.mpr ⟨by decide, by decide⟩) dX4_time_2 ?_
  refine lv_topi (fun tv etv => ?_)
  have etv : tv = (if b 8 = 0 then -1 else b 9) := etv.trans rfl
  subst etv
  refine lv_if_ge (tgt := 10) hx hb dX4_time_3 (by decide) (fun c_3 => ?_) (fun c_3 => ?_)
  · have n_3 := i_nlt.mpr c_3
    refine lv_aload_n hx hb dX4_time_10 rfl (lv_at hl 1 rfl) ?_
    refine lv_iconst (v := 5) hx hb dX4_time_11 (by decide) ?_
    refine f_iald hx hb hG.1 hI ha hk hO (vp_in_iff.mpr ⟨by decide, by decide⟩) dX4_time_12 ?_
    refine lv_topi (fun tv etv => ?_)
    have etv : tv = (if b 8 = 0 then -1 else b 9) := etv.trans rfl
    subst etv
    refine lv_iconst (v := 1) hx hb dX4_time_13 (by decide) ?_
    refine lv_iadd hx hb dX4_time_14 ?_
    refine lv_aload_n hx hb dX4_time_15 rfl (lv_at hl 1 rfl) ?_
    refine lv_iconst (v := 4) hx hb dX4_time_16 (by decide) ?_
    refine f_iald hx hb hG.1 hI ha hk hO (vp_in_iff.mpr ⟨by decide, by decide⟩) dX4_time_17 ?_
    refine lv_topi (fun tv etv => ?_)
    have etv : tv = (b 7) := etv.trans rfl
    subst etv
    refine lv_iadd hx hb dX4_time_18 ?_
    exact f_reti hQ hx hb hr hlocks hI.2.2 (by omega) (by omega) dX4_time_19 E (fB_of hI) (⟨by have hz : ¬ b 8 = 0 := (fun q => n_3 ((tin_lt h9).mpr q)); unfold p_time; rw [if_neg hz, if_neg hz], rfl⟩)
  · have n_3 := c_3
    have c_3 := i_nle.mp n_3
    refine lv_iconst (v := -1) hx hb dX4_time_6 (by decide) ?_
    refine lv_goto (tgt := 19) hx hb dX4_time_7 (by decide) ?_
    exact f_reti hQ hx hb hr hlocks hI.2.2 (by omega) (by omega) dX4_time_19 E (fB_of hI) (⟨(if_pos ((tin_lt h9).mp c_3)).symm, rfl⟩)

set_option maxHeartbeats 4000000 in
set_option maxRecDepth 100000 in
theorem go_A (l : Launch) {pr : Program} {e : Env} {s : State} {m : MethodId} {args : Array Value} {below : List Frame} {meth : Method} {c : Code} {Q : State → Prop} (hx : pr.tables.exec = Jvm.exec) (hb : c.code = cX4_go) (hml : c.maxLocals = 6) (hts : ∀ w ∈ wsX4_go, w.before args s = true) (hown : s.vm.findClass RX4 = some m.cls) {D : va_G} {cI cJ cB : ClassId} {t0 z : Nat} {tx ad : Nat → Nat} {L : List Nat} (hG : fG D cI cJ cB t0 z tx s) {E : Nat → va_E} {H : Heap} {locs : List Loc} {ls : Array Slot} {w p g : Nat → Int32} {nw T : Nat} (h50 : 50 ∈ L) (hS50 : E 50 = sE ad T nw) {n i : Nat} (hi : i < n) (hn6 : n ≤ 6) (hT : T < 2 ^ 30) {b f : Nat → Int32} (hb0 : okb b) (h53 : 53 ∈ L) (h54 : 54 ∈ L) (hko : 60 + i ∈ L) (hkt : 70 + i ∈ L) (hS53 : E 53 = .inl (cJ, n, .inr (.inr (.inr (.inr (row_at ad 60 n)))))) (hS54 : E 54 = .inl (cJ, n, .inr (.inr (.inr (.inr (row_at ad 70 n)))))) (hO : E (60 + i) = .inl (cI, 9, .inl (sB b))) (hF : E (70 + i) = .inl (cI, bl_len b, .inl f)) (hI : fI D (fA z) s.heap ad L E H locs) (hl : lv_has ls 6 [(0, .ref (ad 50)), (1, .int (nI i))]) (kk : ∀ (K : Int32) (ls1 : Array Slot), K = p_stk b f (nI T) → lv_has ls1 6 [(0, .ref (ad 50)), (1, .int (nI i)), (2, .ref (ad (60 + i))), (3, .int K), (4, .int (s_force b K))] → W pr l e ({ frames := 1, cells := 0, slots := 0, locals := 40 } : Room) s m args below meth c H locs 0 0 Q (F0 m 81 ls1 [])) : W pr l e ({ frames := 1, cells := 0, slots := 0, locals := 40 } : Room) s m args below meth c H locs 0 0 Q (F0 m 0 ls []) := by
  have hL := bl_len_1 hb0
  have hcl : (nI i).toNatClampNeg = i := nI_clamp (by omega)
  have hS50 : E 50 = .inr (4, [.int (nI T), .ref (ad 51), .ref (ad 52), .int (nI nw), .ref (ad 53), .ref (ad 54)]) := hS50
  have hS53 : E 53 = .inl (cJ, n, .inr (.inr (.inr (.inr (row_at ad 60 n))))) := hS53
  have hS54 : E 54 = .inl (cJ, n, .inr (.inr (.inr (.inr (row_at ad 70 n))))) := hS54
  have hO : E (60 + i) = .inl (cI, 9, .inl (a9 (b 3) (b 4) (b 5) (b 6) (b 7) (if b 8 = 0 then -1 else b 9) (b 10) (b 11) (b 2))) := hO
  have hF : E (70 + i) = .inl (cI, bl_len b, .inl f) := hF
  refine lv_aload_n hx hb dX4_go_0 rfl (lv_at hl 0 rfl) ?_
  refine f_get (ci := 4) (v := .ref (ad 53)) (C := RX4) (T := TX4) (N := 6) hx hb hts (by decide +kernel) hown hG.1 hI rfl h50 hS50 rfl 4 (by decide) (hts (.fieldLink RX4 17 "CoracleRaceLaw$Sim" "boats" "[[I") (by decide +kernel)) rfl dX4_go_1 ?_
  refine lv_iload_n hx hb dX4_go_4 rfl (lv_at hl 1 rfl) ?_
  refine f_aldA hx hb hG.1 hI rfl h53 hS53 (vp_in_nI (by omega) (by omega)) (v := .ref (ad (60 + i))) (by rw [hcl]; exact row_at_at hi) dX4_go_5 ?_
  refine lv_astore_n (lv' := [(2, .ref (ad (60 + i))), (0, .ref (ad 50)), (1, .int (nI i))]) hx hb dX4_go_6 rfl hl (by decide) rfl (fun ls hl => ?_)
  refine lv_aload_n hx hb dX4_go_7 rfl (lv_at hl 1 rfl) ?_
  refine f_get (ci := 4) (v := .ref (ad 54)) (C := RX4) (T := TX4) (N := 6) hx hb hts (by decide +kernel) hown hG.1 hI rfl h50 hS50 rfl 5 (by decide) (hts (.fieldLink RX4 21 "CoracleRaceLaw$Sim" "strokes" "[[I") (by decide +kernel)) rfl dX4_go_8 ?_
  refine lv_iload_n hx hb dX4_go_11 rfl (lv_at hl 2 rfl) ?_
  refine f_aldA hx hb hG.1 hI rfl h54 hS54 (vp_in_nI (by omega) (by omega)) (v := .ref (ad (70 + i))) (by rw [hcl]; exact row_at_at hi) dX4_go_12 ?_
  refine lv_aload_n hx hb dX4_go_13 rfl (lv_at hl 1 rfl) ?_
  refine f_get (ci := 4) (v := .int (nI T)) (C := RX4) (T := TX4) (N := 6) hx hb hts (by decide +kernel) hown hG.1 hI rfl h50 hS50 rfl 0 (by decide) (hts (.fieldLink RX4 30 "CoracleRaceLaw$Sim" "tick" "I") (by decide +kernel)) rfl dX4_go_14 ?_
  refine lv_aload_n hx hb dX4_go_17 rfl (lv_at hl 1 rfl) ?_
  refine f_get (ci := 4) (v := .ref (ad 54)) (C := RX4) (T := TX4) (N := 6) hx hb hts (by decide +kernel) hown hG.1 hI rfl h50 hS50 rfl 5 (by decide) (hts (.fieldLink RX4 21 "CoracleRaceLaw$Sim" "strokes" "[[I") (by decide +kernel)) rfl dX4_go_18 ?_
  refine lv_iload_n hx hb dX4_go_21 rfl (lv_at hl 2 rfl) ?_
  refine f_aldA hx hb hG.1 hI rfl h54 hS54 (vp_in_nI (by omega) (by omega)) (v := .ref (ad (70 + i))) (by rw [hcl]; exact row_at_at hi) dX4_go_22 ?_
  refine f_alen hx hb hG.1 hI rfl hkt hF (v := nI (bl_len b)) rfl dX4_go_23 ?_
  refine lv_irem hx hb dX4_go_24 (nI_ne0 hL.2.1 (by omega)) ?_
  refine f_iald hx hb hG.1 hI rfl hkt hF (rem_in (by omega) hL.2.1 hL.2.2) dX4_go_25 ?_
  refine lv_topi (fun K eK => ?_)
  refine lv_istore_n (lv' := [(3, .int K), (2, .ref (ad (60 + i))), (0, .ref (ad 50)), (1, .int (nI i))]) hx hb dX4_go_26 rfl hl (by decide) rfl (fun ls hl => ?_)
  refine lv_iload_n hx hb dX4_go_27 rfl (lv_at hl 0 rfl) ?_
  refine lv_iconst (v := 3) hx hb dX4_go_28 (by decide) ?_
  refine lv_icmp_ne (tgt := 39) hx hb dX4_go_29 (by decide) (fun c_29 => ?_) (fun c_29 => ?_)
  · refine lv_iload_n hx hb dX4_go_39 rfl (lv_at hl 0 rfl) ?_
    refine lv_if_ne (tgt := 47) hx hb dX4_go_40 (by decide) (fun c_40 => ?_) (fun c_40 => ?_)
    · refine lv_aload_n hx hb dX4_go_47 rfl (lv_at hl 1 rfl) ?_
      refine lv_bipush (v := 8) hx hb dX4_go_48 (by decide) ?_
      refine f_iald hx hb hG.1 hI rfl hko hO (vp_in_iff.mpr ⟨by decide, by decide⟩) dX4_go_50 ?_
      refine lv_topi (fun tv etv => ?_)
      have etv : tv = (b 2) := etv.trans rfl
      subst etv
      refine lv_iconst (v := 2) hx hb dX4_go_51 (by decide) ?_
      refine lv_idiv hx hb dX4_go_52 (by decide) ?_
      refine lv_istore (lv' := [(4, .int ((b 2) / 2)), (3, .int K), (2, .ref (ad (60 + i))), (0, .ref (ad 50)), (1, .int (nI i))]) hx hb dX4_go_53 hl (by decide) rfl (fun ls hl => ?_)
      refine lv_iload hx hb dX4_go_55 (lv_at hl 0 rfl) ?_
      refine lv_aload_n hx hb dX4_go_57 rfl (lv_at hl 2 rfl) ?_
      refine lv_iconst (v := 3) hx hb dX4_go_58 (by decide) ?_
      refine f_iald hx hb hG.1 hI rfl hko hO (vp_in_iff.mpr ⟨by decide, by decide⟩) dX4_go_59 ?_
      refine lv_topi (fun tv etv => ?_)
      have etv : tv = (b 6) := etv.trans rfl
      subst etv
      refine lv_bipush (v := 6) hx hb dX4_go_60 (by decide) ?_
      refine lv_idiv hx hb dX4_go_62 (by decide) ?_
      refine lv_icmp_le (tgt := 78) hx hb dX4_go_63 (by decide) (fun c_63 => ?_) (fun c_63 => ?_)
      · have n_63 := i_nlt.mpr c_63
        refine lv_iconst (v := 0) hx hb dX4_go_78 (by decide) ?_
        refine lv_topi (fun tv etv => ?_)
        have hpu : p_push b K = b 2 / 2 := by simp [p_push, c_29, c_40]
        have etv : tv = s_force b K := etv.trans (by unfold s_force; rw [hpu]; exact (if_neg n_63).symm)
        subst etv
        refine lv_istore (lv' := [(4, .int (s_force b K)), (3, .int K), (2, .ref (ad (60 + i))), (0, .ref (ad 50)), (1, .int (nI i))]) hx hb dX4_go_79 hl (by decide) rfl (fun ls hl => ?_)
        exact kk K ls (eK.trans (stk_K hb0)) (lv_sub hl [3, 4, 2, 1, 0] rfl)
      · have n_63 := c_63
        have c_63 := i_nle.mp n_63
        refine lv_iload hx hb dX4_go_66 (lv_at hl 0 rfl) ?_
        refine lv_aload_n hx hb dX4_go_68 rfl (lv_at hl 2 rfl) ?_
        refine lv_iconst (v := 3) hx hb dX4_go_69 (by decide) ?_
        refine f_iald hx hb hG.1 hI rfl hko hO (vp_in_iff.mpr ⟨by decide, by decide⟩) dX4_go_70 ?_
        refine lv_topi (fun tv etv => ?_)
        have etv : tv = (b 6) := etv.trans rfl
        subst etv
        refine lv_bipush (v := 6) hx hb dX4_go_71 (by decide) ?_
        refine lv_idiv hx hb dX4_go_73 (by decide) ?_
        refine lv_isub hx hb dX4_go_74 ?_
        refine lv_goto (tgt := 79) hx hb dX4_go_75 (by decide) ?_
        refine lv_topi (fun tv etv => ?_)
        have hpu : p_push b K = b 2 / 2 := by simp [p_push, c_29, c_40]
        have etv : tv = s_force b K := etv.trans (by unfold s_force; rw [hpu]; exact (if_pos c_63).symm)
        subst etv
        refine lv_istore (lv' := [(4, .int (s_force b K)), (3, .int K), (2, .ref (ad (60 + i))), (0, .ref (ad 50)), (1, .int (nI i))]) hx hb dX4_go_79 hl (by decide) rfl (fun ls hl => ?_)
        exact kk K ls (eK.trans (stk_K hb0)) (lv_sub hl [3, 4, 2, 1, 0] rfl)
    · refine lv_iconst (v := 0) hx hb dX4_go_43 (by decide) ?_
      refine lv_goto (tgt := 53) hx hb dX4_go_44 (by decide) ?_
      refine lv_istore (lv' := [(4, .int 0), (3, .int K), (2, .ref (ad (60 + i))), (0, .ref (ad 50)), (1, .int (nI i))]) hx hb dX4_go_53 hl (by decide) rfl (fun ls hl => ?_)
      refine lv_iload hx hb dX4_go_55 (lv_at hl 0 rfl) ?_
      refine lv_aload_n hx hb dX4_go_57 rfl (lv_at hl 2 rfl) ?_
      refine lv_iconst (v := 3) hx hb dX4_go_58 (by decide) ?_
      refine f_iald hx hb hG.1 hI rfl hko hO (vp_in_iff.mpr ⟨by decide, by decide⟩) dX4_go_59 ?_
      refine lv_topi (fun tv etv => ?_)
      have etv : tv = (b 6) := etv.trans rfl
      subst etv
      refine lv_bipush (v := 6) hx hb dX4_go_60 (by decide) ?_
      refine lv_idiv hx hb dX4_go_62 (by decide) ?_
      refine lv_icmp_le (tgt := 78) hx hb dX4_go_63 (by decide) (fun c_63 => ?_) (fun c_63 => ?_)
      · have n_63 := i_nlt.mpr c_63
        refine lv_iconst (v := 0) hx hb dX4_go_78 (by decide) ?_
        refine lv_topi (fun tv etv => ?_)
        have hpu : p_push b K = 0 := by simp [p_push, c_29, c_40]
        have etv : tv = s_force b K := etv.trans (by unfold s_force; rw [hpu]; exact (if_neg n_63).symm)
        subst etv
        refine lv_istore (lv' := [(4, .int (s_force b K)), (3, .int K), (2, .ref (ad (60 + i))), (0, .ref (ad 50)), (1, .int (nI i))]) hx hb dX4_go_79 hl (by decide) rfl (fun ls hl => ?_)
        exact kk K ls (eK.trans (stk_K hb0)) (lv_sub hl [3, 4, 2, 1, 0] rfl)
      · have n_63 := c_63
        have c_63 := i_nle.mp n_63
        refine lv_iload hx hb dX4_go_66 (lv_at hl 0 rfl) ?_
        refine lv_aload_n hx hb dX4_go_68 rfl (lv_at hl 2 rfl) ?_
        refine lv_iconst (v := 3) hx hb dX4_go_69 (by decide) ?_
        refine f_iald hx hb hG.1 hI rfl hko hO (vp_in_iff.mpr ⟨by decide, by decide⟩) dX4_go_70 ?_
        refine lv_topi (fun tv etv => ?_)
        have etv : tv = (b 6) := etv.trans rfl
        subst etv
        refine lv_bipush (v := 6) hx hb dX4_go_71 (by decide) ?_
        refine lv_idiv hx hb dX4_go_73 (by decide) ?_
        refine lv_isub hx hb dX4_go_74 ?_
        refine lv_goto (tgt := 79) hx hb dX4_go_75 (by decide) ?_
        refine lv_topi (fun tv etv => ?_)
        have hpu : p_push b K = 0 := by simp [p_push, c_29, c_40]
        have etv : tv = s_force b K := etv.trans (by unfold s_force; rw [hpu]; exact (if_pos c_63).symm)
        subst etv
        refine lv_istore (lv' := [(4, .int (s_force b K)), (3, .int K), (2, .ref (ad (60 + i))), (0, .ref (ad 50)), (1, .int (nI i))]) hx hb dX4_go_79 hl (by decide) rfl (fun ls hl => ?_)
        exact kk K ls (eK.trans (stk_K hb0)) (lv_sub hl [3, 4, 2, 1, 0] rfl)
  · refine lv_aload_n hx hb dX4_go_32 rfl (lv_at hl 1 rfl) ?_
    refine lv_bipush (v := 8) hx hb dX4_go_33 (by decide) ?_
    refine f_iald hx hb hG.1 hI rfl hko hO (vp_in_iff.mpr ⟨by decide, by decide⟩) dX4_go_35 ?_
    refine lv_topi (fun tv etv => ?_)
    have etv : tv = (b 2) := etv.trans rfl
    subst etv
    refine lv_goto (tgt := 53) hx hb dX4_go_36 (by decide) ?_
    refine lv_istore (lv' := [(4, .int (b 2)), (3, .int K), (2, .ref (ad (60 + i))), (0, .ref (ad 50)), (1, .int (nI i))]) hx hb dX4_go_53 hl (by decide) rfl (fun ls hl => ?_)
    refine lv_iload hx hb dX4_go_55 (lv_at hl 0 rfl) ?_
    refine lv_aload_n hx hb dX4_go_57 rfl (lv_at hl 2 rfl) ?_
    refine lv_iconst (v := 3) hx hb dX4_go_58 (by decide) ?_
    refine f_iald hx hb hG.1 hI rfl hko hO (vp_in_iff.mpr ⟨by decide, by decide⟩) dX4_go_59 ?_
    refine lv_topi (fun tv etv => ?_)
    have etv : tv = (b 6) := etv.trans rfl
    subst etv
    refine lv_bipush (v := 6) hx hb dX4_go_60 (by decide) ?_
    refine lv_idiv hx hb dX4_go_62 (by decide) ?_
    refine lv_icmp_le (tgt := 78) hx hb dX4_go_63 (by decide) (fun c_63 => ?_) (fun c_63 => ?_)
    · have n_63 := i_nlt.mpr c_63
      refine lv_iconst (v := 0) hx hb dX4_go_78 (by decide) ?_
      refine lv_topi (fun tv etv => ?_)
      have hpu : p_push b K = b 2 := by simp [p_push, c_29]
      have etv : tv = s_force b K := etv.trans (by unfold s_force; rw [hpu]; exact (if_neg n_63).symm)
      subst etv
      refine lv_istore (lv' := [(4, .int (s_force b K)), (3, .int K), (2, .ref (ad (60 + i))), (0, .ref (ad 50)), (1, .int (nI i))]) hx hb dX4_go_79 hl (by decide) rfl (fun ls hl => ?_)
      exact kk K ls (eK.trans (stk_K hb0)) (lv_sub hl [3, 4, 2, 1, 0] rfl)
    · have n_63 := c_63
      have c_63 := i_nle.mp n_63
      refine lv_iload hx hb dX4_go_66 (lv_at hl 0 rfl) ?_
      refine lv_aload_n hx hb dX4_go_68 rfl (lv_at hl 2 rfl) ?_
      refine lv_iconst (v := 3) hx hb dX4_go_69 (by decide) ?_
      refine f_iald hx hb hG.1 hI rfl hko hO (vp_in_iff.mpr ⟨by decide, by decide⟩) dX4_go_70 ?_
      refine lv_topi (fun tv etv => ?_)
      have etv : tv = (b 6) := etv.trans rfl
      subst etv
      refine lv_bipush (v := 6) hx hb dX4_go_71 (by decide) ?_
      refine lv_idiv hx hb dX4_go_73 (by decide) ?_
      refine lv_isub hx hb dX4_go_74 ?_
      refine lv_goto (tgt := 79) hx hb dX4_go_75 (by decide) ?_
      refine lv_topi (fun tv etv => ?_)
      have hpu : p_push b K = b 2 := by simp [p_push, c_29]
      have etv : tv = s_force b K := etv.trans (by unfold s_force; rw [hpu]; exact (if_pos c_63).symm)
      subst etv
      refine lv_istore (lv' := [(4, .int (s_force b K)), (3, .int K), (2, .ref (ad (60 + i))), (0, .ref (ad 50)), (1, .int (nI i))]) hx hb dX4_go_79 hl (by decide) rfl (fun ls hl => ?_)
      exact kk K ls (eK.trans (stk_K hb0)) (lv_sub hl [3, 4, 2, 1, 0] rfl)

set_option maxHeartbeats 4000000 in
set_option maxRecDepth 100000 in
theorem go_B (l : Launch) {pr : Program} {e : Env} {s : State} {m : MethodId} {args : Array Value} {below : List Frame} {meth : Method} {c : Code} {Q : State → Prop} (hx : pr.tables.exec = Jvm.exec) (hb : c.code = cX4_go) (hml : c.maxLocals = 6) (hts : ∀ w ∈ wsX4_go, w.before args s = true) (hown : s.vm.findClass RX4 = some m.cls) {D : va_G} {cI cJ cB : ClassId} {t0 z : Nat} {tx ad : Nat → Nat} {L : List Nat} (hG : fG D cI cJ cB t0 z tx s) {E : Nat → va_E} {H : Heap} {locs : List Loc} {ls : Array Slot} {ko ao : Nat} (h60 : 60 ≤ ko) (hao : ad ko = ao) (hko : ko ∈ L) {b : Nat → Int32} (hO : E ko = .inl (cI, 9, .inl (sB b))) {bi K fo : Int32} (hI : fI D (fA z) s.heap ad L E H locs) (hl : lv_has ls 6 [(0, .ref (ad 50)), (1, .int bi), (2, .ref ao), (3, .int K), (4, .int fo)]) (kk : ∀ (E1 : Nat → va_E) (H1 : Heap) (locs1 : List Loc) (ls1 : Array Slot), E1 ko = .inl (cI, 9, .inl (sB (p_turn b K))) → (∀ q, q ≠ ko → E1 q = E q) → fI D (fA z) s.heap ad L E1 H1 locs1 → lv_has ls1 6 [(0, .ref (ad 50)), (1, .int bi), (2, .ref ao), (3, .int K), (4, .int (if p_spun (p_head (b 5) K) then 0 else fo))] → W pr l e ({ frames := 1, cells := 0, slots := 0, locals := 40 } : Room) s m args below meth c H1 locs1 0 0 Q (F0 m 135 ls1 [])) : W pr l e ({ frames := 1, cells := 0, slots := 0, locals := 40 } : Room) s m args below meth c H locs 0 0 Q (F0 m 81 ls []) := by
  have hfr : ∀ q : Nat, q ≠ ko → E q = E q := fun _ _ => rfl
  have hO : E ko = .inl (cI, 9, .inl (a9 (b 3) (b 4) (b 5) (b 6) (b 7) (if b 8 = 0 then -1 else b 9) (b 10) (b 11) (b 2))) := hO
  refine lv_iload_n hx hb dX4_go_81 rfl (lv_at hl 3 rfl) ?_
  refine lv_iconst (v := 1) hx hb dX4_go_82 (by decide) ?_
  refine lv_icmp_ne (tgt := 93) hx hb dX4_go_83 (by decide) (fun c_83 => ?_) (fun c_83 => ?_)
  · refine lv_iload_n hx hb dX4_go_93 rfl (lv_at hl 3 rfl) ?_
    refine lv_iconst (v := 2) hx hb dX4_go_94 (by decide) ?_
    refine lv_icmp_ne (tgt := 105) hx hb dX4_go_95 (by decide) (fun c_95 => ?_) (fun c_95 => ?_)
    · refine lv_aload_n hx hb dX4_go_105 rfl (lv_at hl 2 rfl) ?_
      refine lv_iconst (v := 2) hx hb dX4_go_106 (by decide) ?_
      refine f_iald hx hb hG.1 hI hao hko hO (vp_in_iff.mpr ⟨by decide, by decide⟩) dX4_go_107 ?_
      refine lv_topi (fun tv etv => ?_)
      have etv : tv = (b 5) := etv.trans rfl
      subst etv
      refine lv_iconst (v := 4) hx hb dX4_go_108 (by decide) ?_
      refine lv_icmp_gt (tgt := 120) hx hb dX4_go_109 (by decide) (fun c_109 => ?_) (fun c_109 => ?_)
      · have n_109 := i_nle.mpr c_109
        refine lv_aload_n hx hb dX4_go_120 rfl (lv_at hl 2 rfl) ?_
        refine lv_iconst (v := 2) hx hb dX4_go_121 (by decide) ?_
        refine lv_iconst (v := 0) hx hb dX4_go_122 (by decide) ?_
        refine f_iast hx hb hG.1 hI hao hko hO (vp_in_iff.mpr ⟨by decide, by decide⟩) dX4_go_123 (fun E1 H locs hE2 hn3 hI => ?_)
        have hO : E1 ko = .inl (cI, 9, .inl (a9 (b 3) (b 4) 0 (b 6) (b 7) (if b 8 = 0 then -1 else b 9) (b 10) (b 11) (b 2))) := hE2.trans (congrArg (fun f9 => (Sum.inl (cI, 9, Sum.inl f9) : va_E)) (a9_2 (x := 0)))
        have hfr : ∀ q : Nat, q ≠ ko → E1 q = E q := fun q hq => (hn3 q (by omega)).trans (hfr q hq)
        refine lv_aload_n hx hb dX4_go_124 rfl (lv_at hl 2 rfl) ?_
        refine lv_bipush (v := 6) hx hb dX4_go_125 (by decide) ?_
        refine lv_dup2_11 hx hb dX4_go_127 rfl rfl ?_
        refine f_iald hx hb hG.1 hI hao hko hO (vp_in_iff.mpr ⟨by decide, by decide⟩) dX4_go_128 ?_
        refine lv_topi (fun tv etv => ?_)
        have etv : tv = (b 10) := etv.trans rfl
        subst etv
        refine lv_iconst (v := 1) hx hb dX4_go_129 (by decide) ?_
        refine lv_iadd hx hb dX4_go_130 ?_
        refine f_iast hx hb hG.1 hI hao hko hO (vp_in_iff.mpr ⟨by decide, by decide⟩) dX4_go_131 (fun E4 H locs hE5 hn6 hI => ?_)
        have hO : E4 ko = .inl (cI, 9, .inl (a9 (b 3) (b 4) 0 (b 6) (b 7) (if b 8 = 0 then -1 else b 9) ((b 10) + 1) (b 11) (b 2))) := hE5.trans (congrArg (fun f9 => (Sum.inl (cI, 9, Sum.inl f9) : va_E)) (a9_6 (x := ((b 10) + 1))))
        have hfr : ∀ q : Nat, q ≠ ko → E4 q = E q := fun q hq => (hn6 q (by omega)).trans (hfr q hq)
        refine lv_iconst (v := 0) hx hb dX4_go_132 (by decide) ?_
        refine lv_istore (lv' := [(4, .int 0), (0, .ref (ad 50)), (1, .int bi), (2, .ref ao), (3, .int K)]) hx hb dX4_go_133 hl (by decide) rfl (fun ls hl => ?_)
        have hp : p_head (b 5) K = b 5 := by simp [p_head, c_83, c_95]
        have hs : p_spun (p_head (b 5) K) := by rw [hp]; exact Or.inl c_109
        have hO9 : E4 ko = .inl (cI, 9, .inl (sB (p_turn b K))) := hO.trans (by unfold p_turn; rw [if_pos hs]; rfl)
        exact kk E4 H locs ls hO9 hfr hI (by rw [if_pos hs]; exact (lv_sub hl [1, 2, 3, 4, 0] rfl))
      · have n_109 := c_109
        have c_109 := i_nlt.mp n_109
        refine lv_aload_n hx hb dX4_go_112 rfl (lv_at hl 2 rfl) ?_
        refine lv_iconst (v := 2) hx hb dX4_go_113 (by decide) ?_
        refine f_iald hx hb hG.1 hI hao hko hO (vp_in_iff.mpr ⟨by decide, by decide⟩) dX4_go_114 ?_
        refine lv_topi (fun tv etv => ?_)
        have etv : tv = (b 5) := etv.trans rfl
        subst etv
        refine lv_bipush (v := -4) hx hb dX4_go_115 (by decide) ?_
        refine lv_icmp_ge (tgt := 135) hx hb dX4_go_117 (by decide) (fun c_117 => ?_) (fun c_117 => ?_)
        · have n_117 := i_nlt.mpr c_117
          have hp : p_head (b 5) K = b 5 := by simp [p_head, c_83, c_95]
          have hs : ¬ p_spun (p_head (b 5) K) := by rw [hp]; exact fun q => q.elim n_109 n_117
          have hO9 : E ko = .inl (cI, 9, .inl (sB (p_turn b K))) := hO.trans (by unfold p_turn; rw [if_neg hs, hp]; rfl)
          exact kk E H locs ls hO9 hfr hI (by rw [if_neg hs]; exact (lv_sub hl [0, 1, 2, 3, 4] rfl))
        · have n_117 := c_117
          have c_117 := i_nle.mp n_117
          refine lv_aload_n hx hb dX4_go_120 rfl (lv_at hl 2 rfl) ?_
          refine lv_iconst (v := 2) hx hb dX4_go_121 (by decide) ?_
          refine lv_iconst (v := 0) hx hb dX4_go_122 (by decide) ?_
          refine f_iast hx hb hG.1 hI hao hko hO (vp_in_iff.mpr ⟨by decide, by decide⟩) dX4_go_123 (fun E7 H locs hE8 hn9 hI => ?_)
          have hO : E7 ko = .inl (cI, 9, .inl (a9 (b 3) (b 4) 0 (b 6) (b 7) (if b 8 = 0 then -1 else b 9) (b 10) (b 11) (b 2))) := hE8.trans (congrArg (fun f9 => (Sum.inl (cI, 9, Sum.inl f9) : va_E)) (a9_2 (x := 0)))
          have hfr : ∀ q : Nat, q ≠ ko → E7 q = E q := fun q hq => (hn9 q (by omega)).trans (hfr q hq)
          refine lv_aload_n hx hb dX4_go_124 rfl (lv_at hl 2 rfl) ?_
          refine lv_bipush (v := 6) hx hb dX4_go_125 (by decide) ?_
          refine lv_dup2_11 hx hb dX4_go_127 rfl rfl ?_
          refine f_iald hx hb hG.1 hI hao hko hO (vp_in_iff.mpr ⟨by decide, by decide⟩) dX4_go_128 ?_
          refine lv_topi (fun tv etv => ?_)
          have etv : tv = (b 10) := etv.trans rfl
          subst etv
          refine lv_iconst (v := 1) hx hb dX4_go_129 (by decide) ?_
          refine lv_iadd hx hb dX4_go_130 ?_
          refine f_iast hx hb hG.1 hI hao hko hO (vp_in_iff.mpr ⟨by decide, by decide⟩) dX4_go_131 (fun E10 H locs hE11 hn12 hI => ?_)
          have hO : E10 ko = .inl (cI, 9, .inl (a9 (b 3) (b 4) 0 (b 6) (b 7) (if b 8 = 0 then -1 else b 9) ((b 10) + 1) (b 11) (b 2))) := hE11.trans (congrArg (fun f9 => (Sum.inl (cI, 9, Sum.inl f9) : va_E)) (a9_6 (x := ((b 10) + 1))))
          have hfr : ∀ q : Nat, q ≠ ko → E10 q = E q := fun q hq => (hn12 q (by omega)).trans (hfr q hq)
          refine lv_iconst (v := 0) hx hb dX4_go_132 (by decide) ?_
          refine lv_istore (lv' := [(4, .int 0), (0, .ref (ad 50)), (1, .int bi), (2, .ref ao), (3, .int K)]) hx hb dX4_go_133 hl (by decide) rfl (fun ls hl => ?_)
          have hp : p_head (b 5) K = b 5 := by simp [p_head, c_83, c_95]
          have hs : p_spun (p_head (b 5) K) := by rw [hp]; exact Or.inr c_117
          have hO9 : E10 ko = .inl (cI, 9, .inl (sB (p_turn b K))) := hO.trans (by unfold p_turn; rw [if_pos hs]; rfl)
          exact kk E10 H locs ls hO9 hfr hI (by rw [if_pos hs]; exact (lv_sub hl [1, 2, 3, 4, 0] rfl))
    · refine lv_aload_n hx hb dX4_go_98 rfl (lv_at hl 2 rfl) ?_
      refine lv_iconst (v := 2) hx hb dX4_go_99 (by decide) ?_
      refine lv_dup2_11 hx hb dX4_go_100 rfl rfl ?_
      refine f_iald hx hb hG.1 hI hao hko hO (vp_in_iff.mpr ⟨by decide, by decide⟩) dX4_go_101 ?_
      refine lv_topi (fun tv etv => ?_)
      have etv : tv = (b 5) := etv.trans rfl
      subst etv
      refine lv_iconst (v := 1) hx hb dX4_go_102 (by decide) ?_
      refine lv_isub hx hb dX4_go_103 ?_
      refine f_iast hx hb hG.1 hI hao hko hO (vp_in_iff.mpr ⟨by decide, by decide⟩) dX4_go_104 (fun E13 H locs hE14 hn15 hI => ?_)
      have hO : E13 ko = .inl (cI, 9, .inl (a9 (b 3) (b 4) ((b 5) - 1) (b 6) (b 7) (if b 8 = 0 then -1 else b 9) (b 10) (b 11) (b 2))) := hE14.trans (congrArg (fun f9 => (Sum.inl (cI, 9, Sum.inl f9) : va_E)) (a9_2 (x := ((b 5) - 1))))
      have hfr : ∀ q : Nat, q ≠ ko → E13 q = E q := fun q hq => (hn15 q (by omega)).trans (hfr q hq)
      refine lv_aload_n hx hb dX4_go_105 rfl (lv_at hl 2 rfl) ?_
      refine lv_iconst (v := 2) hx hb dX4_go_106 (by decide) ?_
      refine f_iald hx hb hG.1 hI hao hko hO (vp_in_iff.mpr ⟨by decide, by decide⟩) dX4_go_107 ?_
      refine lv_topi (fun tv etv => ?_)
      have etv : tv = ((b 5) - 1) := etv.trans rfl
      subst etv
      refine lv_iconst (v := 4) hx hb dX4_go_108 (by decide) ?_
      refine lv_icmp_gt (tgt := 120) hx hb dX4_go_109 (by decide) (fun c_109 => ?_) (fun c_109 => ?_)
      · have n_109 := i_nle.mpr c_109
        refine lv_aload_n hx hb dX4_go_120 rfl (lv_at hl 2 rfl) ?_
        refine lv_iconst (v := 2) hx hb dX4_go_121 (by decide) ?_
        refine lv_iconst (v := 0) hx hb dX4_go_122 (by decide) ?_
        refine f_iast hx hb hG.1 hI hao hko hO (vp_in_iff.mpr ⟨by decide, by decide⟩) dX4_go_123 (fun E16 H locs hE17 hn18 hI => ?_)
        have hO : E16 ko = .inl (cI, 9, .inl (a9 (b 3) (b 4) 0 (b 6) (b 7) (if b 8 = 0 then -1 else b 9) (b 10) (b 11) (b 2))) := hE17.trans (congrArg (fun f9 => (Sum.inl (cI, 9, Sum.inl f9) : va_E)) (a9_2 (x := 0)))
        have hfr : ∀ q : Nat, q ≠ ko → E16 q = E q := fun q hq => (hn18 q (by omega)).trans (hfr q hq)
        refine lv_aload_n hx hb dX4_go_124 rfl (lv_at hl 2 rfl) ?_
        refine lv_bipush (v := 6) hx hb dX4_go_125 (by decide) ?_
        refine lv_dup2_11 hx hb dX4_go_127 rfl rfl ?_
        refine f_iald hx hb hG.1 hI hao hko hO (vp_in_iff.mpr ⟨by decide, by decide⟩) dX4_go_128 ?_
        refine lv_topi (fun tv etv => ?_)
        have etv : tv = (b 10) := etv.trans rfl
        subst etv
        refine lv_iconst (v := 1) hx hb dX4_go_129 (by decide) ?_
        refine lv_iadd hx hb dX4_go_130 ?_
        refine f_iast hx hb hG.1 hI hao hko hO (vp_in_iff.mpr ⟨by decide, by decide⟩) dX4_go_131 (fun E19 H locs hE20 hn21 hI => ?_)
        have hO : E19 ko = .inl (cI, 9, .inl (a9 (b 3) (b 4) 0 (b 6) (b 7) (if b 8 = 0 then -1 else b 9) ((b 10) + 1) (b 11) (b 2))) := hE20.trans (congrArg (fun f9 => (Sum.inl (cI, 9, Sum.inl f9) : va_E)) (a9_6 (x := ((b 10) + 1))))
        have hfr : ∀ q : Nat, q ≠ ko → E19 q = E q := fun q hq => (hn21 q (by omega)).trans (hfr q hq)
        refine lv_iconst (v := 0) hx hb dX4_go_132 (by decide) ?_
        refine lv_istore (lv' := [(4, .int 0), (0, .ref (ad 50)), (1, .int bi), (2, .ref ao), (3, .int K)]) hx hb dX4_go_133 hl (by decide) rfl (fun ls hl => ?_)
        have hp : p_head (b 5) K = b 5 - 1 := by simp [p_head, c_83, c_95]
        have hs : p_spun (p_head (b 5) K) := by rw [hp]; exact Or.inl c_109
        have hO9 : E19 ko = .inl (cI, 9, .inl (sB (p_turn b K))) := hO.trans (by unfold p_turn; rw [if_pos hs]; rfl)
        exact kk E19 H locs ls hO9 hfr hI (by rw [if_pos hs]; exact (lv_sub hl [1, 2, 3, 4, 0] rfl))
      · have n_109 := c_109
        have c_109 := i_nlt.mp n_109
        refine lv_aload_n hx hb dX4_go_112 rfl (lv_at hl 2 rfl) ?_
        refine lv_iconst (v := 2) hx hb dX4_go_113 (by decide) ?_
        refine f_iald hx hb hG.1 hI hao hko hO (vp_in_iff.mpr ⟨by decide, by decide⟩) dX4_go_114 ?_
        refine lv_topi (fun tv etv => ?_)
        have etv : tv = ((b 5) - 1) := etv.trans rfl
        subst etv
        refine lv_bipush (v := -4) hx hb dX4_go_115 (by decide) ?_
        refine lv_icmp_ge (tgt := 135) hx hb dX4_go_117 (by decide) (fun c_117 => ?_) (fun c_117 => ?_)
        · have n_117 := i_nlt.mpr c_117
          have hp : p_head (b 5) K = b 5 - 1 := by simp [p_head, c_83, c_95]
          have hs : ¬ p_spun (p_head (b 5) K) := by rw [hp]; exact fun q => q.elim n_109 n_117
          have hO9 : E13 ko = .inl (cI, 9, .inl (sB (p_turn b K))) := hO.trans (by unfold p_turn; rw [if_neg hs, hp]; rfl)
          exact kk E13 H locs ls hO9 hfr hI (by rw [if_neg hs]; exact (lv_sub hl [0, 1, 2, 3, 4] rfl))
        · have n_117 := c_117
          have c_117 := i_nle.mp n_117
          refine lv_aload_n hx hb dX4_go_120 rfl (lv_at hl 2 rfl) ?_
          refine lv_iconst (v := 2) hx hb dX4_go_121 (by decide) ?_
          refine lv_iconst (v := 0) hx hb dX4_go_122 (by decide) ?_
          refine f_iast hx hb hG.1 hI hao hko hO (vp_in_iff.mpr ⟨by decide, by decide⟩) dX4_go_123 (fun E22 H locs hE23 hn24 hI => ?_)
          have hO : E22 ko = .inl (cI, 9, .inl (a9 (b 3) (b 4) 0 (b 6) (b 7) (if b 8 = 0 then -1 else b 9) (b 10) (b 11) (b 2))) := hE23.trans (congrArg (fun f9 => (Sum.inl (cI, 9, Sum.inl f9) : va_E)) (a9_2 (x := 0)))
          have hfr : ∀ q : Nat, q ≠ ko → E22 q = E q := fun q hq => (hn24 q (by omega)).trans (hfr q hq)
          refine lv_aload_n hx hb dX4_go_124 rfl (lv_at hl 2 rfl) ?_
          refine lv_bipush (v := 6) hx hb dX4_go_125 (by decide) ?_
          refine lv_dup2_11 hx hb dX4_go_127 rfl rfl ?_
          refine f_iald hx hb hG.1 hI hao hko hO (vp_in_iff.mpr ⟨by decide, by decide⟩) dX4_go_128 ?_
          refine lv_topi (fun tv etv => ?_)
          have etv : tv = (b 10) := etv.trans rfl
          subst etv
          refine lv_iconst (v := 1) hx hb dX4_go_129 (by decide) ?_
          refine lv_iadd hx hb dX4_go_130 ?_
          refine f_iast hx hb hG.1 hI hao hko hO (vp_in_iff.mpr ⟨by decide, by decide⟩) dX4_go_131 (fun E25 H locs hE26 hn27 hI => ?_)
          have hO : E25 ko = .inl (cI, 9, .inl (a9 (b 3) (b 4) 0 (b 6) (b 7) (if b 8 = 0 then -1 else b 9) ((b 10) + 1) (b 11) (b 2))) := hE26.trans (congrArg (fun f9 => (Sum.inl (cI, 9, Sum.inl f9) : va_E)) (a9_6 (x := ((b 10) + 1))))
          have hfr : ∀ q : Nat, q ≠ ko → E25 q = E q := fun q hq => (hn27 q (by omega)).trans (hfr q hq)
          refine lv_iconst (v := 0) hx hb dX4_go_132 (by decide) ?_
          refine lv_istore (lv' := [(4, .int 0), (0, .ref (ad 50)), (1, .int bi), (2, .ref ao), (3, .int K)]) hx hb dX4_go_133 hl (by decide) rfl (fun ls hl => ?_)
          have hp : p_head (b 5) K = b 5 - 1 := by simp [p_head, c_83, c_95]
          have hs : p_spun (p_head (b 5) K) := by rw [hp]; exact Or.inr c_117
          have hO9 : E25 ko = .inl (cI, 9, .inl (sB (p_turn b K))) := hO.trans (by unfold p_turn; rw [if_pos hs]; rfl)
          exact kk E25 H locs ls hO9 hfr hI (by rw [if_pos hs]; exact (lv_sub hl [1, 2, 3, 4, 0] rfl))
  · refine lv_aload_n hx hb dX4_go_86 rfl (lv_at hl 2 rfl) ?_
    refine lv_iconst (v := 2) hx hb dX4_go_87 (by decide) ?_
    refine lv_dup2_11 hx hb dX4_go_88 rfl rfl ?_
    refine f_iald hx hb hG.1 hI hao hko hO (vp_in_iff.mpr ⟨by decide, by decide⟩) dX4_go_89 ?_
    refine lv_topi (fun tv etv => ?_)
    have etv : tv = (b 5) := etv.trans rfl
    subst etv
    refine lv_iconst (v := 1) hx hb dX4_go_90 (by decide) ?_
    refine lv_iadd hx hb dX4_go_91 ?_
    refine f_iast hx hb hG.1 hI hao hko hO (vp_in_iff.mpr ⟨by decide, by decide⟩) dX4_go_92 (fun E28 H locs hE29 hn30 hI => ?_)
    have hO : E28 ko = .inl (cI, 9, .inl (a9 (b 3) (b 4) ((b 5) + 1) (b 6) (b 7) (if b 8 = 0 then -1 else b 9) (b 10) (b 11) (b 2))) := hE29.trans (congrArg (fun f9 => (Sum.inl (cI, 9, Sum.inl f9) : va_E)) (a9_2 (x := ((b 5) + 1))))
    have hfr : ∀ q : Nat, q ≠ ko → E28 q = E q := fun q hq => (hn30 q (by omega)).trans (hfr q hq)
    refine lv_iload_n hx hb dX4_go_93 rfl (lv_at hl 3 rfl) ?_
    refine lv_iconst (v := 2) hx hb dX4_go_94 (by decide) ?_
    refine lv_icmp_ne (tgt := 105) hx hb dX4_go_95 (by decide) (fun c_95 => ?_) (fun c_95 => ?_)
    · refine lv_aload_n hx hb dX4_go_105 rfl (lv_at hl 2 rfl) ?_
      refine lv_iconst (v := 2) hx hb dX4_go_106 (by decide) ?_
      refine f_iald hx hb hG.1 hI hao hko hO (vp_in_iff.mpr ⟨by decide, by decide⟩) dX4_go_107 ?_
      refine lv_topi (fun tv etv => ?_)
      have etv : tv = ((b 5) + 1) := etv.trans rfl
      subst etv
      refine lv_iconst (v := 4) hx hb dX4_go_108 (by decide) ?_
      refine lv_icmp_gt (tgt := 120) hx hb dX4_go_109 (by decide) (fun c_109 => ?_) (fun c_109 => ?_)
      · have n_109 := i_nle.mpr c_109
        refine lv_aload_n hx hb dX4_go_120 rfl (lv_at hl 2 rfl) ?_
        refine lv_iconst (v := 2) hx hb dX4_go_121 (by decide) ?_
        refine lv_iconst (v := 0) hx hb dX4_go_122 (by decide) ?_
        refine f_iast hx hb hG.1 hI hao hko hO (vp_in_iff.mpr ⟨by decide, by decide⟩) dX4_go_123 (fun E31 H locs hE32 hn33 hI => ?_)
        have hO : E31 ko = .inl (cI, 9, .inl (a9 (b 3) (b 4) 0 (b 6) (b 7) (if b 8 = 0 then -1 else b 9) (b 10) (b 11) (b 2))) := hE32.trans (congrArg (fun f9 => (Sum.inl (cI, 9, Sum.inl f9) : va_E)) (a9_2 (x := 0)))
        have hfr : ∀ q : Nat, q ≠ ko → E31 q = E q := fun q hq => (hn33 q (by omega)).trans (hfr q hq)
        refine lv_aload_n hx hb dX4_go_124 rfl (lv_at hl 2 rfl) ?_
        refine lv_bipush (v := 6) hx hb dX4_go_125 (by decide) ?_
        refine lv_dup2_11 hx hb dX4_go_127 rfl rfl ?_
        refine f_iald hx hb hG.1 hI hao hko hO (vp_in_iff.mpr ⟨by decide, by decide⟩) dX4_go_128 ?_
        refine lv_topi (fun tv etv => ?_)
        have etv : tv = (b 10) := etv.trans rfl
        subst etv
        refine lv_iconst (v := 1) hx hb dX4_go_129 (by decide) ?_
        refine lv_iadd hx hb dX4_go_130 ?_
        refine f_iast hx hb hG.1 hI hao hko hO (vp_in_iff.mpr ⟨by decide, by decide⟩) dX4_go_131 (fun E34 H locs hE35 hn36 hI => ?_)
        have hO : E34 ko = .inl (cI, 9, .inl (a9 (b 3) (b 4) 0 (b 6) (b 7) (if b 8 = 0 then -1 else b 9) ((b 10) + 1) (b 11) (b 2))) := hE35.trans (congrArg (fun f9 => (Sum.inl (cI, 9, Sum.inl f9) : va_E)) (a9_6 (x := ((b 10) + 1))))
        have hfr : ∀ q : Nat, q ≠ ko → E34 q = E q := fun q hq => (hn36 q (by omega)).trans (hfr q hq)
        refine lv_iconst (v := 0) hx hb dX4_go_132 (by decide) ?_
        refine lv_istore (lv' := [(4, .int 0), (0, .ref (ad 50)), (1, .int bi), (2, .ref ao), (3, .int K)]) hx hb dX4_go_133 hl (by decide) rfl (fun ls hl => ?_)
        have hp : p_head (b 5) K = b 5 + 1 := by simp [p_head, c_83]
        have hs : p_spun (p_head (b 5) K) := by rw [hp]; exact Or.inl c_109
        have hO9 : E34 ko = .inl (cI, 9, .inl (sB (p_turn b K))) := hO.trans (by unfold p_turn; rw [if_pos hs]; rfl)
        exact kk E34 H locs ls hO9 hfr hI (by rw [if_pos hs]; exact (lv_sub hl [1, 2, 3, 4, 0] rfl))
      · have n_109 := c_109
        have c_109 := i_nlt.mp n_109
        refine lv_aload_n hx hb dX4_go_112 rfl (lv_at hl 2 rfl) ?_
        refine lv_iconst (v := 2) hx hb dX4_go_113 (by decide) ?_
        refine f_iald hx hb hG.1 hI hao hko hO (vp_in_iff.mpr ⟨by decide, by decide⟩) dX4_go_114 ?_
        refine lv_topi (fun tv etv => ?_)
        have etv : tv = ((b 5) + 1) := etv.trans rfl
        subst etv
        refine lv_bipush (v := -4) hx hb dX4_go_115 (by decide) ?_
        refine lv_icmp_ge (tgt := 135) hx hb dX4_go_117 (by decide) (fun c_117 => ?_) (fun c_117 => ?_)
        · have n_117 := i_nlt.mpr c_117
          have hp : p_head (b 5) K = b 5 + 1 := by simp [p_head, c_83]
          have hs : ¬ p_spun (p_head (b 5) K) := by rw [hp]; exact fun q => q.elim n_109 n_117
          have hO9 : E28 ko = .inl (cI, 9, .inl (sB (p_turn b K))) := hO.trans (by unfold p_turn; rw [if_neg hs, hp]; rfl)
          exact kk E28 H locs ls hO9 hfr hI (by rw [if_neg hs]; exact (lv_sub hl [0, 1, 2, 3, 4] rfl))
        · have n_117 := c_117
          have c_117 := i_nle.mp n_117
          refine lv_aload_n hx hb dX4_go_120 rfl (lv_at hl 2 rfl) ?_
          refine lv_iconst (v := 2) hx hb dX4_go_121 (by decide) ?_
          refine lv_iconst (v := 0) hx hb dX4_go_122 (by decide) ?_
          refine f_iast hx hb hG.1 hI hao hko hO (vp_in_iff.mpr ⟨by decide, by decide⟩) dX4_go_123 (fun E37 H locs hE38 hn39 hI => ?_)
          have hO : E37 ko = .inl (cI, 9, .inl (a9 (b 3) (b 4) 0 (b 6) (b 7) (if b 8 = 0 then -1 else b 9) (b 10) (b 11) (b 2))) := hE38.trans (congrArg (fun f9 => (Sum.inl (cI, 9, Sum.inl f9) : va_E)) (a9_2 (x := 0)))
          have hfr : ∀ q : Nat, q ≠ ko → E37 q = E q := fun q hq => (hn39 q (by omega)).trans (hfr q hq)
          refine lv_aload_n hx hb dX4_go_124 rfl (lv_at hl 2 rfl) ?_
          refine lv_bipush (v := 6) hx hb dX4_go_125 (by decide) ?_
          refine lv_dup2_11 hx hb dX4_go_127 rfl rfl ?_
          refine f_iald hx hb hG.1 hI hao hko hO (vp_in_iff.mpr ⟨by decide, by decide⟩) dX4_go_128 ?_
          refine lv_topi (fun tv etv => ?_)
          have etv : tv = (b 10) := etv.trans rfl
          subst etv
          refine lv_iconst (v := 1) hx hb dX4_go_129 (by decide) ?_
          refine lv_iadd hx hb dX4_go_130 ?_
          refine f_iast hx hb hG.1 hI hao hko hO (vp_in_iff.mpr ⟨by decide, by decide⟩) dX4_go_131 (fun E40 H locs hE41 hn42 hI => ?_)
          have hO : E40 ko = .inl (cI, 9, .inl (a9 (b 3) (b 4) 0 (b 6) (b 7) (if b 8 = 0 then -1 else b 9) ((b 10) + 1) (b 11) (b 2))) := hE41.trans (congrArg (fun f9 => (Sum.inl (cI, 9, Sum.inl f9) : va_E)) (a9_6 (x := ((b 10) + 1))))
          have hfr : ∀ q : Nat, q ≠ ko → E40 q = E q := fun q hq => (hn42 q (by omega)).trans (hfr q hq)
          refine lv_iconst (v := 0) hx hb dX4_go_132 (by decide) ?_
          refine lv_istore (lv' := [(4, .int 0), (0, .ref (ad 50)), (1, .int bi), (2, .ref ao), (3, .int K)]) hx hb dX4_go_133 hl (by decide) rfl (fun ls hl => ?_)
          have hp : p_head (b 5) K = b 5 + 1 := by simp [p_head, c_83]
          have hs : p_spun (p_head (b 5) K) := by rw [hp]; exact Or.inr c_117
          have hO9 : E40 ko = .inl (cI, 9, .inl (sB (p_turn b K))) := hO.trans (by unfold p_turn; rw [if_pos hs]; rfl)
          exact kk E40 H locs ls hO9 hfr hI (by rw [if_pos hs]; exact (lv_sub hl [1, 2, 3, 4, 0] rfl))
    · refine lv_aload_n hx hb dX4_go_98 rfl (lv_at hl 2 rfl) ?_
      refine lv_iconst (v := 2) hx hb dX4_go_99 (by decide) ?_
      refine lv_dup2_11 hx hb dX4_go_100 rfl rfl ?_
      refine f_iald hx hb hG.1 hI hao hko hO (vp_in_iff.mpr ⟨by decide, by decide⟩) dX4_go_101 ?_
      refine lv_topi (fun tv etv => ?_)
      have etv : tv = ((b 5) + 1) := etv.trans rfl
      subst etv
      refine lv_iconst (v := 1) hx hb dX4_go_102 (by decide) ?_
      refine lv_isub hx hb dX4_go_103 ?_
      refine f_iast hx hb hG.1 hI hao hko hO (vp_in_iff.mpr ⟨by decide, by decide⟩) dX4_go_104 (fun E43 H locs hE44 hn45 hI => ?_)
      have hO : E43 ko = .inl (cI, 9, .inl (a9 (b 3) (b 4) (((b 5) + 1) - 1) (b 6) (b 7) (if b 8 = 0 then -1 else b 9) (b 10) (b 11) (b 2))) := hE44.trans (congrArg (fun f9 => (Sum.inl (cI, 9, Sum.inl f9) : va_E)) (a9_2 (x := (((b 5) + 1) - 1))))
      have hfr : ∀ q : Nat, q ≠ ko → E43 q = E q := fun q hq => (hn45 q (by omega)).trans (hfr q hq)
      refine lv_aload_n hx hb dX4_go_105 rfl (lv_at hl 2 rfl) ?_
      refine lv_iconst (v := 2) hx hb dX4_go_106 (by decide) ?_
      refine f_iald hx hb hG.1 hI hao hko hO (vp_in_iff.mpr ⟨by decide, by decide⟩) dX4_go_107 ?_
      refine lv_topi (fun tv etv => ?_)
      have etv : tv = (((b 5) + 1) - 1) := etv.trans rfl
      subst etv
      refine lv_iconst (v := 4) hx hb dX4_go_108 (by decide) ?_
      refine lv_icmp_gt (tgt := 120) hx hb dX4_go_109 (by decide) (fun c_109 => ?_) (fun c_109 => ?_)
      · have n_109 := i_nle.mpr c_109
        refine lv_aload_n hx hb dX4_go_120 rfl (lv_at hl 2 rfl) ?_
        refine lv_iconst (v := 2) hx hb dX4_go_121 (by decide) ?_
        refine lv_iconst (v := 0) hx hb dX4_go_122 (by decide) ?_
        refine f_iast hx hb hG.1 hI hao hko hO (vp_in_iff.mpr ⟨by decide, by decide⟩) dX4_go_123 (fun E46 H locs hE47 hn48 hI => ?_)
        have hO : E46 ko = .inl (cI, 9, .inl (a9 (b 3) (b 4) 0 (b 6) (b 7) (if b 8 = 0 then -1 else b 9) (b 10) (b 11) (b 2))) := hE47.trans (congrArg (fun f9 => (Sum.inl (cI, 9, Sum.inl f9) : va_E)) (a9_2 (x := 0)))
        have hfr : ∀ q : Nat, q ≠ ko → E46 q = E q := fun q hq => (hn48 q (by omega)).trans (hfr q hq)
        refine lv_aload_n hx hb dX4_go_124 rfl (lv_at hl 2 rfl) ?_
        refine lv_bipush (v := 6) hx hb dX4_go_125 (by decide) ?_
        refine lv_dup2_11 hx hb dX4_go_127 rfl rfl ?_
        refine f_iald hx hb hG.1 hI hao hko hO (vp_in_iff.mpr ⟨by decide, by decide⟩) dX4_go_128 ?_
        refine lv_topi (fun tv etv => ?_)
        have etv : tv = (b 10) := etv.trans rfl
        subst etv
        refine lv_iconst (v := 1) hx hb dX4_go_129 (by decide) ?_
        refine lv_iadd hx hb dX4_go_130 ?_
        refine f_iast hx hb hG.1 hI hao hko hO (vp_in_iff.mpr ⟨by decide, by decide⟩) dX4_go_131 (fun E49 H locs hE50 hn51 hI => ?_)
        have hO : E49 ko = .inl (cI, 9, .inl (a9 (b 3) (b 4) 0 (b 6) (b 7) (if b 8 = 0 then -1 else b 9) ((b 10) + 1) (b 11) (b 2))) := hE50.trans (congrArg (fun f9 => (Sum.inl (cI, 9, Sum.inl f9) : va_E)) (a9_6 (x := ((b 10) + 1))))
        have hfr : ∀ q : Nat, q ≠ ko → E49 q = E q := fun q hq => (hn51 q (by omega)).trans (hfr q hq)
        refine lv_iconst (v := 0) hx hb dX4_go_132 (by decide) ?_
        refine lv_istore (lv' := [(4, .int 0), (0, .ref (ad 50)), (1, .int bi), (2, .ref ao), (3, .int K)]) hx hb dX4_go_133 hl (by decide) rfl (fun ls hl => ?_)
        exact absurd (c_83.symm.trans c_95) (by decide)
      · have n_109 := c_109
        have c_109 := i_nlt.mp n_109
        refine lv_aload_n hx hb dX4_go_112 rfl (lv_at hl 2 rfl) ?_
        refine lv_iconst (v := 2) hx hb dX4_go_113 (by decide) ?_
        refine f_iald hx hb hG.1 hI hao hko hO (vp_in_iff.mpr ⟨by decide, by decide⟩) dX4_go_114 ?_
        refine lv_topi (fun tv etv => ?_)
        have etv : tv = (((b 5) + 1) - 1) := etv.trans rfl
        subst etv
        refine lv_bipush (v := -4) hx hb dX4_go_115 (by decide) ?_
        refine lv_icmp_ge (tgt := 135) hx hb dX4_go_117 (by decide) (fun c_117 => ?_) (fun c_117 => ?_)
        · have n_117 := i_nlt.mpr c_117
          exact absurd (c_83.symm.trans c_95) (by decide)
        · have n_117 := c_117
          have c_117 := i_nle.mp n_117
          refine lv_aload_n hx hb dX4_go_120 rfl (lv_at hl 2 rfl) ?_
          refine lv_iconst (v := 2) hx hb dX4_go_121 (by decide) ?_
          refine lv_iconst (v := 0) hx hb dX4_go_122 (by decide) ?_
          refine f_iast hx hb hG.1 hI hao hko hO (vp_in_iff.mpr ⟨by decide, by decide⟩) dX4_go_123 (fun E52 H locs hE53 hn54 hI => ?_)
          have hO : E52 ko = .inl (cI, 9, .inl (a9 (b 3) (b 4) 0 (b 6) (b 7) (if b 8 = 0 then -1 else b 9) (b 10) (b 11) (b 2))) := hE53.trans (congrArg (fun f9 => (Sum.inl (cI, 9, Sum.inl f9) : va_E)) (a9_2 (x := 0)))
          have hfr : ∀ q : Nat, q ≠ ko → E52 q = E q := fun q hq => (hn54 q (by omega)).trans (hfr q hq)
          refine lv_aload_n hx hb dX4_go_124 rfl (lv_at hl 2 rfl) ?_
          refine lv_bipush (v := 6) hx hb dX4_go_125 (by decide) ?_
          refine lv_dup2_11 hx hb dX4_go_127 rfl rfl ?_
          refine f_iald hx hb hG.1 hI hao hko hO (vp_in_iff.mpr ⟨by decide, by decide⟩) dX4_go_128 ?_
          refine lv_topi (fun tv etv => ?_)
          have etv : tv = (b 10) := etv.trans rfl
          subst etv
          refine lv_iconst (v := 1) hx hb dX4_go_129 (by decide) ?_
          refine lv_iadd hx hb dX4_go_130 ?_
          refine f_iast hx hb hG.1 hI hao hko hO (vp_in_iff.mpr ⟨by decide, by decide⟩) dX4_go_131 (fun E55 H locs hE56 hn57 hI => ?_)
          have hO : E55 ko = .inl (cI, 9, .inl (a9 (b 3) (b 4) 0 (b 6) (b 7) (if b 8 = 0 then -1 else b 9) ((b 10) + 1) (b 11) (b 2))) := hE56.trans (congrArg (fun f9 => (Sum.inl (cI, 9, Sum.inl f9) : va_E)) (a9_6 (x := ((b 10) + 1))))
          have hfr : ∀ q : Nat, q ≠ ko → E55 q = E q := fun q hq => (hn57 q (by omega)).trans (hfr q hq)
          refine lv_iconst (v := 0) hx hb dX4_go_132 (by decide) ?_
          refine lv_istore (lv' := [(4, .int 0), (0, .ref (ad 50)), (1, .int bi), (2, .ref ao), (3, .int K)]) hx hb dX4_go_133 hl (by decide) rfl (fun ls hl => ?_)
          exact absurd (c_83.symm.trans c_95) (by decide)

set_option maxHeartbeats 4000000 in
set_option maxRecDepth 100000 in
theorem go_C (l : Launch) {pr : Program} {e : Env} {s : State} {m : MethodId} {args : Array Value} {below : List Frame} {meth : Method} {c : Code} {Q : State → Prop} (hx : pr.tables.exec = Jvm.exec) (hb : c.code = cX4_go) (hml : c.maxLocals = 6) (hts : ∀ w ∈ wsX4_go, w.before args s = true) (hown : s.vm.findClass RX4 = some m.cls) {D : va_G} {cI cJ cB : ClassId} {t0 z : Nat} {tx ad : Nat → Nat} {L : List Nat} (hG : fG D cI cJ cB t0 z tx s) {E : Nat → va_E} {H : Heap} {locs : List Loc} {ls : Array Slot} {ko ao : Nat} (h60 : 60 ≤ ko) (hao : ad ko = ao) (hko : ko ∈ L) {b : Nat → Int32} (hO : E ko = .inl (cI, 9, .inl (sB b))) (hl4 : p_lane (b 4)) {bi K fo : Int32} (hI : fI D (fA z) s.heap ad L E H locs) (hl : lv_has ls 6 [(0, .ref (ad 50)), (1, .int bi), (2, .ref ao), (3, .int K), (4, .int fo)]) (kk : ∀ (E1 : Nat → va_E) (H1 : Heap) (locs1 : List Loc) (ls1 : Array Slot), E1 ko = .inl (cI, 9, .inl (sB (p_drift b))) → (∀ q, q ≠ ko → E1 q = E q) → fI D (fA z) s.heap ad L E1 H1 locs1 → lv_has ls1 6 [(0, .ref (ad 50)), (1, .int bi), (2, .ref ao), (3, .int K), (4, .int fo)] → W pr l e ({ frames := 1, cells := 0, slots := 0, locals := 40 } : Room) s m args below meth c H1 locs1 0 0 Q (F0 m 196 ls1 [])) : W pr l e ({ frames := 1, cells := 0, slots := 0, locals := 40 } : Room) s m args below meth c H locs 0 0 Q (F0 m 135 ls []) := by
  have hfr : ∀ q : Nat, q ≠ ko → E q = E q := fun _ _ => rfl
  have hO : E ko = .inl (cI, 9, .inl (a9 (b 3) (b 4) (b 5) (b 6) (b 7) (if b 8 = 0 then -1 else b 9) (b 10) (b 11) (b 2))) := hO
  refine lv_aload_n hx hb dX4_go_135 rfl (lv_at hl 2 rfl) ?_
  refine lv_iconst (v := 2) hx hb dX4_go_136 (by decide) ?_
  refine f_iald hx hb hG.1 hI hao hko hO (vp_in_iff.mpr ⟨by decide, by decide⟩) dX4_go_137 ?_
  refine lv_topi (fun tv etv => ?_)
  have etv : tv = (b 5) := etv.trans rfl
  subst etv
  refine lv_iconst (v := 1) hx hb dX4_go_138 (by decide) ?_
  refine lv_icmp_le (tgt := 166) hx hb dX4_go_139 (by decide) (fun c_139 => ?_) (fun c_139 => ?_)
  · have n_139 := i_nlt.mpr c_139
    refine lv_aload_n hx hb dX4_go_166 rfl (lv_at hl 2 rfl) ?_
    refine lv_iconst (v := 2) hx hb dX4_go_167 (by decide) ?_
    refine f_iald hx hb hG.1 hI hao hko hO (vp_in_iff.mpr ⟨by decide, by decide⟩) dX4_go_168 ?_
    refine lv_topi (fun tv etv => ?_)
    have etv : tv = (b 5) := etv.trans rfl
    subst etv
    refine lv_iconst (v := -1) hx hb dX4_go_169 (by decide) ?_
    refine lv_icmp_ge (tgt := 196) hx hb dX4_go_170 (by decide) (fun c_170 => ?_) (fun c_170 => ?_)
    · have n_170 := i_nlt.mpr c_170
      have hO9 : E ko = .inl (cI, 9, .inl (sB (p_drift b))) := hO.trans (by rw [drift_non hl4 n_139 n_170]; rfl)
      exact kk E H locs ls hO9 hfr hI (lv_sub hl [0, 1, 2, 3, 4] rfl)
    · have n_170 := c_170
      have c_170 := i_nle.mp n_170
      refine lv_aload_n hx hb dX4_go_173 rfl (lv_at hl 2 rfl) ?_
      refine lv_iconst (v := 1) hx hb dX4_go_174 (by decide) ?_
      refine f_iald hx hb hG.1 hI hao hko hO (vp_in_iff.mpr ⟨by decide, by decide⟩) dX4_go_175 ?_
      refine lv_topi (fun tv etv => ?_)
      have etv : tv = (b 4) := etv.trans rfl
      subst etv
      refine lv_if_ne (tgt := 189) hx hb dX4_go_176 (by decide) (fun c_176 => ?_) (fun c_176 => ?_)
      · refine lv_aload_n hx hb dX4_go_189 rfl (lv_at hl 2 rfl) ?_
        refine lv_iconst (v := 1) hx hb dX4_go_190 (by decide) ?_
        refine lv_dup2_11 hx hb dX4_go_191 rfl rfl ?_
        refine f_iald hx hb hG.1 hI hao hko hO (vp_in_iff.mpr ⟨by decide, by decide⟩) dX4_go_192 ?_
        refine lv_topi (fun tv etv => ?_)
        have etv : tv = (b 4) := etv.trans rfl
        subst etv
        refine lv_iconst (v := 1) hx hb dX4_go_193 (by decide) ?_
        refine lv_isub hx hb dX4_go_194 ?_
        refine f_iast hx hb hG.1 hI hao hko hO (vp_in_iff.mpr ⟨by decide, by decide⟩) dX4_go_195 (fun E1 H locs hE2 hn3 hI => ?_)
        have hO : E1 ko = .inl (cI, 9, .inl (a9 (b 3) ((b 4) - 1) (b 5) (b 6) (b 7) (if b 8 = 0 then -1 else b 9) (b 10) (b 11) (b 2))) := hE2.trans (congrArg (fun f9 => (Sum.inl (cI, 9, Sum.inl f9) : va_E)) (a9_1 (x := ((b 4) - 1))))
        have hfr : ∀ q : Nat, q ≠ ko → E1 q = E q := fun q hq => (hn3 q (by omega)).trans (hfr q hq)
        have hO9 : E1 ko = .inl (cI, 9, .inl (sB (p_drift b))) := hO.trans (by rw [drift_dnn hl4 c_170 c_176]; rfl)
        exact kk E1 H locs ls hO9 hfr hI (lv_sub hl [0, 1, 2, 3, 4] rfl)
      · refine lv_aload_n hx hb dX4_go_179 rfl (lv_at hl 2 rfl) ?_
        refine lv_iconst (v := 4) hx hb dX4_go_180 (by decide) ?_
        refine lv_dup2_11 hx hb dX4_go_181 rfl rfl ?_
        refine f_iald hx hb hG.1 hI hao hko hO (vp_in_iff.mpr ⟨by decide, by decide⟩) dX4_go_182 ?_
        refine lv_topi (fun tv etv => ?_)
        have etv : tv = (b 7) := etv.trans rfl
        subst etv
        refine lv_iconst (v := 3) hx hb dX4_go_183 (by decide) ?_
        refine lv_iadd hx hb dX4_go_184 ?_
        refine f_iast hx hb hG.1 hI hao hko hO (vp_in_iff.mpr ⟨by decide, by decide⟩) dX4_go_185 (fun E4 H locs hE5 hn6 hI => ?_)
        have hO : E4 ko = .inl (cI, 9, .inl (a9 (b 3) (b 4) (b 5) (b 6) ((b 7) + 3) (if b 8 = 0 then -1 else b 9) (b 10) (b 11) (b 2))) := hE5.trans (congrArg (fun f9 => (Sum.inl (cI, 9, Sum.inl f9) : va_E)) (a9_4 (x := ((b 7) + 3))))
        have hfr : ∀ q : Nat, q ≠ ko → E4 q = E q := fun q hq => (hn6 q (by omega)).trans (hfr q hq)
        refine lv_goto (tgt := 196) hx hb dX4_go_186 (by decide) ?_
        have hO9 : E4 ko = .inl (cI, 9, .inl (sB (p_drift b))) := hO.trans (by rw [drift_dn0 hl4 c_170 c_176]; rfl)
        exact kk E4 H locs ls hO9 hfr hI (lv_sub hl [0, 1, 2, 3, 4] rfl)
  · have n_139 := c_139
    have c_139 := i_nle.mp n_139
    refine lv_aload_n hx hb dX4_go_142 rfl (lv_at hl 2 rfl) ?_
    refine lv_iconst (v := 1) hx hb dX4_go_143 (by decide) ?_
    refine f_iald hx hb hG.1 hI hao hko hO (vp_in_iff.mpr ⟨by decide, by decide⟩) dX4_go_144 ?_
    refine lv_topi (fun tv etv => ?_)
    have etv : tv = (b 4) := etv.trans rfl
    subst etv
    refine lv_iconst (v := 4) hx hb dX4_go_145 (by decide) ?_
    refine lv_icmp_ne (tgt := 159) hx hb dX4_go_146 (by decide) (fun c_146 => ?_) (fun c_146 => ?_)
    · refine lv_aload_n hx hb dX4_go_159 rfl (lv_at hl 2 rfl) ?_
      refine lv_iconst (v := 1) hx hb dX4_go_160 (by decide) ?_
      refine lv_dup2_11 hx hb dX4_go_161 rfl rfl ?_
      refine f_iald hx hb hG.1 hI hao hko hO (vp_in_iff.mpr ⟨by decide, by decide⟩) dX4_go_162 ?_
      refine lv_topi (fun tv etv => ?_)
      have etv : tv = (b 4) := etv.trans rfl
      subst etv
      refine lv_iconst (v := 1) hx hb dX4_go_163 (by decide) ?_
      refine lv_iadd hx hb dX4_go_164 ?_
      refine f_iast hx hb hG.1 hI hao hko hO (vp_in_iff.mpr ⟨by decide, by decide⟩) dX4_go_165 (fun E7 H locs hE8 hn9 hI => ?_)
      have hO : E7 ko = .inl (cI, 9, .inl (a9 (b 3) ((b 4) + 1) (b 5) (b 6) (b 7) (if b 8 = 0 then -1 else b 9) (b 10) (b 11) (b 2))) := hE8.trans (congrArg (fun f9 => (Sum.inl (cI, 9, Sum.inl f9) : va_E)) (a9_1 (x := ((b 4) + 1))))
      have hfr : ∀ q : Nat, q ≠ ko → E7 q = E q := fun q hq => (hn9 q (by omega)).trans (hfr q hq)
      refine lv_aload_n hx hb dX4_go_166 rfl (lv_at hl 2 rfl) ?_
      refine lv_iconst (v := 2) hx hb dX4_go_167 (by decide) ?_
      refine f_iald hx hb hG.1 hI hao hko hO (vp_in_iff.mpr ⟨by decide, by decide⟩) dX4_go_168 ?_
      refine lv_topi (fun tv etv => ?_)
      have etv : tv = (b 5) := etv.trans rfl
      subst etv
      refine lv_iconst (v := -1) hx hb dX4_go_169 (by decide) ?_
      refine lv_icmp_ge (tgt := 196) hx hb dX4_go_170 (by decide) (fun c_170 => ?_) (fun c_170 => ?_)
      · have n_170 := i_nlt.mpr c_170
        have hO9 : E7 ko = .inl (cI, 9, .inl (sB (p_drift b))) := hO.trans (by rw [drift_upn hl4 c_139 c_146]; rfl)
        exact kk E7 H locs ls hO9 hfr hI (lv_sub hl [0, 1, 2, 3, 4] rfl)
      · exact (not_both c_139 (i_nle.mp c_170)).elim
    · refine lv_aload_n hx hb dX4_go_149 rfl (lv_at hl 2 rfl) ?_
      refine lv_iconst (v := 4) hx hb dX4_go_150 (by decide) ?_
      refine lv_dup2_11 hx hb dX4_go_151 rfl rfl ?_
      refine f_iald hx hb hG.1 hI hao hko hO (vp_in_iff.mpr ⟨by decide, by decide⟩) dX4_go_152 ?_
      refine lv_topi (fun tv etv => ?_)
      have etv : tv = (b 7) := etv.trans rfl
      subst etv
      refine lv_iconst (v := 3) hx hb dX4_go_153 (by decide) ?_
      refine lv_iadd hx hb dX4_go_154 ?_
      refine f_iast hx hb hG.1 hI hao hko hO (vp_in_iff.mpr ⟨by decide, by decide⟩) dX4_go_155 (fun E10 H locs hE11 hn12 hI => ?_)
      have hO : E10 ko = .inl (cI, 9, .inl (a9 (b 3) (b 4) (b 5) (b 6) ((b 7) + 3) (if b 8 = 0 then -1 else b 9) (b 10) (b 11) (b 2))) := hE11.trans (congrArg (fun f9 => (Sum.inl (cI, 9, Sum.inl f9) : va_E)) (a9_4 (x := ((b 7) + 3))))
      have hfr : ∀ q : Nat, q ≠ ko → E10 q = E q := fun q hq => (hn12 q (by omega)).trans (hfr q hq)
      refine lv_goto (tgt := 166) hx hb dX4_go_156 (by decide) ?_
      refine lv_aload_n hx hb dX4_go_166 rfl (lv_at hl 2 rfl) ?_
      refine lv_iconst (v := 2) hx hb dX4_go_167 (by decide) ?_
      refine f_iald hx hb hG.1 hI hao hko hO (vp_in_iff.mpr ⟨by decide, by decide⟩) dX4_go_168 ?_
      refine lv_topi (fun tv etv => ?_)
      have etv : tv = (b 5) := etv.trans rfl
      subst etv
      refine lv_iconst (v := -1) hx hb dX4_go_169 (by decide) ?_
      refine lv_icmp_ge (tgt := 196) hx hb dX4_go_170 (by decide) (fun c_170 => ?_) (fun c_170 => ?_)
      · have n_170 := i_nlt.mpr c_170
        have hO9 : E10 ko = .inl (cI, 9, .inl (sB (p_drift b))) := hO.trans (by rw [drift_up4 hl4 c_139 c_146]; rfl)
        exact kk E10 H locs ls hO9 hfr hI (lv_sub hl [0, 1, 2, 3, 4] rfl)
      · exact (not_both c_139 (i_nle.mp c_170)).elim

set_option maxHeartbeats 4000000 in
set_option maxRecDepth 100000 in
theorem go_D (l : Launch) {pr : Program} {e : Env} {s : State} {m : MethodId} {args : Array Value} {below : List Frame} {meth : Method} {c : Code} {Q : State → Prop} (hx : pr.tables.exec = Jvm.exec) (hb : c.code = cX4_go) (hml : c.maxLocals = 6) (hts : ∀ w ∈ wsX4_go, w.before args s = true) (hown : s.vm.findClass RX4 = some m.cls) {D : va_G} {cI cJ cB : ClassId} {t0 z : Nat} {tx ad : Nat → Nat} {L : List Nat} (hG : fG D cI cJ cB t0 z tx s) {E : Nat → va_E} {H : Heap} {locs : List Loc} {ls : Array Slot} {w p g : Nat → Int32} {nw T : Nat} (h50 : 50 ∈ L) (hS50 : E 50 = sE ad T nw) (h51 : 51 ∈ L) (hS51 : E 51 = .inl (cI, 5, .inl w)) {ko ao : Nat} (h60 : 60 ≤ ko) (hao : ad ko = ao) (hko : ko ∈ L) {b : Nat → Int32} (hO : E ko = .inl (cI, 9, .inl (sB b))) (hl4 : p_lane (b 4)) {bi K fo : Int32} (hI : fI D (fA z) s.heap ad L E H locs) (hl : lv_has ls 6 [(0, .ref (ad 50)), (1, .int bi), (2, .ref ao), (3, .int K), (4, .int fo)]) (kk : ∀ (ls1 : Array Slot), lv_has ls1 6 [(0, .ref (ad 50)), (1, .int bi), (2, .ref ao), (5, .int (p_way w b fo))] → W pr l e ({ frames := 1, cells := 0, slots := 0, locals := 40 } : Room) s m args below meth c H locs 0 0 Q (F0 m 220 ls1 [])) : W pr l e ({ frames := 1, cells := 0, slots := 0, locals := 40 } : Room) s m args below meth c H locs 0 0 Q (F0 m 196 ls []) := by
  have hO : E ko = .inl (cI, 9, .inl (a9 (b 3) (b 4) (b 5) (b 6) (b 7) (if b 8 = 0 then -1 else b 9) (b 10) (b 11) (b 2))) := hO
  have hS50 : E 50 = .inr (4, [.int (nI T), .ref (ad 51), .ref (ad 52), .int (nI nw), .ref (ad 53), .ref (ad 54)]) := hS50
  have hS51 : E 51 = .inl (cI, 5, .inl w) := hS51
  refine lv_iload hx hb dX4_go_196 (lv_at hl 4 rfl) ?_
  refine lv_iconst (v := 4) hx hb dX4_go_198 (by decide) ?_
  refine lv_aload_n hx hb dX4_go_199 rfl (lv_at hl 2 rfl) ?_
  refine lv_iconst (v := 2) hx hb dX4_go_200 (by decide) ?_
  refine f_iald hx hb hG.1 hI hao hko hO (vp_in_iff.mpr ⟨by decide, by decide⟩) dX4_go_201 ?_
  refine lv_topi (fun tv etv => ?_)
  have etv : tv = (b 5) := etv.trans rfl
  subst etv
  refine va_mabs hx hb (hml.trans hl.1.symm) hown (hts (.methodLink RX4 34 Lib.Math.abs.name) (by decide +kernel)) (hts (.static Lib.Math.abs.name) (by decide +kernel)) (hts (.initialized "java/lang/Math") (by decide +kernel)) (hts (.code Lib.Math.abs.name Lib.Math.abs.code 1 (some .int)) (by decide +kernel)) (Nat.le_of_ble_eq_true rfl) (Nat.le_of_ble_eq_true rfl) (Nat.zero_le _) (Nat.zero_le _) dX4_go_202 ?_
  refine lv_isub hx hb dX4_go_205 ?_
  refine lv_imul hx hb dX4_go_206 ?_
  refine lv_iconst (v := 4) hx hb dX4_go_207 (by decide) ?_
  refine lv_idiv hx hb dX4_go_208 (by decide) ?_
  refine lv_aload_n hx hb dX4_go_209 rfl (lv_at hl 0 rfl) ?_
  refine f_get (ci := 4) (v := .ref (ad 51)) (C := RX4) (T := TX4) (N := 6) hx hb hts (by decide +kernel) hown hG.1 hI rfl h50 hS50 rfl 1 (by decide) (hts (.fieldLink RX4 7 "CoracleRaceLaw$Sim" "water" "[I") (by decide +kernel)) rfl dX4_go_210 ?_
  refine lv_aload_n hx hb dX4_go_213 rfl (lv_at hl 2 rfl) ?_
  refine lv_iconst (v := 1) hx hb dX4_go_214 (by decide) ?_
  refine f_iald hx hb hG.1 hI hao hko hO (vp_in_iff.mpr ⟨by decide, by decide⟩) dX4_go_215 ?_
  refine lv_topi (fun tv etv => ?_)
  have etv : tv = (b 4) := etv.trans rfl
  subst etv
  refine f_iald hx hb hG.1 hI rfl h51 hS51 (lane_ix hl4) dX4_go_216 ?_
  refine lv_iadd hx hb dX4_go_217 ?_
  refine lv_topi (fun tv etv => ?_)
  have etv : tv = (p_way w b fo) := etv.trans (rfl)
  subst etv
  refine lv_istore (lv' := [(5, .int (p_way w b fo)), (0, .ref (ad 50)), (1, .int bi), (2, .ref ao), (3, .int K), (4, .int fo)]) hx hb dX4_go_218 hl (by decide) rfl (fun ls hl => ?_)
  exact kk ls (lv_sub hl [1, 2, 3, 0] rfl)

set_option maxHeartbeats 4000000 in
set_option maxRecDepth 100000 in
theorem go_E (l : Launch) {pr : Program} {e : Env} {s : State} {m : MethodId} {args : Array Value} {below : List Frame} {meth : Method} {c : Code} {Q : State → Prop} (hx : pr.tables.exec = Jvm.exec) (hb : c.code = cX4_go) (hml : c.maxLocals = 6) (hts : ∀ w ∈ wsX4_go, w.before args s = true) (hown : s.vm.findClass RX4 = some m.cls) {D : va_G} {cI cJ cB : ClassId} {t0 z : Nat} {tx ad : Nat → Nat} {L : List Nat} (hG : fG D cI cJ cB t0 z tx s) {E : Nat → va_E} {H : Heap} {locs : List Loc} {ls : Array Slot} {w p g : Nat → Int32} {nw T : Nat} (h50 : 50 ∈ L) (hS50 : E 50 = sE ad T nw) (h52 : 52 ∈ L) (hS52 : E 52 = .inl (cI, 201, .inl (vW p g nw))) {ko ao : Nat} (h60 : 60 ≤ ko) (hao : ad ko = ao) (hko : ko ∈ L) {b : Nat → Int32} (hO : E ko = .inl (cI, 9, .inl (sB b))) (hv : okv w p g nw) (hl4 : p_lane (b 4)) (h6 : 0 ≤ b 6 ∧ b 6 ≤ 30) {P Wn : Nat} {fo bi : Int32} (hP : b 3 = nI P) (hP200 : P ≤ 200) (hWy : p_way w b fo = nI Wn) (hW15 : Wn < 15) (hI : fI D (fA z) s.heap ad L E H locs) (hl : lv_has ls 6 [(0, .ref (ad 50)), (1, .int bi), (2, .ref ao), (5, .int (p_way w b fo))]) (kk : ∀ (E1 : Nat → va_E) (H1 : Heap) (locs1 : List Loc) (ls1 : Array Slot), E1 ko = .inl (cI, 9, .inl (sB (p_adv w p g nw b fo))) → (∀ q, q ≠ ko → E1 q = E q) → fI D (fA z) s.heap ad L E1 H1 locs1 → lv_has ls1 6 [(0, .ref (ad 50)), (1, .int bi), (2, .ref ao)] → W pr l e ({ frames := 1, cells := 0, slots := 0, locals := 40 } : Room) s m args below meth c H1 locs1 0 0 Q (F0 m 303 ls1 [])) : W pr l e ({ frames := 1, cells := 0, slots := 0, locals := 40 } : Room) s m args below meth c H locs 0 0 Q (F0 m 220 ls []) := by
  have hfr : ∀ q : Nat, q ≠ ko → E q = E q := fun _ _ => rfl
  have hO : E ko = .inl (cI, 9, .inl (a9 (b 3) (b 4) (b 5) (b 6) (b 7) (if b 8 = 0 then -1 else b 9) (b 10) (b 11) (b 2))) := hO
  have hS50 : E 50 = .inr (4, [.int (nI T), .ref (ad 51), .ref (ad 52), .int (nI nw), .ref (ad 53), .ref (ad 54)]) := hS50
  have hS52 : E 52 = .inl (cI, 201, .inl (vW p g nw)) := hS52
  have K9 : ∀ (d k : Nat), Wn < k + d → k ≤ Wn → P + k ≤ 200 → (∀ q, P < q → q ≤ P + k → ¬ vW p g nw q < 0 → vW p g nw q = b 4) → ∀ (Ea : Nat → va_E) (H : Heap) (locs : List Loc) (ls : Array Slot), Ea ko = .inl (cI, 9, .inl (a9 (nI (P + k)) (b 4) (b 5) (b 6) (b 7) (if b 8 = 0 then -1 else b 9) (b 10) (b 11) (b 2))) → (∀ q, q ≠ ko → Ea q = E q) → fI D (fA z) s.heap ad L Ea H locs → lv_has ls 6 [(0, .ref (ad 50)), (1, .int bi), (2, .ref ao), (5, .int (nI (Wn - k)))] → W pr l e ({ frames := 1, cells := 0, slots := 0, locals := 40 } : Room) s m args below meth c H locs 0 0 Q (F0 m 220 ls []) := by
    intro d
    induction d with
    | zero => intro k h1 h2; exact absurd h1 (by omega)
    | succ d ih =>
      intro k hdk hkW h200 hno Ea H locs ls hO hfr hI hl
      have hS50 : Ea 50 = .inr (4, [.int (nI T), .ref (ad 51), .ref (ad 52), .int (nI nw), .ref (ad 53), .ref (ad 54)]) := (hfr 50 (by omega)).trans hS50
      have hS52 : Ea 52 = .inl (cI, 201, .inl (vW p g nw)) := (hfr 52 (by omega)).trans hS52
      refine lv_iload hx hb dX4_go_220 (lv_at hl 3 rfl) ?_
      refine lv_if_le (tgt := 303) hx hb dX4_go_222 (by decide) (fun c_222 => ?_) (fun c_222 => ?_)
      · have n_222 := i_nlt.mpr c_222
        have hend : k = Wn ∨ P + k = 200 := Or.inl (by have := (nI_leI (by omega) (by omega) (b := 0)).mp c_222; omega)
        have hO9 : Ea ko = .inl (cI, 9, .inl (sB (p_adv w p g nw b fo))) := hO.trans (by rw [adv_walk hv hl4 hP hWy hW15 h200 hkW hend hno]; rfl)
        exact kk Ea H locs ls hO9 hfr hI (lv_sub hl [0, 1, 2] rfl)
      · have n_222 := c_222
        have c_222 := i_nle.mp n_222
        have hk1 : k + 1 ≤ Wn := by have := (nI_ltI (by omega) (by omega) (a := 0)).mp c_222; omega
        refine lv_aload_n hx hb dX4_go_225 rfl (lv_at hl 2 rfl) ?_
        refine lv_iconst (v := 0) hx hb dX4_go_226 (by decide) ?_
        refine f_iald hx hb hG.1 hI hao hko hO (vp_in_iff.mpr ⟨by decide, by decide⟩) dX4_go_227 ?_
        refine lv_topi (fun tv etv => ?_)
        have etv : tv = (nI (P + k)) := etv.trans rfl
        subst etv
        refine lv_sipush (v := 200) hx hb dX4_go_228 (by decide) ?_
        refine lv_icmp_ge (tgt := 303) hx hb dX4_go_231 (by decide) (fun c_231 => ?_) (fun c_231 => ?_)
        · have n_231 := i_nlt.mpr c_231
          have hend : k = Wn ∨ P + k = 200 := Or.inr (by have := (nI_leI (by omega) (by omega) (a := 200)).mp c_231; omega)
          have hO9 : Ea ko = .inl (cI, 9, .inl (sB (p_adv w p g nw b fo))) := hO.trans (by rw [adv_walk hv hl4 hP hWy hW15 h200 hkW hend hno]; rfl)
          exact kk Ea H locs ls hO9 hfr hI (lv_sub hl [0, 1, 2] rfl)
        · have n_231 := c_231
          have c_231 := i_nle.mp n_231
          have hP2 : P + k < 200 := (nI_ltI (by omega) (by omega) (b := 200)).mp c_231
          refine lv_aload_n hx hb dX4_go_234 rfl (lv_at hl 2 rfl) ?_
          refine lv_iconst (v := 0) hx hb dX4_go_235 (by decide) ?_
          refine lv_dup2_11 hx hb dX4_go_236 rfl rfl ?_
          refine f_iald hx hb hG.1 hI hao hko hO (vp_in_iff.mpr ⟨by decide, by decide⟩) dX4_go_237 ?_
          refine lv_topi (fun tv etv => ?_)
          have etv : tv = (nI (P + k)) := etv.trans rfl
          subst etv
          refine lv_iconst (v := 1) hx hb dX4_go_238 (by decide) ?_
          refine lv_iadd hx hb dX4_go_239 ?_
          refine lv_topi (fun tv etv => ?_)
          have etv : tv = (nI (P + k + 1)) := etv.trans (nI_1 (P + k))
          subst etv
          refine f_iast hx hb hG.1 hI hao hko hO (vp_in_iff.mpr ⟨by decide, by decide⟩) dX4_go_240 (fun E1 H locs hE2 hn3 hI => ?_)
          have hO : E1 ko = .inl (cI, 9, .inl (a9 (nI (P + k + 1)) (b 4) (b 5) (b 6) (b 7) (if b 8 = 0 then -1 else b 9) (b 10) (b 11) (b 2))) := hE2.trans (congrArg (fun f9 => (Sum.inl (cI, 9, Sum.inl f9) : va_E)) (a9_0 (x := (nI (P + k + 1)))))
          have hS50 : E1 50 = .inr (4, [.int (nI T), .ref (ad 51), .ref (ad 52), .int (nI nw), .ref (ad 53), .ref (ad 54)]) := (hn3 50 (by omega)).trans hS50
          have hS52 : E1 52 = .inl (cI, 201, .inl (vW p g nw)) := (hn3 52 (by omega)).trans hS52
          have hfr : ∀ q : Nat, q ≠ ko → E1 q = E q := fun q hq => (hn3 q (by omega)).trans (hfr q hq)
          refine lv_iinc (v := (nI (Wn - (k + 1)))) (lv' := [(5, .int (nI (Wn - (k + 1)))), (0, .ref (ad 50)), (1, .int bi), (2, .ref ao)]) hx hb dX4_go_241 hl (k := 3) rfl (dec1 hk1) (by decide) rfl (fun ls hl => ?_)
          refine lv_aload_n hx hb dX4_go_244 rfl (lv_at hl 1 rfl) ?_
          refine f_get (ci := 4) (v := .ref (ad 52)) (C := RX4) (T := TX4) (N := 6) hx hb hts (by decide +kernel) hown hG.1 hI rfl h50 hS50 rfl 2 (by decide) (hts (.fieldLink RX4 13 "CoracleRaceLaw$Sim" "weirs" "[I") (by decide +kernel)) rfl dX4_go_245 ?_
          refine lv_aload_n hx hb dX4_go_248 rfl (lv_at hl 3 rfl) ?_
          refine lv_iconst (v := 0) hx hb dX4_go_249 (by decide) ?_
          refine f_iald hx hb hG.1 hI hao hko hO (vp_in_iff.mpr ⟨by decide, by decide⟩) dX4_go_250 ?_
          refine lv_topi (fun tv etv => ?_)
          have etv : tv = (nI (P + k + 1)) := etv.trans rfl
          subst etv
          refine f_iald hx hb hG.1 hI rfl h52 hS52 (vp_in_nI (by omega) (by omega)) dX4_go_251 ?_
          rw [show (nI (P + k + 1)).toNatClampNeg = P + k + 1 from nI_clamp (by omega)]
          refine lv_if_lt (tgt := 220) hx hb dX4_go_252 (by decide) (fun c_252 => ?_) (fun c_252 => ?_)
          · have n_252 := i_nle.mpr c_252
            have hno1 : ∀ q, P < q → q ≤ P + (k + 1) → ¬ vW p g nw q < 0 → vW p g nw q = b 4 := fun q h1 h2 h3 => by
              by_cases hq : q = P + k + 1
              · rw [hq] at h3; exact absurd c_252 h3
              · exact hno q h1 (by omega) h3
            exact ih (k + 1) (by omega) hk1 (by omega) hno1 E1 H locs ls hO hfr hI (lv_sub hl [1, 2, 3, 0] rfl)
          · have n_252 := c_252
            have c_252 := i_nlt.mp n_252
            refine lv_aload_n hx hb dX4_go_255 rfl (lv_at hl 1 rfl) ?_
            refine f_get (ci := 4) (v := .ref (ad 52)) (C := RX4) (T := TX4) (N := 6) hx hb hts (by decide +kernel) hown hG.1 hI rfl h50 hS50 rfl 2 (by decide) (hts (.fieldLink RX4 13 "CoracleRaceLaw$Sim" "weirs" "[I") (by decide +kernel)) rfl dX4_go_256 ?_
            refine lv_aload_n hx hb dX4_go_259 rfl (lv_at hl 3 rfl) ?_
            refine lv_iconst (v := 0) hx hb dX4_go_260 (by decide) ?_
            refine f_iald hx hb hG.1 hI hao hko hO (vp_in_iff.mpr ⟨by decide, by decide⟩) dX4_go_261 ?_
            refine lv_topi (fun tv etv => ?_)
            have etv : tv = (nI (P + k + 1)) := etv.trans rfl
            subst etv
            refine f_iald hx hb hG.1 hI rfl h52 hS52 (vp_in_nI (by omega) (by omega)) dX4_go_262 ?_
            rw [show (nI (P + k + 1)).toNatClampNeg = P + k + 1 from nI_clamp (by omega)]
            refine lv_aload_n hx hb dX4_go_263 rfl (lv_at hl 3 rfl) ?_
            refine lv_iconst (v := 1) hx hb dX4_go_264 (by decide) ?_
            refine f_iald hx hb hG.1 hI hao hko hO (vp_in_iff.mpr ⟨by decide, by decide⟩) dX4_go_265 ?_
            refine lv_topi (fun tv etv => ?_)
            have etv : tv = (b 4) := etv.trans rfl
            subst etv
            refine lv_icmp_ne (tgt := 272) hx hb dX4_go_266 (by decide) (fun c_266 => ?_) (fun c_266 => ?_)
            · refine lv_iconst (v := 0) hx hb dX4_go_272 (by decide) ?_
              refine lv_istore (lv' := [(5, .int 0), (0, .ref (ad 50)), (1, .int bi), (2, .ref ao)]) hx hb dX4_go_273 hl (by decide) rfl (fun ls hl => ?_)
              refine lv_aload_n hx hb dX4_go_275 rfl (lv_at hl 3 rfl) ?_
              refine lv_iconst (v := 2) hx hb dX4_go_276 (by decide) ?_
              refine lv_iconst (v := 0) hx hb dX4_go_277 (by decide) ?_
              refine f_iast hx hb hG.1 hI hao hko hO (vp_in_iff.mpr ⟨by decide, by decide⟩) dX4_go_278 (fun E4 H locs hE5 hn6 hI => ?_)
              have hO : E4 ko = .inl (cI, 9, .inl (a9 (nI (P + k + 1)) (b 4) 0 (b 6) (b 7) (if b 8 = 0 then -1 else b 9) (b 10) (b 11) (b 2))) := hE5.trans (congrArg (fun f9 => (Sum.inl (cI, 9, Sum.inl f9) : va_E)) (a9_2 (x := 0)))
              have hS50 : E4 50 = .inr (4, [.int (nI T), .ref (ad 51), .ref (ad 52), .int (nI nw), .ref (ad 53), .ref (ad 54)]) := (hn6 50 (by omega)).trans hS50
              have hS52 : E4 52 = .inl (cI, 201, .inl (vW p g nw)) := (hn6 52 (by omega)).trans hS52
              have hfr : ∀ q : Nat, q ≠ ko → E4 q = E q := fun q hq => (hn6 q (by omega)).trans (hfr q hq)
              refine lv_aload_n hx hb dX4_go_279 rfl (lv_at hl 3 rfl) ?_
              refine lv_bipush (v := 7) hx hb dX4_go_280 (by decide) ?_
              refine lv_dup2_11 hx hb dX4_go_282 rfl rfl ?_
              refine f_iald hx hb hG.1 hI hao hko hO (vp_in_iff.mpr ⟨by decide, by decide⟩) dX4_go_283 ?_
              refine lv_topi (fun tv etv => ?_)
              have etv : tv = (b 11) := etv.trans rfl
              subst etv
              refine lv_iconst (v := 1) hx hb dX4_go_284 (by decide) ?_
              refine lv_iadd hx hb dX4_go_285 ?_
              refine f_iast hx hb hG.1 hI hao hko hO (vp_in_iff.mpr ⟨by decide, by decide⟩) dX4_go_286 (fun E7 H locs hE8 hn9 hI => ?_)
              have hO : E7 ko = .inl (cI, 9, .inl (a9 (nI (P + k + 1)) (b 4) 0 (b 6) (b 7) (if b 8 = 0 then -1 else b 9) (b 10) ((b 11) + 1) (b 2))) := hE8.trans (congrArg (fun f9 => (Sum.inl (cI, 9, Sum.inl f9) : va_E)) (a9_7 (x := ((b 11) + 1))))
              have hS50 : E7 50 = .inr (4, [.int (nI T), .ref (ad 51), .ref (ad 52), .int (nI nw), .ref (ad 53), .ref (ad 54)]) := (hn9 50 (by omega)).trans hS50
              have hS52 : E7 52 = .inl (cI, 201, .inl (vW p g nw)) := (hn9 52 (by omega)).trans hS52
              have hfr : ∀ q : Nat, q ≠ ko → E7 q = E q := fun q hq => (hn9 q (by omega)).trans (hfr q hq)
              refine lv_aload_n hx hb dX4_go_287 rfl (lv_at hl 3 rfl) ?_
              refine lv_iconst (v := 3) hx hb dX4_go_288 (by decide) ?_
              refine lv_bipush (v := 30) hx hb dX4_go_289 (by decide) ?_
              refine lv_aload_n hx hb dX4_go_291 rfl (lv_at hl 3 rfl) ?_
              refine lv_iconst (v := 3) hx hb dX4_go_292 (by decide) ?_
              refine f_iald hx hb hG.1 hI hao hko hO (vp_in_iff.mpr ⟨by decide, by decide⟩) dX4_go_293 ?_
              refine lv_topi (fun tv etv => ?_)
              have etv : tv = (b 6) := etv.trans rfl
              subst etv
              refine lv_iconst (v := 5) hx hb dX4_go_294 (by decide) ?_
              refine lv_iadd hx hb dX4_go_295 ?_
              refine va_mmin hx hb (hml.trans hl.1.symm) hown (hts (.methodLink RX4 40 Lib.Math.min.name) (by decide +kernel)) (hts (.static Lib.Math.min.name) (by decide +kernel)) (hts (.initialized "java/lang/Math") (by decide +kernel)) (hts (.code Lib.Math.min.name Lib.Math.min.code 2 (some .int)) (by decide +kernel)) (Nat.le_of_ble_eq_true rfl) (Nat.le_of_ble_eq_true rfl) (Nat.zero_le _) (Nat.zero_le _) dX4_go_296 ?_
              refine f_iast hx hb hG.1 hI hao hko hO (vp_in_iff.mpr ⟨by decide, by decide⟩) dX4_go_299 (fun E10 H locs hE11 hn12 hI => ?_)
              have hO : E10 ko = .inl (cI, 9, .inl (a9 (nI (P + k + 1)) (b 4) 0 (if ((b 6) + 5) < 30 then ((b 6) + 5) else 30) (b 7) (if b 8 = 0 then -1 else b 9) (b 10) ((b 11) + 1) (b 2))) := hE11.trans (congrArg (fun f9 => (Sum.inl (cI, 9, Sum.inl f9) : va_E)) (a9_3 (x := (if ((b 6) + 5) < 30 then ((b 6) + 5) else 30))))
              have hS50 : E10 50 = .inr (4, [.int (nI T), .ref (ad 51), .ref (ad 52), .int (nI nw), .ref (ad 53), .ref (ad 54)]) := (hn12 50 (by omega)).trans hS50
              have hS52 : E10 52 = .inl (cI, 201, .inl (vW p g nw)) := (hn12 52 (by omega)).trans hS52
              have hfr : ∀ q : Nat, q ≠ ko → E10 q = E q := fun q hq => (hn12 q (by omega)).trans (hfr q hq)
              refine lv_goto (tgt := 220) hx hb dX4_go_300 (by decide) ?_
              refine lv_iload hx hb dX4_go_220 (lv_at hl 0 rfl) ?_
              refine lv_if_le (tgt := 303) hx hb dX4_go_222 (by decide) (fun c_222 => ?_) (fun c_222 => ?_)
              · have n_222 := i_nlt.mpr c_222
                have hO9 : E10 ko = .inl (cI, 9, .inl (sB (p_adv w p g nw b fo))) := hO.trans (by rw [adv_halt hv hl4 hP hWy hW15 hP2 hk1 hno n_252 c_266, min_30 h6]; rfl)
                exact kk E10 H locs ls hO9 hfr hI (lv_sub hl [1, 2, 3] rfl)
              · exact absurd c_222 (by decide)
            · refine lv_goto (tgt := 220) hx hb dX4_go_269 (by decide) ?_
              have hno1 : ∀ q, P < q → q ≤ P + (k + 1) → ¬ vW p g nw q < 0 → vW p g nw q = b 4 := fun q h1 h2 h3 => by
                by_cases hq : q = P + k + 1
                · rw [hq]; exact c_266
                · exact hno q h1 (by omega) h3
              exact ih (k + 1) (by omega) hk1 (by omega) hno1 E1 H locs ls hO hfr hI (lv_sub hl [1, 2, 3, 0] rfl)
  exact K9 (Wn + 1) 0 (by omega) (Nat.zero_le _) (by omega) (fun q h1 h2 => absurd h1 (by omega)) E H locs ls (hO.trans (by rw [hP] <;> rfl)) (fun _ _ => rfl) hI (by rw [hWy] at hl; exact (lv_sub hl [0, 1, 2, 3] rfl))

set_option maxHeartbeats 4000000 in
set_option maxRecDepth 100000 in
theorem go_F (l : Launch) {pr : Program} {e : Env} {s : State} {m : MethodId} {args : Array Value} {below : List Frame} {meth : Method} {c : Code} {Q : State → Prop} (hx : pr.tables.exec = Jvm.exec) (hb : c.code = cX4_go) (hml : c.maxLocals = 6) (hts : ∀ w ∈ wsX4_go, w.before args s = true) (hown : s.vm.findClass RX4 = some m.cls) {D : va_G} {cI cJ cB : ClassId} {t0 z : Nat} {tx ad : Nat → Nat} {L : List Nat} (hG : fG D cI cJ cB t0 z tx s) {E : Nat → va_E} {H : Heap} {locs : List Loc} {ls : Array Slot} {w p g : Nat → Int32} {nw T : Nat} (h50 : 50 ∈ L) (hS50 : E 50 = sE ad T nw) {ko ao : Nat} (h60 : 60 ≤ ko) (hao : ad ko = ao) (hko : ko ∈ L) {b : Nat → Int32} (hO : E ko = .inl (cI, 9, .inl (sB b))) (h6 : 0 ≤ b 6 ∧ b 6 ≤ 30) {bi : Int32} (hI : fI D (fA z) s.heap ad L E H locs) (hl : lv_has ls 6 [(0, .ref (ad 50)), (1, .int bi), (2, .ref ao)]) (kk : ∀ (E1 : Nat → va_E) (H1 : Heap) (locs1 : List Loc) (ls1 : Array Slot), E1 ko = .inl (cI, 9, .inl (sB (p_home (nI T) (p_wet (nI T) b)))) → (∀ q, q ≠ ko → E1 q = E q) → fI D (fA z) s.heap ad L E1 H1 locs1 → W pr l e ({ frames := 1, cells := 0, slots := 0, locals := 40 } : Room) s m args below meth c H1 locs1 0 0 Q (F0 m 343 ls1 [])) : W pr l e ({ frames := 1, cells := 0, slots := 0, locals := 40 } : Room) s m args below meth c H locs 0 0 Q (F0 m 303 ls []) := by
  have hfr : ∀ q : Nat, q ≠ ko → E q = E q := fun _ _ => rfl
  have hO : E ko = .inl (cI, 9, .inl (a9 (b 3) (b 4) (b 5) (b 6) (b 7) (if b 8 = 0 then -1 else b 9) (b 10) (b 11) (b 2))) := hO
  have hS50 : E 50 = .inr (4, [.int (nI T), .ref (ad 51), .ref (ad 52), .int (nI nw), .ref (ad 53), .ref (ad 54)]) := hS50
  refine lv_aload_n hx hb dX4_go_303 rfl (lv_at hl 0 rfl) ?_
  refine f_get (ci := 4) (v := .int (nI T)) (C := RX4) (T := TX4) (N := 6) hx hb hts (by decide +kernel) hown hG.1 hI rfl h50 hS50 rfl 0 (by decide) (hts (.fieldLink RX4 30 "CoracleRaceLaw$Sim" "tick" "I") (by decide +kernel)) rfl dX4_go_304 ?_
  refine lv_iconst (v := 4) hx hb dX4_go_307 (by decide) ?_
  refine lv_irem hx hb dX4_go_308 (by decide) ?_
  refine lv_if_ne (tgt := 327) hx hb dX4_go_309 (by decide) (fun c_309 => ?_) (fun c_309 => ?_)
  · refine lv_aload_n hx hb dX4_go_327 rfl (lv_at hl 2 rfl) ?_
    refine lv_iconst (v := 0) hx hb dX4_go_328 (by decide) ?_
    refine f_iald hx hb hG.1 hI hao hko hO (vp_in_iff.mpr ⟨by decide, by decide⟩) dX4_go_329 ?_
    refine lv_topi (fun tv etv => ?_)
    have etv : tv = (b 3) := etv.trans rfl
    subst etv
    refine lv_sipush (v := 200) hx hb dX4_go_330 (by decide) ?_
    refine lv_icmp_ne (tgt := 343) hx hb dX4_go_333 (by decide) (fun c_333 => ?_) (fun c_333 => ?_)
    · have hO9 : E ko = .inl (cI, 9, .inl (sB (p_home (nI T) (p_wet (nI T) b)))) := hO.trans (by rw [wet_no c_309, home_no (b := b) c_333] <;> rfl)
      exact kk E H locs ls hO9 hfr hI
    · refine lv_aload_n hx hb dX4_go_336 rfl (lv_at hl 2 rfl) ?_
      refine lv_iconst (v := 5) hx hb dX4_go_337 (by decide) ?_
      refine lv_aload_n hx hb dX4_go_338 rfl (lv_at hl 0 rfl) ?_
      refine f_get (ci := 4) (v := .int (nI T)) (C := RX4) (T := TX4) (N := 6) hx hb hts (by decide +kernel) hown hG.1 hI rfl h50 hS50 rfl 0 (by decide) (hts (.fieldLink RX4 30 "CoracleRaceLaw$Sim" "tick" "I") (by decide +kernel)) rfl dX4_go_339 ?_
      refine f_iast hx hb hG.1 hI hao hko hO (vp_in_iff.mpr ⟨by decide, by decide⟩) dX4_go_342 (fun E1 H locs hE2 hn3 hI => ?_)
      have hO : E1 ko = .inl (cI, 9, .inl (a9 (b 3) (b 4) (b 5) (b 6) (b 7) (nI T) (b 10) (b 11) (b 2))) := hE2.trans (congrArg (fun f9 => (Sum.inl (cI, 9, Sum.inl f9) : va_E)) (a9_5 (x := (nI T))))
      have hS50 : E1 50 = .inr (4, [.int (nI T), .ref (ad 51), .ref (ad 52), .int (nI nw), .ref (ad 53), .ref (ad 54)]) := (hn3 50 (by omega)).trans hS50
      have hfr : ∀ q : Nat, q ≠ ko → E1 q = E q := fun q hq => (hn3 q (by omega)).trans (hfr q hq)
      have hO9 : E1 ko = .inl (cI, 9, .inl (sB (p_home (nI T) (p_wet (nI T) b)))) := hO.trans (by rw [wet_no c_309, home_yes (b := b) c_333, sB_home] <;> rfl)
      exact kk E1 H locs ls hO9 hfr hI
  · refine lv_aload_n hx hb dX4_go_312 rfl (lv_at hl 2 rfl) ?_
    refine lv_iconst (v := 3) hx hb dX4_go_313 (by decide) ?_
    refine f_iald hx hb hG.1 hI hao hko hO (vp_in_iff.mpr ⟨by decide, by decide⟩) dX4_go_314 ?_
    refine lv_topi (fun tv etv => ?_)
    have etv : tv = (b 6) := etv.trans rfl
    subst etv
    refine lv_bipush (v := 30) hx hb dX4_go_315 (by decide) ?_
    refine lv_icmp_ge (tgt := 327) hx hb dX4_go_317 (by decide) (fun c_317 => ?_) (fun c_317 => ?_)
    · have n_317 := i_nlt.mpr c_317
      refine lv_aload_n hx hb dX4_go_327 rfl (lv_at hl 2 rfl) ?_
      refine lv_iconst (v := 0) hx hb dX4_go_328 (by decide) ?_
      refine f_iald hx hb hG.1 hI hao hko hO (vp_in_iff.mpr ⟨by decide, by decide⟩) dX4_go_329 ?_
      refine lv_topi (fun tv etv => ?_)
      have etv : tv = (b 3) := etv.trans rfl
      subst etv
      refine lv_sipush (v := 200) hx hb dX4_go_330 (by decide) ?_
      refine lv_icmp_ne (tgt := 343) hx hb dX4_go_333 (by decide) (fun c_333 => ?_) (fun c_333 => ?_)
      · have hO9 : E ko = .inl (cI, 9, .inl (sB (p_home (nI T) (p_wet (nI T) b)))) := hO.trans (by rw [wet_30 h6 c_309 n_317, home_no (b := b) c_333] <;> rfl)
        exact kk E H locs ls hO9 hfr hI
      · refine lv_aload_n hx hb dX4_go_336 rfl (lv_at hl 2 rfl) ?_
        refine lv_iconst (v := 5) hx hb dX4_go_337 (by decide) ?_
        refine lv_aload_n hx hb dX4_go_338 rfl (lv_at hl 0 rfl) ?_
        refine f_get (ci := 4) (v := .int (nI T)) (C := RX4) (T := TX4) (N := 6) hx hb hts (by decide +kernel) hown hG.1 hI rfl h50 hS50 rfl 0 (by decide) (hts (.fieldLink RX4 30 "CoracleRaceLaw$Sim" "tick" "I") (by decide +kernel)) rfl dX4_go_339 ?_
        refine f_iast hx hb hG.1 hI hao hko hO (vp_in_iff.mpr ⟨by decide, by decide⟩) dX4_go_342 (fun E4 H locs hE5 hn6 hI => ?_)
        have hO : E4 ko = .inl (cI, 9, .inl (a9 (b 3) (b 4) (b 5) (b 6) (b 7) (nI T) (b 10) (b 11) (b 2))) := hE5.trans (congrArg (fun f9 => (Sum.inl (cI, 9, Sum.inl f9) : va_E)) (a9_5 (x := (nI T))))
        have hS50 : E4 50 = .inr (4, [.int (nI T), .ref (ad 51), .ref (ad 52), .int (nI nw), .ref (ad 53), .ref (ad 54)]) := (hn6 50 (by omega)).trans hS50
        have hfr : ∀ q : Nat, q ≠ ko → E4 q = E q := fun q hq => (hn6 q (by omega)).trans (hfr q hq)
        have hO9 : E4 ko = .inl (cI, 9, .inl (sB (p_home (nI T) (p_wet (nI T) b)))) := hO.trans (by rw [wet_30 h6 c_309 n_317, home_yes (b := b) c_333, sB_home] <;> rfl)
        exact kk E4 H locs ls hO9 hfr hI
    · have n_317 := c_317
      have c_317 := i_nle.mp n_317
      refine lv_aload_n hx hb dX4_go_320 rfl (lv_at hl 2 rfl) ?_
      refine lv_iconst (v := 3) hx hb dX4_go_321 (by decide) ?_
      refine lv_dup2_11 hx hb dX4_go_322 rfl rfl ?_
      refine f_iald hx hb hG.1 hI hao hko hO (vp_in_iff.mpr ⟨by decide, by decide⟩) dX4_go_323 ?_
      refine lv_topi (fun tv etv => ?_)
      have etv : tv = (b 6) := etv.trans rfl
      subst etv
      refine lv_iconst (v := 1) hx hb dX4_go_324 (by decide) ?_
      refine lv_iadd hx hb dX4_go_325 ?_
      refine f_iast hx hb hG.1 hI hao hko hO (vp_in_iff.mpr ⟨by decide, by decide⟩) dX4_go_326 (fun E7 H locs hE8 hn9 hI => ?_)
      have hO : E7 ko = .inl (cI, 9, .inl (a9 (b 3) (b 4) (b 5) ((b 6) + 1) (b 7) (if b 8 = 0 then -1 else b 9) (b 10) (b 11) (b 2))) := hE8.trans (congrArg (fun f9 => (Sum.inl (cI, 9, Sum.inl f9) : va_E)) (a9_3 (x := ((b 6) + 1))))
      have hS50 : E7 50 = .inr (4, [.int (nI T), .ref (ad 51), .ref (ad 52), .int (nI nw), .ref (ad 53), .ref (ad 54)]) := (hn9 50 (by omega)).trans hS50
      have hfr : ∀ q : Nat, q ≠ ko → E7 q = E q := fun q hq => (hn9 q (by omega)).trans (hfr q hq)
      refine lv_aload_n hx hb dX4_go_327 rfl (lv_at hl 2 rfl) ?_
      refine lv_iconst (v := 0) hx hb dX4_go_328 (by decide) ?_
      refine f_iald hx hb hG.1 hI hao hko hO (vp_in_iff.mpr ⟨by decide, by decide⟩) dX4_go_329 ?_
      refine lv_topi (fun tv etv => ?_)
      have etv : tv = (b 3) := etv.trans rfl
      subst etv
      refine lv_sipush (v := 200) hx hb dX4_go_330 (by decide) ?_
      refine lv_icmp_ne (tgt := 343) hx hb dX4_go_333 (by decide) (fun c_333 => ?_) (fun c_333 => ?_)
      · have hO9 : E7 ko = .inl (cI, 9, .inl (sB (p_home (nI T) (p_wet (nI T) b)))) := hO.trans (by rw [wet_lt h6 c_309 c_317, home_no (b := (va_up b 6 (b 6 + 1))) c_333] <;> rfl)
        exact kk E7 H locs ls hO9 hfr hI
      · refine lv_aload_n hx hb dX4_go_336 rfl (lv_at hl 2 rfl) ?_
        refine lv_iconst (v := 5) hx hb dX4_go_337 (by decide) ?_
        refine lv_aload_n hx hb dX4_go_338 rfl (lv_at hl 0 rfl) ?_
        refine f_get (ci := 4) (v := .int (nI T)) (C := RX4) (T := TX4) (N := 6) hx hb hts (by decide +kernel) hown hG.1 hI rfl h50 hS50 rfl 0 (by decide) (hts (.fieldLink RX4 30 "CoracleRaceLaw$Sim" "tick" "I") (by decide +kernel)) rfl dX4_go_339 ?_
        refine f_iast hx hb hG.1 hI hao hko hO (vp_in_iff.mpr ⟨by decide, by decide⟩) dX4_go_342 (fun E10 H locs hE11 hn12 hI => ?_)
        have hO : E10 ko = .inl (cI, 9, .inl (a9 (b 3) (b 4) (b 5) ((b 6) + 1) (b 7) (nI T) (b 10) (b 11) (b 2))) := hE11.trans (congrArg (fun f9 => (Sum.inl (cI, 9, Sum.inl f9) : va_E)) (a9_5 (x := (nI T))))
        have hS50 : E10 50 = .inr (4, [.int (nI T), .ref (ad 51), .ref (ad 52), .int (nI nw), .ref (ad 53), .ref (ad 54)]) := (hn12 50 (by omega)).trans hS50
        have hfr : ∀ q : Nat, q ≠ ko → E10 q = E q := fun q hq => (hn12 q (by omega)).trans (hfr q hq)
        have hO9 : E10 ko = .inl (cI, 9, .inl (sB (p_home (nI T) (p_wet (nI T) b)))) := hO.trans (by rw [wet_lt h6 c_309 c_317, home_yes (b := (va_up b 6 (b 6 + 1))) c_333, sB_home] <;> rfl)
        exact kk E10 H locs ls hO9 hfr hI

theorem adv_6 {w p g c : Nat → Int32} {nw : Nat} {f : Int32} (hl : p_lane (c 4)) (h6 : 0 ≤ c 6 ∧ c 6 ≤ 30) : 0 ≤ p_adv w p g nw c f 6 ∧ p_adv w p g nw c f 6 ≤ 30 := by
  unfold p_adv
  rw [if_pos hl]
  split
  · exact h6
  · exact (soak_rng (c := va_up (va_up c 3 _) 5 0) h6).1

set_option maxHeartbeats 4000000 in
set_option maxRecDepth 100000 in
theorem m_X4_go (l : Launch) {D : va_G} {cI cJ cB : ClassId} {t0 z : Nat} {tx ad : Nat → Nat} {L : List Nat} {E : Nat → va_E} {w p g : Nat → Int32} {nw n T i : Nat} {B F : Nat → Nat → Int32} (hS : s_at cI cJ ad E w p g nw n T B F) (hSm : ∀ k, (50 ≤ k ∧ k < 55) ∨ (60 ≤ k ∧ k < 60 + n) ∨ (70 ≤ k ∧ k < 70 + n) → k ∈ L) (hn6 : n ≤ 6) (hi : i < n) (hT : T < 2 ^ 30) (hv : okv w p g nw) (hb0 : okb (B i)) (h8 : B i 8 = 0) : Met l yX4_go wsX4_go ({ frames := 1, cells := 0, slots := 0, locals := 40 } : Room) (va_Pc [.ref (ad 50), .int (nI i)] (fPre D cI cJ cB t0 z tx ad L E)) (va_Qv (fun (E1 : Nat → va_E) => E1 (60 + i) = .inl (cI, 9, .inl (sB (p_tick w p g nw (nI T) (F i) (B i)))) ∧ ∀ q, q ≠ 60 + i → E1 q = E q) (fB D z ad L) (fA z)) 0 0 (fA z) := by
  refine f_ofW (cc := cX4_go) (maxL := 6) (ret := none) (by decide) rfl (Nat.le_of_ble_eq_true rfl) ?_
  intro pr e s m args below meth c Q hx hb hr hml hts hown hlocks hin hG H locs hI hQ ls hl
  have hl : lv_has ls 6 [(0, .ref (ad 50)), (1, .int (nI i))] := hl
  obtain ⟨hS50, hS51, hS52, hS53, hS54, hS6⟩ := hS
  obtain ⟨hO, hF⟩ := hS6 i hi
  have h50 : 50 ∈ L := hSm _ (by omega)
  have h51 : 51 ∈ L := hSm _ (by omega)
  have h52 : 52 ∈ L := hSm _ (by omega)
  have hko : 60 + i ∈ L := hSm _ (by omega)
  obtain ⟨b1, b2, b3, b4, b5, b6, b89⟩ := id hb0
  refine go_A (w := w) (p := p) (g := g) l hx hb hml hts hown hG h50 hS50 hi hn6 hT hb0 (hSm 53 (by omega)) (hSm 54 (by omega)) hko (hSm _ (by omega)) hS53 hS54 hO hF hI hl (fun K ls hK hl => ?_)
  refine go_B l hx hb hml hts hown hG (by omega) rfl hko hO hI hl (fun E1 H locs ls hO hf1 hI hl => ?_)
  rw [s_force_sp b2 b6] at hl
  have t4 : p_lane (p_turn (B i) K 4) := by rw [turn_o (by decide) (by decide)]; exact b4
  refine go_C l hx hb hml hts hown hG (by omega) rfl hko hO t4 hI hl (fun E2 H locs ls hO hf2 hI hl => ?_)
  have hf12 : ∀ q, q ≠ 60 + i → E2 q = E q := fun q hq => (hf2 q hq).trans (hf1 q hq)
  have e1 : ∀ q : Nat, q ≠ 4 → q ≠ 7 → q ≠ 5 → q ≠ 10 → p_drift (p_turn (B i) K) q = B i q := fun q a c d e => by rw [drift_o a c, turn_o d e]
  have l4 : p_lane (p_drift (p_turn (B i) K) 4) := drift_lane t4
  have l5 : -4 ≤ p_drift (p_turn (B i) K) 5 ∧ p_drift (p_turn (B i) K) 5 ≤ 4 := by rw [drift_o (by decide) (by decide)]; exact turn_5 b5
  have l6 : 0 ≤ p_drift (p_turn (B i) K) 6 ∧ p_drift (p_turn (B i) K) 6 ≤ 30 := by rw [e1 6 (by decide) (by decide) (by decide) (by decide)]; exact b6
  have l3 : p_drift (p_turn (B i) K) 3 = B i 3 := e1 3 (by decide) (by decide) (by decide) (by decide)
  refine go_D (w := w) (p := p) (g := g) l hx hb hml hts hown hG h50 ((hf12 50 (by omega)).trans hS50) h51 ((hf12 51 (by omega)).trans hS51) (by omega) rfl hko hO l4 hI hl (fun ls hl => ?_)
  obtain ⟨P, hP, eP⟩ := rng_of (n := 200) b3 (by omega)
  obtain ⟨Wn, hW, eW⟩ := way_rng (c := p_drift (p_turn (B i) K)) hv.1.1 l4 l5 (force_rng b2 b6 K)
  refine go_E (w := w) (p := p) (g := g) l hx hb hml hts hown hG h50 ((hf12 50 (by omega)).trans hS50) h52 ((hf12 52 (by omega)).trans hS52) (by omega) rfl hko hO hv l4 l6 (l3.trans eP) hP eW hW hI hl (fun E3 H locs ls hO hf3 hI hl => ?_)
  have hf13 : ∀ q, q ≠ 60 + i → E3 q = E q := fun q hq => (hf3 q hq).trans (hf12 q hq)
  have a6 := adv_6 (w := w) (p := p) (g := g) (nw := nw) (f := p_force (B i) K) l4 l6
  refine go_F (w := w) (p := p) (g := g) l hx hb hml hts hown hG h50 ((hf13 50 (by omega)).trans hS50) (by omega) rfl hko hO a6 hI hl (fun E4 H locs ls hO hf4 hI => ?_)
  exact f_retv hQ hx hb hr hlocks hI.2.2 (by omega) (by omega) dX4_go_343 E4 (fB_of hI) ⟨hO.trans (by unfold p_tick p_tickK; rw [if_pos h8, ← hK]), fun q hq => (hf4 q hq).trans (hf13 q hq)⟩
