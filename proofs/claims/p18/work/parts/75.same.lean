set_option maxHeartbeats 4000000 in
set_option maxRecDepth 100000 in
theorem same_A (l : Launch) {pr : Program} {e : Env} {s : State} {m : MethodId} {args : Array Value} {below : List Frame} {meth : Method} {c : Code} {Q : State → Prop} (hx : pr.tables.exec = Jvm.exec) (hb : c.code = cX4_isSame) (hml : c.maxLocals = 7) (hts : ∀ w ∈ wsX4_isSame, w.before args s = true) (hown : s.vm.findClass RX4 = some m.cls) {D : va_G} {cI cJ cB : ClassId} {t0 z : Nat} {tx ad : Nat → Nat} {L : List Nat} (hG : fG D cI cJ cB t0 z tx s) {cells slots : Nat} {E : Nat → va_E} {H : Heap} {locs : List Loc} {ls : Array Slot} (hl9 : l.stackTraces = false) {w p g : Nat → Int32} {nw n T : Nat} {B F : Nat → Nat → Int32} (hL0 : okL w p g nw n T B) (hT : T < 2 ^ 30) (hLt : ∀ k, k ∈ L → k < 80) (hXm : ∀ k, k < 5 ∨ (10 ≤ k ∧ k < 24) ∨ (30 ≤ k ∧ k < 44) → k ∈ L) (hSm : ∀ k, (50 ≤ k ∧ k < 55) ∨ (60 ≤ k ∧ k < 60 + n) ∨ (70 ≤ k ∧ k < 70 + n) → k ∈ L) (hX : x_at cI cB ad E w p g nw n T B F) (hS : s_at cI cJ ad E w p g nw n T B F) {i : Nat} (hi : i < n) (hc : cells ≤ 72) (hs : slots ≤ 480) (hI : fI D (fA z) s.heap ad L E H locs) (hl : lv_has ls 7 [(0, .ref (ad 50)), (1, .ref (ad 0)), (2, .int (p_psum B i)), (3, .int (nI i))]) (kk : ∀ (E1 : Nat → va_E) (H1 : Heap) (locs1 : List Loc) (ls1 : Array Slot) (c1 s1 : Nat), c1 ≤ cells + 12 → s1 ≤ slots + 80 → x_at cI cB ad E1 w p g nw n T B F → s_at cI cJ ad E1 w p g nw n T B F → fI D (fA z) s.heap ad L E1 H1 locs1 → lv_has ls1 7 [(0, .ref (ad 50)), (1, .ref (ad 0)), (2, .int (p_psum B (i + 1))), (3, .int (nI i))] → W pr l e ({ frames := 7, cells := 100, slots := 700, locals := 130 } : Room) s m args below meth c H1 locs1 c1 s1 Q (F0 m 161 ls1 [])) : W pr l e ({ frames := 7, cells := 100, slots := 700, locals := 130 } : Room) s m args below meth c H locs cells slots Q (F0 m 13 ls []) := by
  have hnw := hL0.1
  have hn6 := hL0.2.1
  have h8 := hL0.h8
  have hok := hL0.2.2.2.1
  refine lv_aload_n hx hb dX4_isSame_13 rfl (lv_at hl 0 rfl) ?_
  have hS50 : E 50 = .inr (4, [.int (nI T), .ref (ad 51), .ref (ad 52), .int (nI nw), .ref (ad 53), .ref (ad 54)]) := hS.1
  refine f_get (ci := 4) (v := .ref (ad 53)) (C := RX4) (T := TX4) (N := 6) hx hb hts (by decide +kernel) hown hG.1 hI rfl (hSm _ (by omega)) hS50 rfl 4 (by decide) (hts (.fieldLink RX4 17 "CoracleRaceLaw$Sim" "boats" "[[I") (by decide +kernel)) rfl dX4_isSame_14 ?_
  refine lv_iload_n hx hb dX4_isSame_17 rfl (lv_at hl 3 rfl) ?_
  have hS53 : E 53 = .inl (cJ, n, .inr (.inr (.inr (.inr (row_at ad 60 n))))) := hS.2.2.2.1
  refine f_aldA hx hb hG.1 hI rfl (hSm _ (by omega)) hS53 (vp_in_nI (by omega) (by omega)) (v := .ref (ad (60 + i))) (by rw [show (nI i).toNatClampNeg = i from nI_clamp (by omega)]; exact row_at_at (by omega)) dX4_isSame_18 ?_
  refine lv_astore (lv' := [(4, .ref (ad (60 + i))), (0, .ref (ad 50)), (1, .ref (ad 0)), (2, .int (p_psum B i)), (3, .int (nI i))]) hx hb dX4_isSame_19 hl (by decide) rfl (fun ls hl => ?_)
  refine lv_bipush (v := 9) hx hb dX4_isSame_21 (by decide) ?_
  refine f_newi (k := 90) (n := 9) (N := 9) hx hb (hts (.arrayClass .int) (by decide +kernel)) hG.1 hI (fG_A hG) (by decide) (by decide) (by decide) (fun h9 => absurd (hLt _ h9) (by omega)) (by show _ ≤ 100; omega) (by show _ ≤ 700; omega) dX4_isSame_23 (fun aN0 adN0 EN0 H hk0 hr0 hEk0 hEr0 hI => ?_)
  have hX := (hX.ad (fun q h1 => hr0 q (by omega))).kept (fun q h1 => hEr0 q (by omega))
  have hS := (hS.ad hn6 (fun q h1 h2 => hr0 q (by omega))).kept hn6 (fun q h1 h2 => hEr0 q (by omega))
  have hXm := fun k hk => List.mem_append_left [90] (hXm k hk)
  have hSm := fun k hk => List.mem_append_left [90] (hSm k hk)
  have hq0_4 : adN0 (60 + i) = (ad (60 + i)) := hr0 (60 + i) (by omega)
  have hq0_0 : adN0 50 = (ad 50) := hr0 50 (by omega)
  have hq0_1 : adN0 0 = (ad 0) := hr0 0 (by omega)
  have hl : lv_has ls 7 [(4, .ref (adN0 (60 + i))), (0, .ref (adN0 50)), (1, .ref (adN0 0)), (2, .int (p_psum B i)), (3, .int (nI i))] := by rw [hq0_4, hq0_0, hq0_1]; exact hl
  have hc_due : EN0 90 = .inl (cI, 9, .inl (a9 0 0 0 0 0 0 0 0 0)) := by rw [hEk0, a9_z]
  have ha_due : adN0 90 = aN0 := hk0
  refine lv_dup hx hb dX4_isSame_25 rfl ?_
  refine lv_iconst (v := 0) hx hb dX4_isSame_26 (by decide) ?_
  refine lv_aload hx hb dX4_isSame_27 (lv_at hl 0 rfl) ?_
  refine lv_iconst (v := 0) hx hb dX4_isSame_29 (by decide) ?_
  have hB_i : EN0 (60 + i) = .inl (cI, 9, .inl (a9 ((B i) 3) ((B i) 4) ((B i) 5) ((B i) 6) ((B i) 7) (if (B i) 8 = 0 then -1 else (B i) 9) ((B i) 10) ((B i) 11) ((B i) 2))) := (hS.2.2.2.2.2 i (by omega)).1
  refine f_iald hx hb hG.1 hI rfl (hSm _ (by omega)) hB_i (vp_in_iff.mpr ⟨by decide, by decide⟩) dX4_isSame_30 ?_
  refine lv_topi (fun tv etv => ?_)
  have etv : tv = ((B i) 3) := etv.trans rfl
  subst etv
  refine f_iast hx hb hG.1 hI ha_due in_last hc_due (vp_in_iff.mpr ⟨by decide, by decide⟩) dX4_isSame_31 (fun E2 H locs hE3 hn4 hI => ?_)
  have hc_due : E2 90 = .inl (cI, 9, .inl (a9 ((B i) 3) 0 0 0 0 0 0 0 0)) := hE3.trans (congrArg (fun f9 => (Sum.inl (cI, 9, Sum.inl f9) : va_E)) (a9_0 (x := ((B i) 3))))
  have hB_i : E2 (60 + i) = .inl (cI, 9, .inl (a9 ((B i) 3) ((B i) 4) ((B i) 5) ((B i) 6) ((B i) 7) (if (B i) 8 = 0 then -1 else (B i) 9) ((B i) 10) ((B i) 11) ((B i) 2))) := (hn4 (60 + i) (by omega)).trans hB_i
  have hX := hX.kept (fun q h1 => hn4 q (by omega))
  have hS := hS.kept hn6 (fun q h1 h2 => hn4 q (by omega))
  refine lv_dup hx hb dX4_isSame_32 rfl ?_
  refine lv_iconst (v := 1) hx hb dX4_isSame_33 (by decide) ?_
  refine lv_aload hx hb dX4_isSame_34 (lv_at hl 0 rfl) ?_
  refine lv_iconst (v := 1) hx hb dX4_isSame_36 (by decide) ?_
  refine f_iald hx hb hG.1 hI rfl (hSm _ (by omega)) hB_i (vp_in_iff.mpr ⟨by decide, by decide⟩) dX4_isSame_37 ?_
  refine lv_topi (fun tv etv => ?_)
  have etv : tv = ((B i) 4) := etv.trans rfl
  subst etv
  refine f_iast hx hb hG.1 hI ha_due in_last hc_due (vp_in_iff.mpr ⟨by decide, by decide⟩) dX4_isSame_38 (fun E5 H locs hE6 hn7 hI => ?_)
  have hc_due : E5 90 = .inl (cI, 9, .inl (a9 ((B i) 3) ((B i) 4) 0 0 0 0 0 0 0)) := hE6.trans (congrArg (fun f9 => (Sum.inl (cI, 9, Sum.inl f9) : va_E)) (a9_1 (x := ((B i) 4))))
  have hB_i : E5 (60 + i) = .inl (cI, 9, .inl (a9 ((B i) 3) ((B i) 4) ((B i) 5) ((B i) 6) ((B i) 7) (if (B i) 8 = 0 then -1 else (B i) 9) ((B i) 10) ((B i) 11) ((B i) 2))) := (hn7 (60 + i) (by omega)).trans hB_i
  have hX := hX.kept (fun q h1 => hn7 q (by omega))
  have hS := hS.kept hn6 (fun q h1 h2 => hn7 q (by omega))
  refine lv_dup hx hb dX4_isSame_39 rfl ?_
  refine lv_iconst (v := 2) hx hb dX4_isSame_40 (by decide) ?_
  refine lv_aload hx hb dX4_isSame_41 (lv_at hl 0 rfl) ?_
  refine lv_iconst (v := 2) hx hb dX4_isSame_43 (by decide) ?_
  refine f_iald hx hb hG.1 hI rfl (hSm _ (by omega)) hB_i (vp_in_iff.mpr ⟨by decide, by decide⟩) dX4_isSame_44 ?_
  refine lv_topi (fun tv etv => ?_)
  have etv : tv = ((B i) 5) := etv.trans rfl
  subst etv
  refine f_iast hx hb hG.1 hI ha_due in_last hc_due (vp_in_iff.mpr ⟨by decide, by decide⟩) dX4_isSame_45 (fun E8 H locs hE9 hn10 hI => ?_)
  have hc_due : E8 90 = .inl (cI, 9, .inl (a9 ((B i) 3) ((B i) 4) ((B i) 5) 0 0 0 0 0 0)) := hE9.trans (congrArg (fun f9 => (Sum.inl (cI, 9, Sum.inl f9) : va_E)) (a9_2 (x := ((B i) 5))))
  have hB_i : E8 (60 + i) = .inl (cI, 9, .inl (a9 ((B i) 3) ((B i) 4) ((B i) 5) ((B i) 6) ((B i) 7) (if (B i) 8 = 0 then -1 else (B i) 9) ((B i) 10) ((B i) 11) ((B i) 2))) := (hn10 (60 + i) (by omega)).trans hB_i
  have hX := hX.kept (fun q h1 => hn10 q (by omega))
  have hS := hS.kept hn6 (fun q h1 h2 => hn10 q (by omega))
  refine lv_dup hx hb dX4_isSame_46 rfl ?_
  refine lv_iconst (v := 3) hx hb dX4_isSame_47 (by decide) ?_
  refine lv_aload hx hb dX4_isSame_48 (lv_at hl 0 rfl) ?_
  refine lv_iconst (v := 3) hx hb dX4_isSame_50 (by decide) ?_
  refine f_iald hx hb hG.1 hI rfl (hSm _ (by omega)) hB_i (vp_in_iff.mpr ⟨by decide, by decide⟩) dX4_isSame_51 ?_
  refine lv_topi (fun tv etv => ?_)
  have etv : tv = ((B i) 6) := etv.trans rfl
  subst etv
  refine f_iast hx hb hG.1 hI ha_due in_last hc_due (vp_in_iff.mpr ⟨by decide, by decide⟩) dX4_isSame_52 (fun E11 H locs hE12 hn13 hI => ?_)
  have hc_due : E11 90 = .inl (cI, 9, .inl (a9 ((B i) 3) ((B i) 4) ((B i) 5) ((B i) 6) 0 0 0 0 0)) := hE12.trans (congrArg (fun f9 => (Sum.inl (cI, 9, Sum.inl f9) : va_E)) (a9_3 (x := ((B i) 6))))
  have hB_i : E11 (60 + i) = .inl (cI, 9, .inl (a9 ((B i) 3) ((B i) 4) ((B i) 5) ((B i) 6) ((B i) 7) (if (B i) 8 = 0 then -1 else (B i) 9) ((B i) 10) ((B i) 11) ((B i) 2))) := (hn13 (60 + i) (by omega)).trans hB_i
  have hX := hX.kept (fun q h1 => hn13 q (by omega))
  have hS := hS.kept hn6 (fun q h1 h2 => hn13 q (by omega))
  refine lv_dup hx hb dX4_isSame_53 rfl ?_
  refine lv_iconst (v := 4) hx hb dX4_isSame_54 (by decide) ?_
  refine lv_aload hx hb dX4_isSame_55 (lv_at hl 0 rfl) ?_
  refine lv_iconst (v := 4) hx hb dX4_isSame_57 (by decide) ?_
  refine f_iald hx hb hG.1 hI rfl (hSm _ (by omega)) hB_i (vp_in_iff.mpr ⟨by decide, by decide⟩) dX4_isSame_58 ?_
  refine lv_topi (fun tv etv => ?_)
  have etv : tv = ((B i) 7) := etv.trans rfl
  subst etv
  refine f_iast hx hb hG.1 hI ha_due in_last hc_due (vp_in_iff.mpr ⟨by decide, by decide⟩) dX4_isSame_59 (fun E14 H locs hE15 hn16 hI => ?_)
  have hc_due : E14 90 = .inl (cI, 9, .inl (a9 ((B i) 3) ((B i) 4) ((B i) 5) ((B i) 6) ((B i) 7) 0 0 0 0)) := hE15.trans (congrArg (fun f9 => (Sum.inl (cI, 9, Sum.inl f9) : va_E)) (a9_4 (x := ((B i) 7))))
  have hB_i : E14 (60 + i) = .inl (cI, 9, .inl (a9 ((B i) 3) ((B i) 4) ((B i) 5) ((B i) 6) ((B i) 7) (if (B i) 8 = 0 then -1 else (B i) 9) ((B i) 10) ((B i) 11) ((B i) 2))) := (hn16 (60 + i) (by omega)).trans hB_i
  have hX := hX.kept (fun q h1 => hn16 q (by omega))
  have hS := hS.kept hn6 (fun q h1 h2 => hn16 q (by omega))
  refine lv_dup hx hb dX4_isSame_60 rfl ?_
  refine lv_iconst (v := 5) hx hb dX4_isSame_61 (by decide) ?_
  refine lv_aload hx hb dX4_isSame_62 (lv_at hl 0 rfl) ?_
  refine lv_iconst (v := 5) hx hb dX4_isSame_64 (by decide) ?_
  refine f_iald hx hb hG.1 hI rfl (hSm _ (by omega)) hB_i (vp_in_iff.mpr ⟨by decide, by decide⟩) dX4_isSame_65 ?_
  refine lv_topi (fun tv etv => ?_)
  have etv : tv = (if (B i) 8 = 0 then -1 else (B i) 9) := etv.trans rfl
  subst etv
  refine lv_if_ge (tgt := 73) hx hb dX4_isSame_66 (by decide) (fun c_66 => ?_) (fun c_66 => ?_)
  · have n_66 := i_nlt.mpr c_66
    have h8i : ¬ B i 8 = 0 := fun q => n_66 (((tin_lt (fun q9 => ((hok i hi).2.2.1 q9).2))).mpr q)
    refine lv_iconst (v := 1) hx hb dX4_isSame_73 (by decide) ?_
    refine f_iast hx hb hG.1 hI ha_due in_last hc_due (vp_in_iff.mpr ⟨by decide, by decide⟩) dX4_isSame_74 (fun E17 H locs hE18 hn19 hI => ?_)
    have hc_due : E17 90 = .inl (cI, 9, .inl (a9 ((B i) 3) ((B i) 4) ((B i) 5) ((B i) 6) ((B i) 7) 1 0 0 0)) := hE18.trans (congrArg (fun f9 => (Sum.inl (cI, 9, Sum.inl f9) : va_E)) (a9_5 (x := 1)))
    have hB_i : E17 (60 + i) = .inl (cI, 9, .inl (a9 ((B i) 3) ((B i) 4) ((B i) 5) ((B i) 6) ((B i) 7) (if (B i) 8 = 0 then -1 else (B i) 9) ((B i) 10) ((B i) 11) ((B i) 2))) := (hn19 (60 + i) (by omega)).trans hB_i
    have hX := hX.kept (fun q h1 => hn19 q (by omega))
    have hS := hS.kept hn6 (fun q h1 h2 => hn19 q (by omega))
    refine lv_dup hx hb dX4_isSame_75 rfl ?_
    refine lv_bipush (v := 6) hx hb dX4_isSame_76 (by decide) ?_
    refine lv_aload_n hx hb dX4_isSame_78 rfl (lv_at hl 1 rfl) ?_
    refine lv_aload hx hb dX4_isSame_79 (lv_at hl 0 rfl) ?_
    have hS50 : E17 50 = .inr (4, [.int (nI T), .ref (adN0 51), .ref (adN0 52), .int (nI nw), .ref (adN0 53), .ref (adN0 54)]) := hS.1
    refine f_calli1 (va_runV (As := [.ref (adN0 (60 + i))]) (rest := [.int 6, .ref aN0, .ref aN0]) ⟨hx, hb, hml, hown, hts⟩ (m_X4_time l rfl (hSm _ (by omega)) (b := B i) hB_i (fun q9 => ((hok i hi).2.2.1 q9).2)) (cwV 1 hts gX4_isSame_X4_time rfl rfl rfl (by decide +kernel) ⟨(Nat.le_of_ble_eq_true rfl), (Nat.le_of_ble_eq_true rfl)⟩) (fPre_ofV hG hI rfl (hSm _ (by omega)) hS50 rfl rfl) rfl rfl hl.1 rfl (lv_room (Nat.le_of_ble_eq_true rfl)) dX4_isSame_81 ⟨(by show _ ≤ 100; omega), (by show _ ≤ 700; omega)⟩) hI (fun r20 E21 H locs hp hI => ?_)
    obtain ⟨he, hq9⟩ := hp
    rw [hq9] at hI
    have he : r20 = p_time (B i) := he
    subst he
    refine f_iast hx hb hG.1 hI ha_due in_last hc_due (vp_in_iff.mpr ⟨by decide, by decide⟩) dX4_isSame_84 (fun E22 H locs hE23 hn24 hI => ?_)
    have hc_due : E22 90 = .inl (cI, 9, .inl (a9 ((B i) 3) ((B i) 4) ((B i) 5) ((B i) 6) ((B i) 7) 1 (p_time (B i)) 0 0)) := hE23.trans (congrArg (fun f9 => (Sum.inl (cI, 9, Sum.inl f9) : va_E)) (a9_6 (x := (p_time (B i)))))
    have hB_i : E22 (60 + i) = .inl (cI, 9, .inl (a9 ((B i) 3) ((B i) 4) ((B i) 5) ((B i) 6) ((B i) 7) (if (B i) 8 = 0 then -1 else (B i) 9) ((B i) 10) ((B i) 11) ((B i) 2))) := (hn24 (60 + i) (by omega)).trans hB_i
    have hS50 : E22 50 = .inr (4, [.int (nI T), .ref (adN0 51), .ref (adN0 52), .int (nI nw), .ref (adN0 53), .ref (adN0 54)]) := (hn24 50 (by omega)).trans hS50
    have hX := hX.kept (fun q h1 => hn24 q (by omega))
    have hS := hS.kept hn6 (fun q h1 h2 => hn24 q (by omega))
    refine lv_dup hx hb dX4_isSame_85 rfl ?_
    refine lv_bipush (v := 7) hx hb dX4_isSame_86 (by decide) ?_
    refine lv_aload hx hb dX4_isSame_88 (lv_at hl 0 rfl) ?_
    refine lv_bipush (v := 6) hx hb dX4_isSame_90 (by decide) ?_
    refine f_iald hx hb hG.1 hI rfl (hSm _ (by omega)) hB_i (vp_in_iff.mpr ⟨by decide, by decide⟩) dX4_isSame_92 ?_
    refine lv_topi (fun tv etv => ?_)
    have etv : tv = ((B i) 10) := etv.trans rfl
    subst etv
    refine f_iast hx hb hG.1 hI ha_due in_last hc_due (vp_in_iff.mpr ⟨by decide, by decide⟩) dX4_isSame_93 (fun E25 H locs hE26 hn27 hI => ?_)
    have hc_due : E25 90 = .inl (cI, 9, .inl (a9 ((B i) 3) ((B i) 4) ((B i) 5) ((B i) 6) ((B i) 7) 1 (p_time (B i)) ((B i) 10) 0)) := hE26.trans (congrArg (fun f9 => (Sum.inl (cI, 9, Sum.inl f9) : va_E)) (a9_7 (x := ((B i) 10))))
    have hB_i : E25 (60 + i) = .inl (cI, 9, .inl (a9 ((B i) 3) ((B i) 4) ((B i) 5) ((B i) 6) ((B i) 7) (if (B i) 8 = 0 then -1 else (B i) 9) ((B i) 10) ((B i) 11) ((B i) 2))) := (hn27 (60 + i) (by omega)).trans hB_i
    have hS50 : E25 50 = .inr (4, [.int (nI T), .ref (adN0 51), .ref (adN0 52), .int (nI nw), .ref (adN0 53), .ref (adN0 54)]) := (hn27 50 (by omega)).trans hS50
    have hX := hX.kept (fun q h1 => hn27 q (by omega))
    have hS := hS.kept hn6 (fun q h1 h2 => hn27 q (by omega))
    refine lv_dup hx hb dX4_isSame_94 rfl ?_
    refine lv_bipush (v := 8) hx hb dX4_isSame_95 (by decide) ?_
    refine lv_aload hx hb dX4_isSame_97 (lv_at hl 0 rfl) ?_
    refine lv_bipush (v := 7) hx hb dX4_isSame_99 (by decide) ?_
    refine f_iald hx hb hG.1 hI rfl (hSm _ (by omega)) hB_i (vp_in_iff.mpr ⟨by decide, by decide⟩) dX4_isSame_101 ?_
    refine lv_topi (fun tv etv => ?_)
    have etv : tv = ((B i) 11) := etv.trans rfl
    subst etv
    refine f_iast hx hb hG.1 hI ha_due in_last hc_due (vp_in_iff.mpr ⟨by decide, by decide⟩) dX4_isSame_102 (fun E28 H locs hE29 hn30 hI => ?_)
    have hc_due : E28 90 = .inl (cI, 9, .inl (a9 ((B i) 3) ((B i) 4) ((B i) 5) ((B i) 6) ((B i) 7) 1 (p_time (B i)) ((B i) 10) ((B i) 11))) := hE29.trans (congrArg (fun f9 => (Sum.inl (cI, 9, Sum.inl f9) : va_E)) (a9_8 (x := ((B i) 11))))
    have hB_i : E28 (60 + i) = .inl (cI, 9, .inl (a9 ((B i) 3) ((B i) 4) ((B i) 5) ((B i) 6) ((B i) 7) (if (B i) 8 = 0 then -1 else (B i) 9) ((B i) 10) ((B i) 11) ((B i) 2))) := (hn30 (60 + i) (by omega)).trans hB_i
    have hS50 : E28 50 = .inr (4, [.int (nI T), .ref (adN0 51), .ref (adN0 52), .int (nI nw), .ref (adN0 53), .ref (adN0 54)]) := (hn30 50 (by omega)).trans hS50
    have hX := hX.kept (fun q h1 => hn30 q (by omega))
    have hS := hS.kept hn6 (fun q h1 h2 => hn30 q (by omega))
    have hv9 : ∀ v, v < 9 → (a9 ((B i) 3) ((B i) 4) ((B i) 5) ((B i) 6) ((B i) 7) 1 (p_time (B i)) ((B i) 10) ((B i) 11)) v = p_fact (B i) v := by
      intro v hv
      rcases (show v = 0 ∨ v = 1 ∨ v = 2 ∨ v = 3 ∨ v = 4 ∨ v = 5 ∨ v = 6 ∨ v = 7 ∨ v = 8 by omega) with rfl | rfl | rfl | rfl | rfl | rfl | rfl | rfl | rfl
      · rfl
      · rfl
      · rfl
      · rfl
      · rfl
      · exact ((if_neg h8i).symm : (1 : Int32) = if B i 8 = 0 then 0 else 1)
      · rfl
      · rfl
      · rfl
    obtain ⟨E9, g1, g2, g3⟩ := fI_arr (f := p_fact (B i)) hI hc_due hv9
    have hI := g3
    have hX := hX.kept (fun q h1 => g2 q (by omega))
    have hS := hS.kept hn6 (fun q h1 h2 => g2 q (by omega))
    have hc_due : E9 90 = .inl (cI, 9, .inl (p_fact (B i))) := g1
    refine lv_astore (lv' := [(5, .ref aN0), (4, .ref (adN0 (60 + i))), (0, .ref (adN0 50)), (1, .ref (adN0 0)), (2, .int (p_psum B i)), (3, .int (nI i))]) hx hb dX4_isSame_103 hl (by decide) rfl (fun ls hl => ?_)
    refine lv_iconst (v := 0) hx hb dX4_isSame_105 (by decide) ?_
    refine lv_istore (lv' := [(6, .int 0), (5, .ref aN0), (4, .ref (adN0 (60 + i))), (0, .ref (adN0 50)), (1, .ref (adN0 0)), (2, .int (p_psum B i)), (3, .int (nI i))]) hx hb dX4_isSame_106 hl (by decide) rfl (fun ls hl => ?_)
    have Kih : ∀ (k v : Nat), v ≤ 9 → 9 + 1 ≤ v + k → ∀ (Eb : Nat → va_E) (H : Heap) (locs : List Loc) (ls : Array Slot) (c1 s1 : Nat), c1 ≤ cells + 1 + v → s1 ≤ slots + 9 + 6 * v → (x_at cI cB adN0 Eb w p g nw n T B F) → (s_at cI cJ adN0 Eb w p g nw n T B F) → (Eb 90 = .inl (cI, 9, .inl (p_fact (B i)))) → fI D (fA z) s.heap adN0 (L ++ [90]) Eb H locs → lv_has ls 7 [(0, .ref (adN0 50)), (1, .ref (adN0 0)), (2, .int (p_psum B i)), (3, .int (nI i)), (4, .ref (adN0 (60 + i))), (5, .ref aN0), (6, .int (nI v))] → W pr l e ({ frames := 7, cells := 100, slots := 700, locals := 130 } : Room) s m args below meth c H locs c1 s1 Q (F0 m 108 ls []) := by
      intro k
      induction k with
      | zero => intro v h1 h2; exact absurd h2 (by omega)
      | succ k ih =>
        intro v hi1v hi2v Eb H locs ls c1 s1 hcih hsih hX hS hc_due hI hl
        refine lv_iload hx hb dX4_isSame_108 (lv_at hl 6 rfl) ?_
        refine lv_bipush (v := 9) hx hb dX4_isSame_110 (by decide) ?_
        refine lv_icmp_ge (tgt := 138) hx hb dX4_isSame_112 (by decide) (fun c_112 => ?_) (fun c_112 => ?_)
        · have n_112 := i_nlt.mpr c_112
          have hv0 : v = 9 := by have := (nI_leI (by omega) (by omega) (a := 9)).mp c_112; omega
          refine lv_aload_n hx hb dX4_isSame_138 rfl (lv_at hl 1 rfl) ?_
          refine lv_iload_n hx hb dX4_isSame_139 rfl (lv_at hl 3 rfl) ?_
          refine f_xcalli (vx_runV (As := [.int (nI i)]) (rest := []) ⟨hx, hb, hml, hown, hts⟩ (m_X3_rank l hl9 hX hnw hn6 hT h8 hXm (nI i)) (cwV 1 hts gX4_isSame_X3_rank rfl rfl rfl (by decide +kernel) ⟨(Nat.le_of_ble_eq_true rfl), (Nat.le_of_ble_eq_true rfl)⟩) (fPre_ofV hG hI rfl (hXm 0 (by omega)) hX.1 rfl rfl) rfl rfl hl.1 rfl (lv_room (Nat.le_of_ble_eq_true rfl)) dX4_isSame_140 ⟨(by show _ ≤ 100; omega), (by show _ ≤ 700; omega)⟩) hI (fun En ce q9 H locs hok hI hq1 hq2 hq3 => ?_) (fun r31 E32 H locs hp hI => ?_)
          · exact absurd hok.1 (by rw [crank_0 (n := n) (b := i) (by omega) hn6]; decide)
          obtain ⟨-, hr9, hX, hn9⟩ := hp
          have hr9 : r31 = (1 + p_rk B (B i) n) := hr9.trans (by rw [show (nI i).toNatClampNeg = i from nI_clamp (by omega)])
          subst hr9
          have hc_due : E32 90 = .inl (cI, 9, .inl (p_fact (B i))) := (hn9 90 (by omega)).trans hc_due
          have hS := hS.kept hn6 (fun q h1 h2 => hn9 q (by omega))
          refine lv_aload_n hx hb dX4_isSame_143 rfl (lv_at hl 0 rfl) ?_
          refine lv_aload hx hb dX4_isSame_144 (lv_at hl 4 rfl) ?_
          have hB_i : E32 (60 + i) = .inl (cI, 9, .inl (a9 ((B i) 3) ((B i) 4) ((B i) 5) ((B i) 6) ((B i) 7) (if (B i) 8 = 0 then -1 else (B i) 9) ((B i) 10) ((B i) 11) ((B i) 2))) := (hS.2.2.2.2.2 i (by omega)).1
          have hS50 : E32 50 = .inr (4, [.int (nI T), .ref (adN0 51), .ref (adN0 52), .int (nI nw), .ref (adN0 53), .ref (adN0 54)]) := hS.1
          refine f_calli1 (va_runV (As := [.ref (adN0 (60 + i))]) (rest := [.int (1 + p_rk B (B i) n)]) ⟨hx, hb, hml, hown, hts⟩ (m_X4_rank l hS hSm hn6 hok rfl (hSm _ (by omega)) (b := B i) hB_i (fun q9 => ((hok i hi).2.2.1 q9).2)) (cwV 1 hts gX4_isSame_X4_rank rfl rfl rfl (by decide +kernel) ⟨(Nat.le_of_ble_eq_true rfl), (Nat.le_of_ble_eq_true rfl)⟩) (fPre_ofV hG hI rfl (hSm _ (by omega)) hS50 rfl rfl) rfl rfl hl.1 rfl (lv_room (Nat.le_of_ble_eq_true rfl)) dX4_isSame_146 ⟨(by show _ ≤ 100; omega), (by show _ ≤ 700; omega)⟩) hI (fun r33 E34 H locs hp hI => ?_)
          obtain ⟨he, hq9⟩ := hp
          rw [hq9] at hI
          have he : r33 = 1 + p_rk B (B i) n := he
          subst he
          refine lv_icmp_eq (tgt := 154) hx hb dX4_isSame_149 (by decide) (fun c_149 => ?_) (fun c_149 => ?_)
          · refine lv_iload_n hx hb dX4_isSame_154 rfl (lv_at hl 2 rfl) ?_
            refine lv_aload hx hb dX4_isSame_155 (lv_at hl 4 rfl) ?_
            refine lv_iconst (v := 0) hx hb dX4_isSame_157 (by decide) ?_
            refine f_iald hx hb hG.1 hI rfl (hSm _ (by omega)) hB_i (vp_in_iff.mpr ⟨by decide, by decide⟩) dX4_isSame_158 ?_
            refine lv_topi (fun tv etv => ?_)
            have etv : tv = ((B i) 3) := etv.trans rfl
            subst etv
            refine lv_iadd hx hb dX4_isSame_159 ?_
            refine lv_topi (fun tv etv => ?_)
            have etv : tv = (p_psum B (i + 1)) := etv.trans (rfl)
            subst etv
            refine lv_istore_n (lv' := [(2, .int (p_psum B (i + 1))), (0, .ref (adN0 50)), (1, .ref (adN0 0)), (3, .int (nI i)), (4, .ref (adN0 (60 + i))), (5, .ref aN0), (6, .int (nI v))]) hx hb dX4_isSame_160 rfl hl (by decide) rfl (fun ls hl => ?_)
            have hI := fI_sub (E := E32) hI (fun q hq => hr0 q (by have := hLt q hq; omega)) (fun _ _ => rfl)
            have hX := hX.ad (fun q h1 => (hr0 q (by omega)).symm)
            have hS := hS.ad hn6 (fun q h1 h2 => (hr0 q (by omega)).symm)
            have e50 := hr0 50 (by omega)
            have e0 := hr0 0 (by omega)
            exact kk E32 H locs ls _ _ (by omega) (by omega) hX hS hI (by rw [← e50, ← e0]; exact (lv_sub hl [1, 2, 0, 3] rfl))
          · exact absurd rfl c_149
        · have n_112 := c_112
          have c_112 := i_nle.mp n_112
          have hv0 : v < 9 := (nI_ltI (by omega) (by omega) (b := 9)).mp c_112
          have hcl : (nI v).toNatClampNeg = v := nI_clamp (by omega)
          refine lv_aload_n hx hb dX4_isSame_115 rfl (lv_at hl 1 rfl) ?_
          refine lv_iload_n hx hb dX4_isSame_116 rfl (lv_at hl 3 rfl) ?_
          refine lv_iload hx hb dX4_isSame_117 (lv_at hl 6 rfl) ?_
          refine f_xcalli (vx_runV (As := [.int (nI i), .int (nI v)]) (rest := []) ⟨hx, hb, hml, hown, hts⟩ (m_X3_boat l hl9 hX hnw hn6 hT h8 hXm (nI i) (nI v)) (cwV 2 hts gX4_isSame_X3_boat rfl rfl rfl (by decide +kernel) ⟨(Nat.le_of_ble_eq_true rfl), (Nat.le_of_ble_eq_true rfl)⟩) (fPre_ofV hG hI rfl (hXm 0 (by omega)) hX.1 rfl rfl) rfl rfl hl.1 rfl (lv_room (Nat.le_of_ble_eq_true rfl)) dX4_isSame_119 ⟨(by show _ ≤ 100; omega), (by show _ ≤ 700; omega)⟩) hI (fun En ce q9 H locs hok hI hq1 hq2 hq3 => ?_) (fun r35 E36 H locs hp hI => ?_)
          · exact absurd hok.1 (by rw [cboat_0 (n := n) (b := i) (v := v) (by omega) hn6 (by omega)]; decide)
          obtain ⟨-, hr9, hX, hn9⟩ := hp
          have hr9 : r35 = (p_fact (B i) v) := hr9.trans (by rw [show (nI i).toNatClampNeg = i from nI_clamp (by omega), show (nI v).toNatClampNeg = v from nI_clamp (by omega)])
          subst hr9
          have hc_due : E36 90 = .inl (cI, 9, .inl (p_fact (B i))) := (hn9 90 (by omega)).trans hc_due
          have hS := hS.kept hn6 (fun q h1 h2 => hn9 q (by omega))
          refine lv_aload hx hb dX4_isSame_122 (lv_at hl 5 rfl) ?_
          refine lv_iload hx hb dX4_isSame_124 (lv_at hl 6 rfl) ?_
          refine f_iald hx hb hG.1 hI ha_due in_last hc_due (vp_in_nI (by omega) (by omega)) dX4_isSame_126 ?_
          rw [show (nI v).toNatClampNeg = v from nI_clamp (by omega)]
          refine lv_icmp_eq (tgt := 132) hx hb dX4_isSame_127 (by decide) (fun c_127 => ?_) (fun c_127 => ?_)
          · refine lv_iinc (v := (nI (v + 1))) (lv' := [(6, .int (nI (v + 1))), (0, .ref (adN0 50)), (1, .ref (adN0 0)), (2, .int (p_psum B i)), (3, .int (nI i)), (4, .ref (adN0 (60 + i))), (5, .ref aN0)]) hx hb dX4_isSame_132 hl (k := 6) rfl (nI_1 v) (by decide) rfl (fun ls hl => ?_)
            refine lv_goto (tgt := 108) hx hb dX4_isSame_135 (by decide) ?_
            exact ih (v + 1) (by omega) (by omega) E36 H locs ls _ _ (by omega) (by omega) hX hS hc_due hI (lv_sub hl [1, 2, 3, 4, 5, 6, 0] rfl)
          · exact absurd rfl c_127
    exact Kih (9 + 1) 0 (Nat.zero_le _) (by omega) E9 H locs ls _ _ (by omega) (by omega) hX hS hc_due hI (lv_sub hl [3, 4, 5, 6, 2, 1, 0] rfl)
  · have n_66 := c_66
    have c_66 := i_nle.mp n_66
    have h8i : B i 8 = 0 := ((tin_lt (fun q9 => ((hok i hi).2.2.1 q9).2))).mp c_66
    refine lv_iconst (v := 0) hx hb dX4_isSame_69 (by decide) ?_
    refine lv_goto (tgt := 74) hx hb dX4_isSame_70 (by decide) ?_
    refine f_iast hx hb hG.1 hI ha_due in_last hc_due (vp_in_iff.mpr ⟨by decide, by decide⟩) dX4_isSame_74 (fun E37 H locs hE38 hn39 hI => ?_)
    have hc_due : E37 90 = .inl (cI, 9, .inl (a9 ((B i) 3) ((B i) 4) ((B i) 5) ((B i) 6) ((B i) 7) 0 0 0 0)) := hE38.trans (congrArg (fun f9 => (Sum.inl (cI, 9, Sum.inl f9) : va_E)) (a9_5 (x := 0)))
    have hB_i : E37 (60 + i) = .inl (cI, 9, .inl (a9 ((B i) 3) ((B i) 4) ((B i) 5) ((B i) 6) ((B i) 7) (if (B i) 8 = 0 then -1 else (B i) 9) ((B i) 10) ((B i) 11) ((B i) 2))) := (hn39 (60 + i) (by omega)).trans hB_i
    have hX := hX.kept (fun q h1 => hn39 q (by omega))
    have hS := hS.kept hn6 (fun q h1 h2 => hn39 q (by omega))
    refine lv_dup hx hb dX4_isSame_75 rfl ?_
    refine lv_bipush (v := 6) hx hb dX4_isSame_76 (by decide) ?_
    refine lv_aload_n hx hb dX4_isSame_78 rfl (lv_at hl 1 rfl) ?_
    refine lv_aload hx hb dX4_isSame_79 (lv_at hl 0 rfl) ?_
    have hS50 : E37 50 = .inr (4, [.int (nI T), .ref (adN0 51), .ref (adN0 52), .int (nI nw), .ref (adN0 53), .ref (adN0 54)]) := hS.1
    refine f_calli1 (va_runV (As := [.ref (adN0 (60 + i))]) (rest := [.int 6, .ref aN0, .ref aN0]) ⟨hx, hb, hml, hown, hts⟩ (m_X4_time l rfl (hSm _ (by omega)) (b := B i) hB_i (fun q9 => ((hok i hi).2.2.1 q9).2)) (cwV 1 hts gX4_isSame_X4_time rfl rfl rfl (by decide +kernel) ⟨(Nat.le_of_ble_eq_true rfl), (Nat.le_of_ble_eq_true rfl)⟩) (fPre_ofV hG hI rfl (hSm _ (by omega)) hS50 rfl rfl) rfl rfl hl.1 rfl (lv_room (Nat.le_of_ble_eq_true rfl)) dX4_isSame_81 ⟨(by show _ ≤ 100; omega), (by show _ ≤ 700; omega)⟩) hI (fun r40 E41 H locs hp hI => ?_)
    obtain ⟨he, hq9⟩ := hp
    rw [hq9] at hI
    have he : r40 = p_time (B i) := he
    subst he
    refine f_iast hx hb hG.1 hI ha_due in_last hc_due (vp_in_iff.mpr ⟨by decide, by decide⟩) dX4_isSame_84 (fun E42 H locs hE43 hn44 hI => ?_)
    have hc_due : E42 90 = .inl (cI, 9, .inl (a9 ((B i) 3) ((B i) 4) ((B i) 5) ((B i) 6) ((B i) 7) 0 (p_time (B i)) 0 0)) := hE43.trans (congrArg (fun f9 => (Sum.inl (cI, 9, Sum.inl f9) : va_E)) (a9_6 (x := (p_time (B i)))))
    have hB_i : E42 (60 + i) = .inl (cI, 9, .inl (a9 ((B i) 3) ((B i) 4) ((B i) 5) ((B i) 6) ((B i) 7) (if (B i) 8 = 0 then -1 else (B i) 9) ((B i) 10) ((B i) 11) ((B i) 2))) := (hn44 (60 + i) (by omega)).trans hB_i
    have hS50 : E42 50 = .inr (4, [.int (nI T), .ref (adN0 51), .ref (adN0 52), .int (nI nw), .ref (adN0 53), .ref (adN0 54)]) := (hn44 50 (by omega)).trans hS50
    have hX := hX.kept (fun q h1 => hn44 q (by omega))
    have hS := hS.kept hn6 (fun q h1 h2 => hn44 q (by omega))
    refine lv_dup hx hb dX4_isSame_85 rfl ?_
    refine lv_bipush (v := 7) hx hb dX4_isSame_86 (by decide) ?_
    refine lv_aload hx hb dX4_isSame_88 (lv_at hl 0 rfl) ?_
    refine lv_bipush (v := 6) hx hb dX4_isSame_90 (by decide) ?_
    refine f_iald hx hb hG.1 hI rfl (hSm _ (by omega)) hB_i (vp_in_iff.mpr ⟨by decide, by decide⟩) dX4_isSame_92 ?_
    refine lv_topi (fun tv etv => ?_)
    have etv : tv = ((B i) 10) := etv.trans rfl
    subst etv
    refine f_iast hx hb hG.1 hI ha_due in_last hc_due (vp_in_iff.mpr ⟨by decide, by decide⟩) dX4_isSame_93 (fun E45 H locs hE46 hn47 hI => ?_)
    have hc_due : E45 90 = .inl (cI, 9, .inl (a9 ((B i) 3) ((B i) 4) ((B i) 5) ((B i) 6) ((B i) 7) 0 (p_time (B i)) ((B i) 10) 0)) := hE46.trans (congrArg (fun f9 => (Sum.inl (cI, 9, Sum.inl f9) : va_E)) (a9_7 (x := ((B i) 10))))
    have hB_i : E45 (60 + i) = .inl (cI, 9, .inl (a9 ((B i) 3) ((B i) 4) ((B i) 5) ((B i) 6) ((B i) 7) (if (B i) 8 = 0 then -1 else (B i) 9) ((B i) 10) ((B i) 11) ((B i) 2))) := (hn47 (60 + i) (by omega)).trans hB_i
    have hS50 : E45 50 = .inr (4, [.int (nI T), .ref (adN0 51), .ref (adN0 52), .int (nI nw), .ref (adN0 53), .ref (adN0 54)]) := (hn47 50 (by omega)).trans hS50
    have hX := hX.kept (fun q h1 => hn47 q (by omega))
    have hS := hS.kept hn6 (fun q h1 h2 => hn47 q (by omega))
    refine lv_dup hx hb dX4_isSame_94 rfl ?_
    refine lv_bipush (v := 8) hx hb dX4_isSame_95 (by decide) ?_
    refine lv_aload hx hb dX4_isSame_97 (lv_at hl 0 rfl) ?_
    refine lv_bipush (v := 7) hx hb dX4_isSame_99 (by decide) ?_
    refine f_iald hx hb hG.1 hI rfl (hSm _ (by omega)) hB_i (vp_in_iff.mpr ⟨by decide, by decide⟩) dX4_isSame_101 ?_
    refine lv_topi (fun tv etv => ?_)
    have etv : tv = ((B i) 11) := etv.trans rfl
    subst etv
    refine f_iast hx hb hG.1 hI ha_due in_last hc_due (vp_in_iff.mpr ⟨by decide, by decide⟩) dX4_isSame_102 (fun E48 H locs hE49 hn50 hI => ?_)
    have hc_due : E48 90 = .inl (cI, 9, .inl (a9 ((B i) 3) ((B i) 4) ((B i) 5) ((B i) 6) ((B i) 7) 0 (p_time (B i)) ((B i) 10) ((B i) 11))) := hE49.trans (congrArg (fun f9 => (Sum.inl (cI, 9, Sum.inl f9) : va_E)) (a9_8 (x := ((B i) 11))))
    have hB_i : E48 (60 + i) = .inl (cI, 9, .inl (a9 ((B i) 3) ((B i) 4) ((B i) 5) ((B i) 6) ((B i) 7) (if (B i) 8 = 0 then -1 else (B i) 9) ((B i) 10) ((B i) 11) ((B i) 2))) := (hn50 (60 + i) (by omega)).trans hB_i
    have hS50 : E48 50 = .inr (4, [.int (nI T), .ref (adN0 51), .ref (adN0 52), .int (nI nw), .ref (adN0 53), .ref (adN0 54)]) := (hn50 50 (by omega)).trans hS50
    have hX := hX.kept (fun q h1 => hn50 q (by omega))
    have hS := hS.kept hn6 (fun q h1 h2 => hn50 q (by omega))
    have hv9 : ∀ v, v < 9 → (a9 ((B i) 3) ((B i) 4) ((B i) 5) ((B i) 6) ((B i) 7) 0 (p_time (B i)) ((B i) 10) ((B i) 11)) v = p_fact (B i) v := by
      intro v hv
      rcases (show v = 0 ∨ v = 1 ∨ v = 2 ∨ v = 3 ∨ v = 4 ∨ v = 5 ∨ v = 6 ∨ v = 7 ∨ v = 8 by omega) with rfl | rfl | rfl | rfl | rfl | rfl | rfl | rfl | rfl
      · rfl
      · rfl
      · rfl
      · rfl
      · rfl
      · exact ((if_pos h8i).symm : (0 : Int32) = if B i 8 = 0 then 0 else 1)
      · rfl
      · rfl
      · rfl
    obtain ⟨E9, g1, g2, g3⟩ := fI_arr (f := p_fact (B i)) hI hc_due hv9
    have hI := g3
    have hX := hX.kept (fun q h1 => g2 q (by omega))
    have hS := hS.kept hn6 (fun q h1 h2 => g2 q (by omega))
    have hc_due : E9 90 = .inl (cI, 9, .inl (p_fact (B i))) := g1
    refine lv_astore (lv' := [(5, .ref aN0), (4, .ref (adN0 (60 + i))), (0, .ref (adN0 50)), (1, .ref (adN0 0)), (2, .int (p_psum B i)), (3, .int (nI i))]) hx hb dX4_isSame_103 hl (by decide) rfl (fun ls hl => ?_)
    refine lv_iconst (v := 0) hx hb dX4_isSame_105 (by decide) ?_
    refine lv_istore (lv' := [(6, .int 0), (5, .ref aN0), (4, .ref (adN0 (60 + i))), (0, .ref (adN0 50)), (1, .ref (adN0 0)), (2, .int (p_psum B i)), (3, .int (nI i))]) hx hb dX4_isSame_106 hl (by decide) rfl (fun ls hl => ?_)
    have Kih : ∀ (k v : Nat), v ≤ 9 → 9 + 1 ≤ v + k → ∀ (Eb : Nat → va_E) (H : Heap) (locs : List Loc) (ls : Array Slot) (c1 s1 : Nat), c1 ≤ cells + 1 + v → s1 ≤ slots + 9 + 6 * v → (x_at cI cB adN0 Eb w p g nw n T B F) → (s_at cI cJ adN0 Eb w p g nw n T B F) → (Eb 90 = .inl (cI, 9, .inl (p_fact (B i)))) → fI D (fA z) s.heap adN0 (L ++ [90]) Eb H locs → lv_has ls 7 [(0, .ref (adN0 50)), (1, .ref (adN0 0)), (2, .int (p_psum B i)), (3, .int (nI i)), (4, .ref (adN0 (60 + i))), (5, .ref aN0), (6, .int (nI v))] → W pr l e ({ frames := 7, cells := 100, slots := 700, locals := 130 } : Room) s m args below meth c H locs c1 s1 Q (F0 m 108 ls []) := by
      intro k
      induction k with
      | zero => intro v h1 h2; exact absurd h2 (by omega)
      | succ k ih =>
        intro v hi1v hi2v Eb H locs ls c1 s1 hcih hsih hX hS hc_due hI hl
        refine lv_iload hx hb dX4_isSame_108 (lv_at hl 6 rfl) ?_
        refine lv_bipush (v := 9) hx hb dX4_isSame_110 (by decide) ?_
        refine lv_icmp_ge (tgt := 138) hx hb dX4_isSame_112 (by decide) (fun c_112 => ?_) (fun c_112 => ?_)
        · have n_112 := i_nlt.mpr c_112
          have hv0 : v = 9 := by have := (nI_leI (by omega) (by omega) (a := 9)).mp c_112; omega
          refine lv_aload_n hx hb dX4_isSame_138 rfl (lv_at hl 1 rfl) ?_
          refine lv_iload_n hx hb dX4_isSame_139 rfl (lv_at hl 3 rfl) ?_
          refine f_xcalli (vx_runV (As := [.int (nI i)]) (rest := []) ⟨hx, hb, hml, hown, hts⟩ (m_X3_rank l hl9 hX hnw hn6 hT h8 hXm (nI i)) (cwV 1 hts gX4_isSame_X3_rank rfl rfl rfl (by decide +kernel) ⟨(Nat.le_of_ble_eq_true rfl), (Nat.le_of_ble_eq_true rfl)⟩) (fPre_ofV hG hI rfl (hXm 0 (by omega)) hX.1 rfl rfl) rfl rfl hl.1 rfl (lv_room (Nat.le_of_ble_eq_true rfl)) dX4_isSame_140 ⟨(by show _ ≤ 100; omega), (by show _ ≤ 700; omega)⟩) hI (fun En ce q9 H locs hok hI hq1 hq2 hq3 => ?_) (fun r51 E52 H locs hp hI => ?_)
          · exact absurd hok.1 (by rw [crank_0 (n := n) (b := i) (by omega) hn6]; decide)
          obtain ⟨-, hr9, hX, hn9⟩ := hp
          have hr9 : r51 = (1 + p_rk B (B i) n) := hr9.trans (by rw [show (nI i).toNatClampNeg = i from nI_clamp (by omega)])
          subst hr9
          have hc_due : E52 90 = .inl (cI, 9, .inl (p_fact (B i))) := (hn9 90 (by omega)).trans hc_due
          have hS := hS.kept hn6 (fun q h1 h2 => hn9 q (by omega))
          refine lv_aload_n hx hb dX4_isSame_143 rfl (lv_at hl 0 rfl) ?_
          refine lv_aload hx hb dX4_isSame_144 (lv_at hl 4 rfl) ?_
          have hB_i : E52 (60 + i) = .inl (cI, 9, .inl (a9 ((B i) 3) ((B i) 4) ((B i) 5) ((B i) 6) ((B i) 7) (if (B i) 8 = 0 then -1 else (B i) 9) ((B i) 10) ((B i) 11) ((B i) 2))) := (hS.2.2.2.2.2 i (by omega)).1
          have hS50 : E52 50 = .inr (4, [.int (nI T), .ref (adN0 51), .ref (adN0 52), .int (nI nw), .ref (adN0 53), .ref (adN0 54)]) := hS.1
          refine f_calli1 (va_runV (As := [.ref (adN0 (60 + i))]) (rest := [.int (1 + p_rk B (B i) n)]) ⟨hx, hb, hml, hown, hts⟩ (m_X4_rank l hS hSm hn6 hok rfl (hSm _ (by omega)) (b := B i) hB_i (fun q9 => ((hok i hi).2.2.1 q9).2)) (cwV 1 hts gX4_isSame_X4_rank rfl rfl rfl (by decide +kernel) ⟨(Nat.le_of_ble_eq_true rfl), (Nat.le_of_ble_eq_true rfl)⟩) (fPre_ofV hG hI rfl (hSm _ (by omega)) hS50 rfl rfl) rfl rfl hl.1 rfl (lv_room (Nat.le_of_ble_eq_true rfl)) dX4_isSame_146 ⟨(by show _ ≤ 100; omega), (by show _ ≤ 700; omega)⟩) hI (fun r53 E54 H locs hp hI => ?_)
          obtain ⟨he, hq9⟩ := hp
          rw [hq9] at hI
          have he : r53 = 1 + p_rk B (B i) n := he
          subst he
          refine lv_icmp_eq (tgt := 154) hx hb dX4_isSame_149 (by decide) (fun c_149 => ?_) (fun c_149 => ?_)
          · refine lv_iload_n hx hb dX4_isSame_154 rfl (lv_at hl 2 rfl) ?_
            refine lv_aload hx hb dX4_isSame_155 (lv_at hl 4 rfl) ?_
            refine lv_iconst (v := 0) hx hb dX4_isSame_157 (by decide) ?_
            refine f_iald hx hb hG.1 hI rfl (hSm _ (by omega)) hB_i (vp_in_iff.mpr ⟨by decide, by decide⟩) dX4_isSame_158 ?_
            refine lv_topi (fun tv etv => ?_)
            have etv : tv = ((B i) 3) := etv.trans rfl
            subst etv
            refine lv_iadd hx hb dX4_isSame_159 ?_
            refine lv_topi (fun tv etv => ?_)
            have etv : tv = (p_psum B (i + 1)) := etv.trans (rfl)
            subst etv
            refine lv_istore_n (lv' := [(2, .int (p_psum B (i + 1))), (0, .ref (adN0 50)), (1, .ref (adN0 0)), (3, .int (nI i)), (4, .ref (adN0 (60 + i))), (5, .ref aN0), (6, .int (nI v))]) hx hb dX4_isSame_160 rfl hl (by decide) rfl (fun ls hl => ?_)
            have hI := fI_sub (E := E52) hI (fun q hq => hr0 q (by have := hLt q hq; omega)) (fun _ _ => rfl)
            have hX := hX.ad (fun q h1 => (hr0 q (by omega)).symm)
            have hS := hS.ad hn6 (fun q h1 h2 => (hr0 q (by omega)).symm)
            have e50 := hr0 50 (by omega)
            have e0 := hr0 0 (by omega)
            exact kk E52 H locs ls _ _ (by omega) (by omega) hX hS hI (by rw [← e50, ← e0]; exact (lv_sub hl [1, 2, 0, 3] rfl))
          · exact absurd rfl c_149
        · have n_112 := c_112
          have c_112 := i_nle.mp n_112
          have hv0 : v < 9 := (nI_ltI (by omega) (by omega) (b := 9)).mp c_112
          have hcl : (nI v).toNatClampNeg = v := nI_clamp (by omega)
          refine lv_aload_n hx hb dX4_isSame_115 rfl (lv_at hl 1 rfl) ?_
          refine lv_iload_n hx hb dX4_isSame_116 rfl (lv_at hl 3 rfl) ?_
          refine lv_iload hx hb dX4_isSame_117 (lv_at hl 6 rfl) ?_
          refine f_xcalli (vx_runV (As := [.int (nI i), .int (nI v)]) (rest := []) ⟨hx, hb, hml, hown, hts⟩ (m_X3_boat l hl9 hX hnw hn6 hT h8 hXm (nI i) (nI v)) (cwV 2 hts gX4_isSame_X3_boat rfl rfl rfl (by decide +kernel) ⟨(Nat.le_of_ble_eq_true rfl), (Nat.le_of_ble_eq_true rfl)⟩) (fPre_ofV hG hI rfl (hXm 0 (by omega)) hX.1 rfl rfl) rfl rfl hl.1 rfl (lv_room (Nat.le_of_ble_eq_true rfl)) dX4_isSame_119 ⟨(by show _ ≤ 100; omega), (by show _ ≤ 700; omega)⟩) hI (fun En ce q9 H locs hok hI hq1 hq2 hq3 => ?_) (fun r55 E56 H locs hp hI => ?_)
          · exact absurd hok.1 (by rw [cboat_0 (n := n) (b := i) (v := v) (by omega) hn6 (by omega)]; decide)
          obtain ⟨-, hr9, hX, hn9⟩ := hp
          have hr9 : r55 = (p_fact (B i) v) := hr9.trans (by rw [show (nI i).toNatClampNeg = i from nI_clamp (by omega), show (nI v).toNatClampNeg = v from nI_clamp (by omega)])
          subst hr9
          have hc_due : E56 90 = .inl (cI, 9, .inl (p_fact (B i))) := (hn9 90 (by omega)).trans hc_due
          have hS := hS.kept hn6 (fun q h1 h2 => hn9 q (by omega))
          refine lv_aload hx hb dX4_isSame_122 (lv_at hl 5 rfl) ?_
          refine lv_iload hx hb dX4_isSame_124 (lv_at hl 6 rfl) ?_
          refine f_iald hx hb hG.1 hI ha_due in_last hc_due (vp_in_nI (by omega) (by omega)) dX4_isSame_126 ?_
          rw [show (nI v).toNatClampNeg = v from nI_clamp (by omega)]
          refine lv_icmp_eq (tgt := 132) hx hb dX4_isSame_127 (by decide) (fun c_127 => ?_) (fun c_127 => ?_)
          · refine lv_iinc (v := (nI (v + 1))) (lv' := [(6, .int (nI (v + 1))), (0, .ref (adN0 50)), (1, .ref (adN0 0)), (2, .int (p_psum B i)), (3, .int (nI i)), (4, .ref (adN0 (60 + i))), (5, .ref aN0)]) hx hb dX4_isSame_132 hl (k := 6) rfl (nI_1 v) (by decide) rfl (fun ls hl => ?_)
            refine lv_goto (tgt := 108) hx hb dX4_isSame_135 (by decide) ?_
            exact ih (v + 1) (by omega) (by omega) E56 H locs ls _ _ (by omega) (by omega) hX hS hc_due hI (lv_sub hl [1, 2, 3, 4, 5, 6, 0] rfl)
          · exact absurd rfl c_127
    exact Kih (9 + 1) 0 (Nat.zero_le _) (by omega) E9 H locs ls _ _ (by omega) (by omega) hX hS hc_due hI (lv_sub hl [3, 4, 5, 6, 2, 1, 0] rfl)

set_option maxHeartbeats 4000000 in
set_option maxRecDepth 100000 in
theorem m_X4_isSame (l : Launch) {D : va_G} {cI cJ cB : ClassId} {t0 z : Nat} {tx ad : Nat → Nat} {L : List Nat} {E : Nat → va_E} (hl9 : l.stackTraces = false) {w p g : Nat → Int32} {nw n T : Nat} {B F : Nat → Nat → Int32} (hL0 : okL w p g nw n T B) (hT : T < 2 ^ 30) (hLt : ∀ k, k ∈ L → k < 80) (hXm : ∀ k, k < 5 ∨ (10 ≤ k ∧ k < 24) ∨ (30 ≤ k ∧ k < 44) → k ∈ L) (hSm : ∀ k, (50 ≤ k ∧ k < 55) ∨ (60 ≤ k ∧ k < 60 + n) ∨ (70 ≤ k ∧ k < 70 + n) → k ∈ L) (hX : x_at cI cB ad E w p g nw n T B F) (hS : s_at cI cJ ad E w p g nw n T B F) : Met l yX4_isSame wsX4_isSame ({ frames := 7, cells := 100, slots := 700, locals := 130 } : Room) (va_Pc [.ref (ad 50), .ref (ad 0)] (fPre D cI cJ cB t0 z tx ad L E)) (va_Qi (fun (r : Int32) (_ : Unit) => r = 1) (fun _ _ => True) (fA z)) 100 700 (fA z) := by
  refine f_ofW (cc := cX4_isSame) (maxL := 7) (ret := some .boolean) (by decide) rfl (Nat.le_of_ble_eq_true rfl) ?_
  intro pr e s m args below meth c Q hx hb hr hml hts hown hlocks hin hG H locs hI hQ ls hl
  have hl : lv_has ls 7 [(0, .ref (ad 50)), (1, .ref (ad 0))] := hl
  have hnw := hL0.1
  have hn6 := hL0.2.1
  have h8 := hL0.h8
  have hok := hL0.2.2.2.1
  refine lv_iconst (v := 0) hx hb dX4_isSame_0 (by decide) ?_
  refine lv_istore_n (lv' := [(2, .int 0), (0, .ref (ad 50)), (1, .ref (ad 0))]) hx hb dX4_isSame_1 rfl hl (by decide) rfl (fun ls hl => ?_)
  refine lv_iconst (v := 0) hx hb dX4_isSame_2 (by decide) ?_
  refine lv_istore_n (lv' := [(3, .int 0), (2, .int 0), (0, .ref (ad 50)), (1, .ref (ad 0))]) hx hb dX4_isSame_3 rfl hl (by decide) rfl (fun ls hl => ?_)
  have Kih : ∀ (k i : Nat), i ≤ n → n + 1 ≤ i + k → ∀ (Ea : Nat → va_E) (H : Heap) (locs : List Loc) (ls : Array Slot) (c1 s1 : Nat), c1 ≤ 12 * i → s1 ≤ 80 * i → (x_at cI cB ad Ea w p g nw n T B F) → (s_at cI cJ ad Ea w p g nw n T B F) → fI D (fA z) s.heap ad L Ea H locs → lv_has ls 7 [(0, .ref (ad 50)), (1, .ref (ad 0)), (2, .int (p_psum B i)), (3, .int (nI i))] → W pr l e ({ frames := 7, cells := 100, slots := 700, locals := 130 } : Room) s m args below meth c H locs c1 s1 Q (F0 m 4 ls []) := by
    intro k
    induction k with
    | zero => intro i h1 h2; exact absurd h2 (by omega)
    | succ k ih =>
      intro i hi1i hi2i Ea H locs ls c1 s1 hcih hsih hX hS hI hl
      refine lv_iload_n hx hb dX4_isSame_4 rfl (lv_at hl 3 rfl) ?_
      refine lv_aload_n hx hb dX4_isSame_5 rfl (lv_at hl 0 rfl) ?_
      have hS50 : Ea 50 = .inr (4, [.int (nI T), .ref (ad 51), .ref (ad 52), .int (nI nw), .ref (ad 53), .ref (ad 54)]) := hS.1
      refine f_get (ci := 4) (v := .ref (ad 53)) (C := RX4) (T := TX4) (N := 6) hx hb hts (by decide +kernel) hown hG.1 hI rfl (hSm _ (by omega)) hS50 rfl 4 (by decide) (hts (.fieldLink RX4 17 "CoracleRaceLaw$Sim" "boats" "[[I") (by decide +kernel)) rfl dX4_isSame_6 ?_
      have hS53 : Ea 53 = .inl (cJ, n, .inr (.inr (.inr (.inr (row_at ad 60 n))))) := hS.2.2.2.1
      refine f_alenA hx hb hG.1 hI rfl (hSm _ (by omega)) hS53 (v := nI n) rfl dX4_isSame_9 ?_
      refine lv_icmp_ge (tgt := 167) hx hb dX4_isSame_10 (by decide) (fun c_10 => ?_) (fun c_10 => ?_)
      · have n_10 := i_nlt.mpr c_10
        have hi : i = n := by have := (nI_leI (by omega) (by omega)).mp c_10; omega
        rw [hi] at hl hcih hsih
        refine lv_aload_n hx hb dX4_isSame_167 rfl (lv_at hl 0 rfl) ?_
        refine f_callr (va_runV (As := []) (rest := []) ⟨hx, hb, hml, hown, hts⟩ (m_X4_counts l hS hSm hn6 hok (kn := 91) (fun h9 => absurd (hLt _ h9) (by omega))) (cwV 0 hts gX4_isSame_X4_counts rfl rfl rfl (by decide +kernel) ⟨(Nat.le_of_ble_eq_true rfl), (Nat.le_of_ble_eq_true rfl)⟩) (fPre_ofV hG hI rfl (hSm _ (by omega)) hS50 rfl rfl) rfl rfl hl.1 rfl (lv_room (Nat.le_of_ble_eq_true rfl)) dX4_isSame_168 ⟨(by show _ ≤ 100; omega), (by show _ ≤ 700; omega)⟩) hI (fun adN1 EN2 H locs ra3 hra hp hI => ?_)
        obtain ⟨hr91, hEr91, hc_due⟩ := hp
        have hX := (hX.ad (fun q h1 => hr91 q (by omega))).kept (fun q h1 => hEr91 q (by omega))
        have hS := (hS.ad hn6 (fun q h1 h2 => hr91 q (by omega))).kept hn6 (fun q h1 h2 => hEr91 q (by omega))
        have hXm := fun k hk => List.mem_append_left [91] (hXm k hk)
        have hSm := fun k hk => List.mem_append_left [91] (hSm k hk)
        have e50 : adN1 50 = ad 50 := hr91 50 (by omega)
        have e0 : adN1 0 = ad 0 := hr91 0 (by omega)
        have hl : lv_has ls 7 [(0, .ref (adN1 50)), (1, .ref (adN1 0)), (2, .int (p_psum B n)), (3, .int (nI n))] := by rw [e50, e0]; exact hl
        refine lv_astore_n (lv' := [(3, .ref ra3), (0, .ref (adN1 50)), (1, .ref (adN1 0)), (2, .int (p_psum B n))]) hx hb dX4_isSame_171 rfl hl (by decide) rfl (fun ls hl => ?_)
        refine lv_iconst (v := 0) hx hb dX4_isSame_172 (by decide) ?_
        refine lv_istore (lv' := [(4, .int 0), (3, .ref ra3), (0, .ref (adN1 50)), (1, .ref (adN1 0)), (2, .int (p_psum B n))]) hx hb dX4_isSame_173 hl (by decide) rfl (fun ls hl => ?_)
        have Kih2 : ∀ (k2 v : Nat), v ≤ 7 → 7 + 1 ≤ v + k2 → ∀ (Ec : Nat → va_E) (H : Heap) (locs : List Loc) (ls : Array Slot) (c3 s3 : Nat), c3 ≤ 80 + v → s3 ≤ 490 + 6 * v → (x_at cI cB adN1 Ec w p g nw n T B F) → (s_at cI cJ adN1 Ec w p g nw n T B F) → (Ec 91 = .inl (cI, 7, .inl (p_cnt nw n T B))) → fI D (fA z) s.heap adN1 (L ++ [91]) Ec H locs → lv_has ls 7 [(0, .ref (adN1 50)), (1, .ref (adN1 0)), (2, .int (p_psum B n)), (3, .ref ra3), (4, .int (nI v))] → W pr l e ({ frames := 7, cells := 100, slots := 700, locals := 130 } : Room) s m args below meth c H locs c3 s3 Q (F0 m 175 ls []) := by
          intro k2
          induction k2 with
          | zero => intro v h1 h2; exact absurd h2 (by omega)
          | succ k2 ih2 =>
            intro v hi1v hi2v Ec H locs ls c3 s3 hcih2 hsih2 hX hS hc_due hI hl
            refine lv_iload hx hb dX4_isSame_175 (lv_at hl 4 rfl) ?_
            refine lv_bipush (v := 7) hx hb dX4_isSame_177 (by decide) ?_
            refine lv_icmp_ge (tgt := 203) hx hb dX4_isSame_179 (by decide) (fun c_179 => ?_) (fun c_179 => ?_)
            · have n_179 := i_nlt.mpr c_179
              have hv0 : v = 7 := by have := (nI_leI (by omega) (by omega) (a := 7)).mp c_179; omega
              refine lv_aload_n hx hb dX4_isSame_203 rfl (lv_at hl 1 rfl) ?_
              refine f_calld1 (va_runV (As := []) (rest := []) ⟨hx, hb, hml, hown, hts⟩ (m_X3_mean l hX hnw hn6 hT h8 hXm (mean_ok hn6 hL0.h3)) (cwV 0 hts gX4_isSame_X3_mean rfl rfl rfl (by decide +kernel) ⟨(Nat.le_of_ble_eq_true rfl), (Nat.le_of_ble_eq_true rfl)⟩) (fPre_ofV hG hI rfl (hXm 0 (by omega)) hX.1 rfl rfl) rfl rfl hl.1 rfl (lv_room (Nat.le_of_ble_eq_true rfl)) dX4_isSame_204 ⟨(by show _ ≤ 100; omega), (by show _ ≤ 700; omega)⟩) hI (fun r4 E5 H locs hp hI => ?_)
              obtain ⟨he, hq9⟩ := hp
              rw [hq9] at hI
              have he : r4 = p_mean n B := he
              subst he
              refine lv_aload_n hx hb dX4_isSame_207 rfl (lv_at hl 0 rfl) ?_
              have hS50 : Ec 50 = .inr (4, [.int (nI T), .ref (adN1 51), .ref (adN1 52), .int (nI nw), .ref (adN1 53), .ref (adN1 54)]) := hS.1
              refine f_get (ci := 4) (v := .ref (adN1 53)) (C := RX4) (T := TX4) (N := 6) hx hb hts (by decide +kernel) hown hG.1 hI rfl (hSm _ (by omega)) hS50 rfl 4 (by decide) (hts (.fieldLink RX4 17 "CoracleRaceLaw$Sim" "boats" "[[I") (by decide +kernel)) rfl dX4_isSame_208 ?_
              have hS53 : Ec 53 = .inl (cJ, n, .inr (.inr (.inr (.inr (row_at adN1 60 n))))) := hS.2.2.2.1
              refine f_alenA hx hb hG.1 hI rfl (hSm _ (by omega)) hS53 (v := nI n) rfl dX4_isSame_211 ?_
              refine lv_if_ne (tgt := 219) hx hb dX4_isSame_212 (by decide) (fun c_212 => ?_) (fun c_212 => ?_)
              · refine lv_iload_n hx hb dX4_isSame_219 rfl (lv_at hl 2 rfl) ?_
                refine lv_i2d hx hb dX4_isSame_220 ?_
                refine lv_aload_n hx hb dX4_isSame_221 rfl (lv_at hl 0 rfl) ?_
                refine f_get (ci := 4) (v := .ref (adN1 53)) (C := RX4) (T := TX4) (N := 6) hx hb hts (by decide +kernel) hown hG.1 hI rfl (hSm _ (by omega)) hS50 rfl 4 (by decide) (hts (.fieldLink RX4 17 "CoracleRaceLaw$Sim" "boats" "[[I") (by decide +kernel)) rfl dX4_isSame_222 ?_
                refine f_alenA hx hb hG.1 hI rfl (hSm _ (by omega)) hS53 (v := nI n) rfl dX4_isSame_225 ?_
                refine lv_i2d hx hb dX4_isSame_226 ?_
                refine lv_ddiv hx hb dX4_isSame_227 (mean_ok hn6 hL0.h3 (fun z => absurd ((nI_ltI (by omega) (by omega) (b := 1)).mp z) (by have : ¬ n = 0 := fun y => c_212 (by rw [y]; rfl); omega))) ?_
                refine lv_dcmp hx hb dX4_isSame_228 ?_
                refine lv_if_ne (tgt := 236) hx hb dX4_isSame_229 (by decide) (fun c_229 => ?_) (fun c_229 => ?_)
                · exact absurd (mean_cmp hn6 (fun z => c_212 (by rw [z]; rfl)) hL0.h3) c_229
                · refine lv_iconst (v := 1) hx hb dX4_isSame_232 (by decide) ?_
                  refine lv_goto (tgt := 237) hx hb dX4_isSame_233 (by decide) ?_
                  exact f_retz hQ hx hb hr hlocks hI.2.2 (by omega) (by omega) dX4_isSame_237 rfl () (fun _ _ => trivial) rfl
              · refine lv_dconst0 hx hb dX4_isSame_215 ?_
                refine lv_goto (tgt := 228) hx hb dX4_isSame_216 (by decide) ?_
                refine lv_dcmp hx hb dX4_isSame_228 ?_
                refine lv_if_ne (tgt := 236) hx hb dX4_isSame_229 (by decide) (fun c_229 => ?_) (fun c_229 => ?_)
                · exact absurd (by have z : n = 0 := (nI_eq (by omega) (by omega) (b := 0)).mp c_212; subst z; exact mean_cmp0) c_229
                · refine lv_iconst (v := 1) hx hb dX4_isSame_232 (by decide) ?_
                  refine lv_goto (tgt := 237) hx hb dX4_isSame_233 (by decide) ?_
                  exact f_retz hQ hx hb hr hlocks hI.2.2 (by omega) (by omega) dX4_isSame_237 rfl () (fun _ _ => trivial) rfl
            · have n_179 := c_179
              have c_179 := i_nle.mp n_179
              have hv0 : v < 7 := (nI_ltI (by omega) (by omega) (b := 7)).mp c_179
              have hcl : (nI v).toNatClampNeg = v := nI_clamp (by omega)
              refine lv_aload_n hx hb dX4_isSame_182 rfl (lv_at hl 1 rfl) ?_
              refine lv_iload hx hb dX4_isSame_183 (lv_at hl 4 rfl) ?_
              refine f_xcalli (vx_runV (As := [.int (nI v)]) (rest := []) ⟨hx, hb, hml, hown, hts⟩ (m_X3_count l hl9 hX hnw hn6 hT h8 hXm (nI v)) (cwV 1 hts gX4_isSame_X3_count rfl rfl rfl (by decide +kernel) ⟨(Nat.le_of_ble_eq_true rfl), (Nat.le_of_ble_eq_true rfl)⟩) (fPre_ofV hG hI rfl (hXm 0 (by omega)) hX.1 rfl rfl) rfl rfl hl.1 rfl (lv_room (Nat.le_of_ble_eq_true rfl)) dX4_isSame_185 ⟨(by show _ ≤ 100; omega), (by show _ ≤ 700; omega)⟩) hI (fun En ce q9 H locs hok hI hq1 hq2 hq3 => ?_) (fun r6 E7 H locs hp hI => ?_)
              · exact absurd hok.1 (by rw [ccount_0 (v := v) (by omega)]; decide)
              obtain ⟨-, hr9, hX, hn9⟩ := hp
              have hr9 : r6 = (p_cnt nw n T B v) := hr9.trans (by rw [show (nI v).toNatClampNeg = v from nI_clamp (by omega)])
              subst hr9
              have hc_due : E7 91 = .inl (cI, 7, .inl (p_cnt nw n T B)) := (hn9 91 (by omega)).trans hc_due
              have hS := hS.kept hn6 (fun q h1 h2 => hn9 q (by omega))
              refine lv_aload_n hx hb dX4_isSame_188 rfl (lv_at hl 3 rfl) ?_
              refine lv_iload hx hb dX4_isSame_189 (lv_at hl 4 rfl) ?_
              refine f_iald hx hb hG.1 hI hra in_last hc_due (vp_in_nI (by omega) (by omega)) dX4_isSame_191 ?_
              rw [show (nI v).toNatClampNeg = v from nI_clamp (by omega)]
              refine lv_icmp_eq (tgt := 197) hx hb dX4_isSame_192 (by decide) (fun c_192 => ?_) (fun c_192 => ?_)
              · refine lv_iinc (v := (nI (v + 1))) (lv' := [(4, .int (nI (v + 1))), (0, .ref (adN1 50)), (1, .ref (adN1 0)), (2, .int (p_psum B n)), (3, .ref ra3)]) hx hb dX4_isSame_197 hl (k := 4) rfl (nI_1 v) (by decide) rfl (fun ls hl => ?_)
                refine lv_goto (tgt := 175) hx hb dX4_isSame_200 (by decide) ?_
                exact ih2 (v + 1) (by omega) (by omega) E7 H locs ls _ _ (by omega) (by omega) hX hS hc_due hI (lv_sub hl [1, 2, 3, 4, 0] rfl)
              · exact absurd rfl c_192
        exact Kih2 (7 + 1) 0 (Nat.zero_le _) (by omega) EN2 H locs ls _ _ (by omega) (by omega) hX hS hc_due hI (lv_sub hl [2, 3, 4, 1, 0] rfl)
      · have n_10 := c_10
        have c_10 := i_nle.mp n_10
        have hi : i < n := (nI_ltI (by omega) (by omega)).mp c_10
        have hcl : (nI i).toNatClampNeg = i := nI_clamp (by omega)
        refine same_A l hx hb hml hts hown hG hl9 hL0 hT hLt hXm hSm hX hS hi (by omega) (by omega) hI (lv_sub hl [0, 1, 2, 3] rfl) (fun E2 H locs ls c2 s2 hc2 hs2 hX hS hI hl => ?_)
        refine lv_iinc (v := (nI (i + 1))) (lv' := [(3, .int (nI (i + 1))), (0, .ref (ad 50)), (1, .ref (ad 0)), (2, .int (p_psum B (i + 1)))]) hx hb dX4_isSame_161 hl (k := 3) rfl (nI_1 i) (by decide) rfl (fun ls hl => ?_)
        refine lv_goto (tgt := 4) hx hb dX4_isSame_164 (by decide) ?_
        exact ih (i + 1) (by omega) (by omega) E2 H locs ls _ _ (by omega) (by omega) hX hS hI (lv_sub hl [1, 2, 3, 0] rfl)
  exact Kih (n + 1) 0 (Nat.zero_le _) (by omega) E H locs ls _ _ (by omega) (by omega) hX hS hI (lv_sub hl [2, 3, 1, 0] rfl)
