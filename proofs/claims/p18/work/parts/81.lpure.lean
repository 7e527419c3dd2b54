/-! ===== new int[n][9], and what the law says of a tick, in the facts that it looks at ===== -/
section FMN
variable {p : Program} {l : Launch} {e : Env} {R : Room} {s : State} {m : MethodId} {args : Array Value} {below : List Frame} {meth : Method} {c : Code} {H H0 : Heap} {locs : List Loc} {cells slots : Nat} {Q : State → Prop}
variable {cc : ByteArray} {pc : Nat} {ls : Array Slot} {rest : List Value} {D : va_G} {A : Nat → Prop} {ad : Nat → Nat} {L : List Nat} {E : Nat → va_E}
theorem f_mna (hexec : p.tables.exec = Jvm.exec) (hb : c.code = cc) {own : String} {index : Nat} (hown : s.vm.findClass own = some m.cls) (hclink : (Cond.classLink own index "[[I").before args s = true) (hO : va_AOA .int s) (harr : (Cond.arrayClass .int).before args s = true) {cI cJ cB : ClassId} (hK : va_K D vwCl (fTys cI cJ cB) s) (hI : fI D A H0 ad L E H locs) (hA : ∀ q, H0.size ≤ q → A q) {N : Nat} (hN6 : N ≤ 6) {k k1 : Nat} (hkk : k < k1) (hcells : cells + (1 + N) ≤ R.cells) (hslots : slots + (N + N * 9) ≤ R.slots) (hdg : decode cc pc = .ok (.multianewarray index 2, 4))
    (kk : ∀ (a : Nat) (ad1 : Nat → Nat) (E1 : Nat → va_E) (H1 : Heap), ad1 k = a → (∀ q, q ≠ k → (q < k1 ∨ k1 + N ≤ q) → ad1 q = ad q) → E1 k = .inl (cJ, N, .inr (.inr (.inr (.inr (row_at ad1 k1 N))))) → (∀ i, i < N → E1 (k1 + i) = .inl (cI, 9, .inl (fun _ => 0))) → (∀ q, q ≠ k → (q < k1 ∨ k1 + N ≤ q) → E1 q = E q) → (∀ q, q ∈ L → q < k) → fI D A H0 ad1 (L ++ [k] ++ (List.range N).map (fun i => k1 + i)) E1 H1 locs →
      W p l e R s m args below meth c H1 locs (cells + 1 + N) (slots + N + N * 9) Q (F0 m (pc + 4) ls (.ref a :: rest))) (hLk : ∀ q, q ∈ L → q < k) : W p l e R s m args below meth c H locs cells slots Q (F0 m pc ls (.int 9 :: .int (nI N) :: rest)) := by
  have hP0 : va_P D vwCl (fW L ad E ++ va_pl [] (fun _ => (.inr (0, []) : va_E))) H := by rw [show va_pl [] (fun _ => (.inr (0, []) : va_E)) = [] from rfl, List.append_nil]; exact hI.1
  have hD0 : va_D A (fW L ad E ++ va_pl [] (fun _ => (.inr (0, []) : va_E))) := by rw [show va_pl [] (fun _ => (.inr (0, []) : va_E)) = [] from rfl, List.append_nil]; exact hI.2.1
  refine va_mna (ty := .int) (cy := cI) (N' := N) (K' := 9) (z := (9, .inl (fun _ => 0))) hexec hb hown (by rw [show ("[" ++ (FieldType.array .int).toString) = "[[I" from by decide]; exact hclink) hO harr (va_nm_int (hK.2 0 _ rfl).2) hK hP0 hD0 hI.2.2 hA (nI_pos (by omega)) (by decide) (nI_clamp (by omega)) (by decide) (by omega) (by decide) (by decide) rfl rfl hcells hslots (fun cX => ?_) hdg (fun q0 r cA H1 hri hrn hK1 hP1 hD1 hS1 => ?_)
  · rw [vp_cell_i, ← arrV_new]
    rfl
  · have e1 : cA = cJ := Option.some.inj (((hK1.2 3 (cA, .array .int) rfl).2 : s.vm.findClass ("[" ++ (FieldType.array .int).toString) = some cA).symm.trans (hK.2 1 _ rfl).2)
    subst e1
    obtain ⟨ad1, a1, a2, a3⟩ : ∃ ad1 : Nat → Nat, ad1 k = q0 ∧ (∀ i, i < N → ad1 (k1 + i) = r i) ∧ ∀ q, q ≠ k → (q < k1 ∨ k1 + N ≤ q) → ad1 q = ad q := by
      refine ⟨fun q => if q = k then q0 else if k1 ≤ q ∧ q < k1 + N then r (q - k1) else ad q, if_pos rfl, fun i hi => ?_, fun q h1 h2 => ?_⟩
      · show (if k1 + i = k then q0 else if k1 ≤ k1 + i ∧ k1 + i < k1 + N then r (k1 + i - k1) else ad (k1 + i)) = r i
        rw [if_neg (by omega), if_pos (by omega), Nat.add_sub_cancel_left]
      · show (if q = k then q0 else if k1 ≤ q ∧ q < k1 + N then r (q - k1) else ad q) = ad q
        rw [if_neg h1, if_neg (by omega)]
    obtain ⟨E1, b1, b2, b3⟩ : ∃ E1 : Nat → va_E, E1 k = .inl (cA, N, .inr (.inr (.inr (.inr (row_at ad1 k1 N))))) ∧ (∀ i, i < N → E1 (k1 + i) = .inl (cI, 9, .inl (fun _ => 0))) ∧ ∀ q, q ≠ k → (q < k1 ∨ k1 + N ≤ q) → E1 q = E q := by
      refine ⟨fun q => if q = k then .inl (cA, N, .inr (.inr (.inr (.inr (row_at ad1 k1 N))))) else if k1 ≤ q ∧ q < k1 + N then .inl (cI, 9, .inl (fun _ => 0)) else E q, if_pos rfl, fun i hi => ?_, fun q h1 h2 => ?_⟩
      · show (if k1 + i = k then _ else if k1 ≤ k1 + i ∧ k1 + i < k1 + N then _ else E (k1 + i)) = _
        rw [if_neg (by omega), if_pos (by omega)]
      · show (if q = k then _ else if k1 ≤ q ∧ q < k1 + N then _ else E q) = E q
        rw [if_neg h1, if_neg (by omega)]
    have hrow : (fun i => if i < N then some (r i) else none) = row_at ad1 k1 N := by
      funext i
      unfold row_at
      by_cases hi : i < N
      · rw [if_pos hi, if_pos hi, a2 i hi]
      · rw [if_neg hi, if_neg hi]
    have hw : (fW L ad E ++ [(q0, .inl (cA, N, .inr (.inr (.inr (.inr (fun i => if i < N then some (r i) else none))))))]) ++ va_pl ([] ++ (List.range N).map r) (vr_up (fun _ => (.inr (0, []) : va_E)) ((List.range N).map r) (.inl (cI, (9, .inl (fun _ => 0))))) = fW (L ++ [k] ++ (List.range N).map (fun i => k1 + i)) ad1 E1 := by
      have p1 : fW L ad E = fW L ad1 E1 := fW_congr (fun q hq => by
        have := hLk q hq
        exact ⟨(a3 q (by omega) (by omega)).symm, (b3 q (by omega) (by omega)).symm⟩)
      rw [p1, hrow]
      unfold fW va_pl
      rw [List.nil_append, List.map_append, List.map_append, List.map_map, List.map_map]
      congr 1
      · show _ = List.map (fun k => (ad1 k, E1 k)) L ++ [(ad1 k, E1 k)]
        rw [a1, b1]
      · apply List.map_congr_left
        intro i hi
        have hi' := List.mem_range.mp hi
        show (r i, vr_up _ ((List.range N).map r) _ (r i)) = (ad1 (k1 + i), E1 (k1 + i))
        rw [a2 i hi', b2 i hi', vr_up_in (List.mem_map.mpr ⟨i, hi, rfl⟩)]
    rw [hw] at hP1 hD1
    exact kk q0 ad1 E1 H1 a1 a3 b1 b2 b3 hLk ⟨hP1, hD1, hS1⟩
end FMN
/-- the law's rows of a tick: what the boats told before it at 80 (rows from 81 on), when they come in at 90 -/
def w_at (cI cJ : ClassId) (ad : Nat → Nat) (E : Nat → va_E) (n : Nat) (B : Nat → Nat → Int32) (G : Nat → Int32) : Prop :=
  E 80 = .inl (cJ, n, .inr (.inr (.inr (.inr (row_at ad 81 n))))) ∧ (∀ i, i < n → E (81 + i) = .inl (cI, 9, .inl (p_fact (B i)))) ∧ E 90 = .inl (cI, n, .inl G)
theorem w_at.kept {cI cJ : ClassId} {ad : Nat → Nat} {E E1 : Nat → va_E} {n : Nat} {B : Nat → Nat → Int32} {G : Nat → Int32} (h : w_at cI cJ ad E n B G) (hn : n ≤ 6) (hk : ∀ q : Nat, 80 ≤ q → q < 91 → E1 q = E q) : w_at cI cJ ad E1 n B G :=
  ⟨(hk _ (by omega) (by omega)).trans h.1, fun i hi => (hk _ (by omega) (by omega)).trans (h.2.1 i hi), (hk _ (by omega) (by omega)).trans h.2.2⟩
theorem w_at.ad {cI cJ : ClassId} {ad ad1 : Nat → Nat} {E : Nat → va_E} {n : Nat} {B : Nat → Nat → Int32} {G : Nat → Int32} (h : w_at cI cJ ad E n B G) (hn : n ≤ 6) (h1 : ∀ q, 80 ≤ q → q < 91 → ad1 q = ad q) : w_at cI cJ ad1 E n B G :=
  ⟨by rw [row_at_ad (fun i hi => h1 _ (by omega) (by omega))]; exact h.1, h.2.1, h.2.2⟩
/-! a boat's tick, in its facts -/
theorem dec_abs1 : ∀ a, a < 5 → (¬ 1 < p_abs (nI a - nI a)) ∧ (¬ 1 < p_abs (nI a + 1 - nI a)) ∧ ¬ 1 < p_abs (nI a - 1 - nI a) := by decide +kernel
theorem dec_abs4 : ∀ h, h < 9 → ¬ 4 < p_abs (nI h - 4) := by decide +kernel
section
variable {p g : Nat → Int32} {nw T : Nat} {b c : Nat → Int32}
theorem tl_goes (h : tlaw p g nw T b c) : ¬ p_fact c 0 - p_fact b 0 < 0 := by
  obtain ⟨P0, P1, s, e0, e1, -, -, h1, h2, -⟩ := h
  show ¬ c 3 - b 3 < 0
  rw [e0, e1, pk_sub h1]
  exact nI_pos (by omega)
theorem tl_far (h : tlaw p g nw T b c) : ¬ c 2 + 6 < p_fact c 0 - p_fact b 0 := by
  obtain ⟨P0, P1, s, e0, e1, e2, hs, h1, h2, h3, -, -, -, -, -, -, e22⟩ := h
  show ¬ c 2 + 6 < c 3 - b 3
  rw [e22, e0, e1, e2, pk_sub h1, fa_lit 6, nI_add, nI_ltI (by omega) (by omega)]
  omega
theorem tl_200 (h : okb c) : ¬ 200 < p_fact c 0 := i_nlt.mpr h.2.2.1.2
theorem tl_lane (h : tlaw p g nw T b c) (hb : okb b) : ¬ 1 < p_abs (p_fact c 1 - p_fact b 1) := by
  obtain ⟨P0, P1, s, -, -, -, -, -, -, -, -, -, h4, -⟩ := h
  obtain ⟨i, hi, e⟩ := ix_nat (n := 5) hb.2.2.2.1 (by omega)
  show ¬ 1 < p_abs (c 4 - b 4)
  obtain ⟨d1, d2, d3⟩ := dec_abs1 i hi
  rcases h4 with q | q | q <;> rw [q, e] <;> assumption
theorem tl_lane0 (h : okb c) : ¬ p_fact c 1 < 0 := i_nlt.mpr h.2.2.2.1.1
theorem tl_lane4 (h : okb c) : ¬ 4 < p_fact c 1 := by
  obtain ⟨i, hi, e⟩ := ix_nat (n := 5) h.2.2.2.1 (by omega)
  show ¬ 4 < c 4
  rw [e, fa_lit 4, nI_ltI (by omega) (by omega)]
  omega
theorem tl_head (h : okb c) : ¬ 4 < p_abs (p_fact c 2) := by
  obtain ⟨i, hi, e⟩ := hd_of h.2.2.2.2.1
  show ¬ 4 < p_abs (c 5)
  rw [e]
  exact dec_abs4 i hi
theorem tl_soak (h : tlaw p g nw T b c) : ¬ p_fact c 3 < p_fact b 3 := by
  obtain ⟨P0, P1, s, -, -, -, -, -, -, -, -, -, -, -, h6, -⟩ := h
  exact i_nlt.mpr h6
theorem tl_30 (h : okb c) : ¬ 30 < p_fact c 3 := i_nlt.mpr h.2.2.2.2.2.1.2
theorem tl_foul (h : tlaw p g nw T b c) (hn : ¬ p_fact c 4 = p_fact b 4) : p_fact c 4 = p_fact b 4 + 3 := by
  obtain ⟨P0, P1, s, -, -, -, -, -, -, -, -, -, -, h7, -⟩ := h
  exact h7.elim (fun q => absurd q hn) id
theorem tl_in (h : tlaw p g nw T b c) : (c 8 = 0 ∧ ¬ c 3 = 200) ∨ (¬ c 8 = 0 ∧ c 3 = 200 ∧ c 9 = nI T) := by
  obtain ⟨P0, P1, s, -, -, -, -, -, -, -, -, -, -, -, -, h8, -⟩ := h
  rcases h8 with q | q
  · exact Or.inl q
  · exact Or.inr ⟨by rw [q.1]; decide, q.2⟩
theorem tl_spin (h : tlaw p g nw T b c) (hb : okc T b) (hT : T < 2 ^ 30) : ¬ p_fact b 7 + 1 < p_fact c 7 := by
  obtain ⟨P0, P1, s, -, -, -, -, -, -, -, -, h10, -⟩ := h
  obtain ⟨u, hu, e⟩ := hb.2.2.2.1
  show ¬ b 10 + 1 < c 10
  rcases h10 with q | q
  · rw [q, e, ← nI_succ, nI_ltI (by omega) (by omega)]; omega
  · rw [q.1, fa_lt]; omega
theorem tl_stop (h : tlaw p g nw T b c) (hb : okc T b) (hT : T < 2 ^ 30) : p_fact c 8 ≤ p_fact b 8 + 1 := by
  obtain ⟨P0, P1, s, -, -, -, -, -, -, -, h11, -⟩ := h
  obtain ⟨u, hu, e⟩ := hb.2.2.2.2
  show c 11 ≤ b 11 + 1
  rcases h11 with q | q
  · rw [q.1, e, ← nI_succ, nI_leI (by omega) (by omega)]; omega
  · rw [q.1, fa_le]; omega
theorem st_lt (hb : okc T b) (hT : T < 2 ^ 30) (h : c 11 = b 11 + 1) : p_fact b 8 < p_fact c 8 := by
  obtain ⟨u, hu, e⟩ := hb.2.2.2.2
  show b 11 < c 11
  rw [h, e, ← nI_succ, nI_ltI (by omega) (by omega)]
  omega
theorem st_le (h : c 11 = b 11) : p_fact c 8 ≤ p_fact b 8 := by
  show c 11 ≤ b 11
  rw [h, fa_le]; omega
theorem sp_0 (h : tlaw p g nw T b c) (hlt : p_fact b 7 < p_fact c 7) : p_fact c 2 = 0 := by
  obtain ⟨P0, P1, s, -, -, -, -, -, -, -, -, h10, -⟩ := h
  rcases h10 with q | q
  · have : p_fact b 7 < p_fact b 7 := by
      show b 10 < b 10
      rw [← q]
      have h9 : b 10 < c 10 := hlt
      rw [← q] at h9
      exact h9
    rw [fa_lt] at this
    omega
  · exact q.2
end
theorem tk_in {w p g f b : Nat → Int32} {nw : Nat} {t : Int32} (h : ¬ b 8 = 0) : p_tick w p g nw t f b = b := if_neg h
theorem tk_law {w p g f b : Nat → Int32} {nw T : Nat} (hv : okv w p g nw) (hb : okb b) (h8 : b 8 = 0) : tlaw p g nw T b (p_tick w p g nw (nI T) f b) := by
  unfold p_tick
  rw [if_pos h8]
  exact tick_law hv hb h8
theorem rk_q {B : Nat → Nat → Int32} {n q : Nat} (h : p_rk B (B q) n = 0) : 1 + p_rk B (B q) n = 1 := by rw [h]; rfl
theorem cnt_3 {nw n T : Nat} {B : Nat → Nat → Int32} : p_cnt nw n T B 3 = p_in B n := rfl
theorem in_add {a b : Int32} : b + (a - b) = a := by grind
